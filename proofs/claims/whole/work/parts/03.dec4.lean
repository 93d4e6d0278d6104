theorem dX6_begin_121 : decode cX6_begin 121 = .ok (.getfield 7, 3) := by decide +kernel
theorem dX6_begin_124 : decode cX6_begin 124 = .ok (.iconst 3, 1) := by decide +kernel
theorem dX6_begin_125 : decode cX6_begin 125 = .ok (.laload, 1) := by decide +kernel
theorem dX6_begin_126 : decode cX6_begin 126 = .ok (.aload_n 0, 1) := by decide +kernel
theorem dX6_begin_127 : decode cX6_begin 127 = .ok (.getfield 7, 3) := by decide +kernel
theorem dX6_begin_130 : decode cX6_begin 130 = .ok (.bipush 9, 2) := by decide +kernel
theorem dX6_begin_132 : decode cX6_begin 132 = .ok (.laload, 1) := by decide +kernel
theorem dX6_begin_133 : decode cX6_begin 133 = .ok (.ladd, 1) := by decide +kernel
theorem dX6_begin_134 : decode cX6_begin 134 = .ok (.lastore, 1) := by decide +kernel
theorem dX6_begin_135 : decode cX6_begin 135 = .ok (.aload_n 0, 1) := by decide +kernel
theorem dX6_begin_136 : decode cX6_begin 136 = .ok (.getfield 7, 3) := by decide +kernel
theorem dX6_begin_139 : decode cX6_begin 139 = .ok (.bipush 11, 2) := by decide +kernel
theorem dX6_begin_141 : decode cX6_begin 141 = .ok (.aload_n 0, 1) := by decide +kernel
theorem dX6_begin_142 : decode cX6_begin 142 = .ok (.getfield 172, 3) := by decide +kernel
theorem dX6_begin_145 : decode cX6_begin 145 = .ok (.ifCond .eq 7, 3) := by decide +kernel
theorem dX6_begin_148 : decode cX6_begin 148 = .ok (.lconst 1, 1) := by decide +kernel
theorem dX6_begin_149 : decode cX6_begin 149 = .ok (.goto 4, 3) := by decide +kernel
theorem dX6_begin_152 : decode cX6_begin 152 = .ok (.lconst 0, 1) := by decide +kernel
theorem dX6_begin_153 : decode cX6_begin 153 = .ok (.lastore, 1) := by decide +kernel
theorem dX6_begin_154 : decode cX6_begin 154 = .ok (.aload_n 0, 1) := by decide +kernel
theorem dX6_begin_155 : decode cX6_begin 155 = .ok (.getfield 7, 3) := by decide +kernel
theorem dX6_begin_158 : decode cX6_begin 158 = .ok (.bipush 12, 2) := by decide +kernel
theorem dX6_begin_160 : decode cX6_begin 160 = .ok (.aload_n 0, 1) := by decide +kernel
theorem dX6_begin_161 : decode cX6_begin 161 = .ok (.getfield 7, 3) := by decide +kernel
theorem dX6_begin_164 : decode cX6_begin 164 = .ok (.iconst 3, 1) := by decide +kernel
theorem dX6_begin_165 : decode cX6_begin 165 = .ok (.laload, 1) := by decide +kernel
theorem dX6_begin_166 : decode cX6_begin 166 = .ok (.lastore, 1) := by decide +kernel
theorem dX6_begin_167 : decode cX6_begin 167 = .ok (.aload_n 0, 1) := by decide +kernel
theorem dX6_begin_168 : decode cX6_begin 168 = .ok (.getfield 7, 3) := by decide +kernel
theorem dX6_begin_171 : decode cX6_begin 171 = .ok (.iload_n 2, 1) := by decide +kernel
theorem dX6_begin_172 : decode cX6_begin 172 = .ok (.iconst 4, 1) := by decide +kernel
theorem dX6_begin_173 : decode cX6_begin 173 = .ok (.invokestatic 46, 3) := by decide +kernel
theorem dX6_begin_176 : decode cX6_begin 176 = .ok (.lconst 1, 1) := by decide +kernel
theorem dX6_begin_177 : decode cX6_begin 177 = .ok (.lastore, 1) := by decide +kernel
theorem dX6_begin_178 : decode cX6_begin 178 = .ok (.return_, 1) := by decide +kernel
theorem dX6_lagOf_0 : decode cX6_lagOf 0 = .ok (.aload_n 0, 1) := by decide +kernel
theorem dX6_lagOf_1 : decode cX6_lagOf 1 = .ok (.iload_n 1, 1) := by decide +kernel
theorem dX6_lagOf_2 : decode cX6_lagOf 2 = .ok (.bipush 15, 2) := by decide +kernel
theorem dX6_lagOf_4 : decode cX6_lagOf 4 = .ok (.invokevirtual 53, 3) := by decide +kernel
theorem dX6_lagOf_7 : decode cX6_lagOf 7 = .ok (.ldc2_w 81, 3) := by decide +kernel
theorem dX6_lagOf_10 : decode cX6_lagOf 10 = .ok (.aload_n 0, 1) := by decide +kernel
theorem dX6_lagOf_11 : decode cX6_lagOf 11 = .ok (.iload_n 1, 1) := by decide +kernel
theorem dX6_lagOf_12 : decode cX6_lagOf 12 = .ok (.bipush 6, 2) := by decide +kernel
theorem dX6_lagOf_14 : decode cX6_lagOf 14 = .ok (.invokevirtual 53, 3) := by decide +kernel
theorem dX6_lagOf_17 : decode cX6_lagOf 17 = .ok (.lmul, 1) := by decide +kernel
theorem dX6_lagOf_18 : decode cX6_lagOf 18 = .ok (.lsub, 1) := by decide +kernel
theorem dX6_lagOf_19 : decode cX6_lagOf 19 = .ok (.lreturn, 1) := by decide +kernel
theorem dX6_tick_0 : decode cX6_tick 0 = .ok (.aload_n 0, 1) := by decide +kernel
theorem dX6_tick_1 : decode cX6_tick 1 = .ok (.bipush (-6), 2) := by decide +kernel
theorem dX6_tick_3 : decode cX6_tick 3 = .ok (.putfield 154, 3) := by decide +kernel
theorem dX6_tick_6 : decode cX6_tick 6 = .ok (.aload_n 0, 1) := by decide +kernel
theorem dX6_tick_7 : decode cX6_tick 7 = .ok (.getfield 7, 3) := by decide +kernel
theorem dX6_tick_10 : decode cX6_tick 10 = .ok (.iconst 0, 1) := by decide +kernel
theorem dX6_tick_11 : decode cX6_tick 11 = .ok (.dup2, 1) := by decide +kernel
theorem dX6_tick_12 : decode cX6_tick 12 = .ok (.laload, 1) := by decide +kernel
theorem dX6_tick_13 : decode cX6_tick 13 = .ok (.lconst 1, 1) := by decide +kernel
theorem dX6_tick_14 : decode cX6_tick 14 = .ok (.ladd, 1) := by decide +kernel
theorem dX6_tick_15 : decode cX6_tick 15 = .ok (.lastore, 1) := by decide +kernel
theorem dX6_tick_16 : decode cX6_tick 16 = .ok (.aload_n 0, 1) := by decide +kernel
theorem dX6_tick_17 : decode cX6_tick 17 = .ok (.getfield 7, 3) := by decide +kernel
theorem dX6_tick_20 : decode cX6_tick 20 = .ok (.bipush 8, 2) := by decide +kernel
theorem dX6_tick_22 : decode cX6_tick 22 = .ok (.laload, 1) := by decide +kernel
theorem dX6_tick_23 : decode cX6_tick 23 = .ok (.lconst 0, 1) := by decide +kernel
theorem dX6_tick_24 : decode cX6_tick 24 = .ok (.lcmp, 1) := by decide +kernel
theorem dX6_tick_25 : decode cX6_tick 25 = .ok (.ifCond .lt 41, 3) := by decide +kernel
theorem dX6_tick_28 : decode cX6_tick 28 = .ok (.aload_n 0, 1) := by decide +kernel
theorem dX6_tick_29 : decode cX6_tick 29 = .ok (.getfield 7, 3) := by decide +kernel
theorem dX6_tick_32 : decode cX6_tick 32 = .ok (.bipush 13, 2) := by decide +kernel
theorem dX6_tick_34 : decode cX6_tick 34 = .ok (.dup2, 1) := by decide +kernel
theorem dX6_tick_35 : decode cX6_tick 35 = .ok (.laload, 1) := by decide +kernel
theorem dX6_tick_36 : decode cX6_tick 36 = .ok (.lconst 1, 1) := by decide +kernel
theorem dX6_tick_37 : decode cX6_tick 37 = .ok (.ladd, 1) := by decide +kernel
theorem dX6_tick_38 : decode cX6_tick 38 = .ok (.lastore, 1) := by decide +kernel
theorem dX6_tick_39 : decode cX6_tick 39 = .ok (.aload_n 0, 1) := by decide +kernel
theorem dX6_tick_40 : decode cX6_tick 40 = .ok (.getfield 7, 3) := by decide +kernel
theorem dX6_tick_43 : decode cX6_tick 43 = .ok (.bipush 10, 2) := by decide +kernel
theorem dX6_tick_45 : decode cX6_tick 45 = .ok (.dup2, 1) := by decide +kernel
theorem dX6_tick_46 : decode cX6_tick 46 = .ok (.laload, 1) := by decide +kernel
theorem dX6_tick_47 : decode cX6_tick 47 = .ok (.lconst 1, 1) := by decide +kernel
theorem dX6_tick_48 : decode cX6_tick 48 = .ok (.lsub, 1) := by decide +kernel
theorem dX6_tick_49 : decode cX6_tick 49 = .ok (.lastore, 1) := by decide +kernel
theorem dX6_tick_50 : decode cX6_tick 50 = .ok (.aload_n 0, 1) := by decide +kernel
theorem dX6_tick_51 : decode cX6_tick 51 = .ok (.getfield 7, 3) := by decide +kernel
theorem dX6_tick_54 : decode cX6_tick 54 = .ok (.bipush 10, 2) := by decide +kernel
theorem dX6_tick_56 : decode cX6_tick 56 = .ok (.laload, 1) := by decide +kernel
theorem dX6_tick_57 : decode cX6_tick 57 = .ok (.lconst 0, 1) := by decide +kernel
theorem dX6_tick_58 : decode cX6_tick 58 = .ok (.lcmp, 1) := by decide +kernel
theorem dX6_tick_59 : decode cX6_tick 59 = .ok (.ifCond .ne 7, 3) := by decide +kernel
theorem dX6_tick_62 : decode cX6_tick 62 = .ok (.aload_n 0, 1) := by decide +kernel
theorem dX6_tick_63 : decode cX6_tick 63 = .ok (.invokevirtual 178, 3) := by decide +kernel
theorem dX6_tick_66 : decode cX6_tick 66 = .ok (.aload_n 0, 1) := by decide +kernel
theorem dX6_tick_67 : decode cX6_tick 67 = .ok (.invokevirtual 181, 3) := by decide +kernel
theorem dX6_tick_70 : decode cX6_tick 70 = .ok (.iconst 0, 1) := by decide +kernel
theorem dX6_tick_71 : decode cX6_tick 71 = .ok (.istore_n 1, 1) := by decide +kernel
theorem dX6_tick_72 : decode cX6_tick 72 = .ok (.iload_n 1, 1) := by decide +kernel
theorem dX6_tick_73 : decode cX6_tick 73 = .ok (.i2l, 1) := by decide +kernel
theorem dX6_tick_74 : decode cX6_tick 74 = .ok (.aload_n 0, 1) := by decide +kernel
theorem dX6_tick_75 : decode cX6_tick 75 = .ok (.getfield 7, 3) := by decide +kernel
theorem dX6_tick_78 : decode cX6_tick 78 = .ok (.iconst 2, 1) := by decide +kernel
theorem dX6_tick_79 : decode cX6_tick 79 = .ok (.laload, 1) := by decide +kernel
theorem dX6_tick_80 : decode cX6_tick 80 = .ok (.lcmp, 1) := by decide +kernel
theorem dX6_tick_81 : decode cX6_tick 81 = .ok (.ifCond .ge 14, 3) := by decide +kernel
theorem dX6_tick_84 : decode cX6_tick 84 = .ok (.aload_n 0, 1) := by decide +kernel
theorem dX6_tick_85 : decode cX6_tick 85 = .ok (.iload_n 1, 1) := by decide +kernel
theorem dX6_tick_86 : decode cX6_tick 86 = .ok (.invokevirtual 184, 3) := by decide +kernel
theorem dX6_tick_89 : decode cX6_tick 89 = .ok (.iinc 1 1, 3) := by decide +kernel
theorem dX6_tick_92 : decode cX6_tick 92 = .ok (.goto (-20), 3) := by decide +kernel
theorem dX6_tick_95 : decode cX6_tick 95 = .ok (.aload_n 0, 1) := by decide +kernel
theorem dX6_tick_96 : decode cX6_tick 96 = .ok (.invokevirtual 187, 3) := by decide +kernel
theorem dX6_tick_99 : decode cX6_tick 99 = .ok (.aload_n 0, 1) := by decide +kernel
theorem dX6_tick_100 : decode cX6_tick 100 = .ok (.getfield 7, 3) := by decide +kernel
theorem dX6_tick_103 : decode cX6_tick 103 = .ok (.bipush 8, 2) := by decide +kernel
theorem dX6_tick_105 : decode cX6_tick 105 = .ok (.laload, 1) := by decide +kernel
theorem dX6_tick_106 : decode cX6_tick 106 = .ok (.lconst 0, 1) := by decide +kernel
theorem dX6_tick_107 : decode cX6_tick 107 = .ok (.lcmp, 1) := by decide +kernel
theorem dX6_tick_108 : decode cX6_tick 108 = .ok (.ifCond .ge 7, 3) := by decide +kernel
theorem dX6_tick_111 : decode cX6_tick 111 = .ok (.aload_n 0, 1) := by decide +kernel
theorem dX6_tick_112 : decode cX6_tick 112 = .ok (.invokevirtual 190, 3) := by decide +kernel
theorem dX6_tick_115 : decode cX6_tick 115 = .ok (.iconst 0, 1) := by decide +kernel
theorem dX6_tick_116 : decode cX6_tick 116 = .ok (.istore_n 1, 1) := by decide +kernel
theorem dX6_tick_117 : decode cX6_tick 117 = .ok (.iload_n 1, 1) := by decide +kernel
theorem dX6_tick_118 : decode cX6_tick 118 = .ok (.i2l, 1) := by decide +kernel
theorem dX6_tick_119 : decode cX6_tick 119 = .ok (.aload_n 0, 1) := by decide +kernel
theorem dX6_tick_120 : decode cX6_tick 120 = .ok (.getfield 7, 3) := by decide +kernel
theorem dX6_tick_123 : decode cX6_tick 123 = .ok (.iconst 2, 1) := by decide +kernel
theorem dX6_tick_124 : decode cX6_tick 124 = .ok (.laload, 1) := by decide +kernel
theorem dX6_tick_125 : decode cX6_tick 125 = .ok (.lcmp, 1) := by decide +kernel
theorem dX6_tick_126 : decode cX6_tick 126 = .ok (.ifCond .ge 51, 3) := by decide +kernel
theorem dX6_tick_129 : decode cX6_tick 129 = .ok (.aload_n 0, 1) := by decide +kernel
theorem dX6_tick_130 : decode cX6_tick 130 = .ok (.getfield 7, 3) := by decide +kernel
theorem dX6_tick_133 : decode cX6_tick 133 = .ok (.iload_n 1, 1) := by decide +kernel
theorem dX6_tick_134 : decode cX6_tick 134 = .ok (.bipush 16, 2) := by decide +kernel
theorem dX6_tick_136 : decode cX6_tick 136 = .ok (.invokestatic 40, 3) := by decide +kernel
theorem dX6_tick_139 : decode cX6_tick 139 = .ok (.aload_n 0, 1) := by decide +kernel
theorem dX6_tick_140 : decode cX6_tick 140 = .ok (.iload_n 1, 1) := by decide +kernel
theorem dX6_tick_141 : decode cX6_tick 141 = .ok (.invokevirtual 193, 3) := by decide +kernel
theorem dX6_tick_144 : decode cX6_tick 144 = .ok (.aload_n 0, 1) := by decide +kernel
theorem dX6_tick_145 : decode cX6_tick 145 = .ok (.iload_n 1, 1) := by decide +kernel
theorem dX6_tick_146 : decode cX6_tick 146 = .ok (.bipush 16, 2) := by decide +kernel
theorem dX6_tick_148 : decode cX6_tick 148 = .ok (.invokevirtual 53, 3) := by decide +kernel
theorem dX6_tick_151 : decode cX6_tick 151 = .ok (.lcmp, 1) := by decide +kernel
theorem dX6_tick_152 : decode cX6_tick 152 = .ok (.ifCond .le 11, 3) := by decide +kernel
theorem dX6_tick_155 : decode cX6_tick 155 = .ok (.aload_n 0, 1) := by decide +kernel
theorem dX6_tick_156 : decode cX6_tick 156 = .ok (.iload_n 1, 1) := by decide +kernel
theorem dX6_tick_157 : decode cX6_tick 157 = .ok (.invokevirtual 193, 3) := by decide +kernel
theorem dX6_tick_160 : decode cX6_tick 160 = .ok (.goto 10, 3) := by decide +kernel
theorem dX6_tick_163 : decode cX6_tick 163 = .ok (.aload_n 0, 1) := by decide +kernel
theorem dX6_tick_164 : decode cX6_tick 164 = .ok (.iload_n 1, 1) := by decide +kernel
theorem dX6_tick_165 : decode cX6_tick 165 = .ok (.bipush 16, 2) := by decide +kernel
theorem dX6_tick_167 : decode cX6_tick 167 = .ok (.invokevirtual 53, 3) := by decide +kernel
theorem dX6_tick_170 : decode cX6_tick 170 = .ok (.lastore, 1) := by decide +kernel
theorem dX6_tick_171 : decode cX6_tick 171 = .ok (.iinc 1 1, 3) := by decide +kernel
theorem dX6_tick_174 : decode cX6_tick 174 = .ok (.goto (-57), 3) := by decide +kernel
theorem dX6_tick_177 : decode cX6_tick 177 = .ok (.return_, 1) := by decide +kernel
theorem dX6_advance_0 : decode cX6_advance 0 = .ok (.iload_n 1, 1) := by decide +kernel
theorem dX6_advance_1 : decode cX6_advance 1 = .ok (.i2l, 1) := by decide +kernel
theorem dX6_advance_2 : decode cX6_advance 2 = .ok (.lconst 1, 1) := by decide +kernel
theorem dX6_advance_3 : decode cX6_advance 3 = .ok (.ldc2_w 83, 3) := by decide +kernel
theorem dX6_advance_6 : decode cX6_advance 6 = .ok (.invokestatic 36, 3) := by decide +kernel
theorem dX6_advance_9 : decode cX6_advance 9 = .ok (.ifCond .ne 6, 3) := by decide +kernel
theorem dX6_advance_12 : decode cX6_advance 12 = .ok (.bipush (-2), 2) := by decide +kernel
theorem dX6_advance_14 : decode cX6_advance 14 = .ok (.ireturn, 1) := by decide +kernel
theorem dX6_advance_15 : decode cX6_advance 15 = .ok (.aload_n 0, 1) := by decide +kernel
theorem dX6_advance_16 : decode cX6_advance 16 = .ok (.getfield 7, 3) := by decide +kernel
theorem dX6_advance_19 : decode cX6_advance 19 = .ok (.iconst 0, 1) := by decide +kernel
theorem dX6_advance_20 : decode cX6_advance 20 = .ok (.laload, 1) := by decide +kernel
theorem dX6_advance_21 : decode cX6_advance 21 = .ok (.iload_n 1, 1) := by decide +kernel
theorem dX6_advance_22 : decode cX6_advance 22 = .ok (.i2l, 1) := by decide +kernel
theorem dX6_advance_23 : decode cX6_advance 23 = .ok (.ladd, 1) := by decide +kernel
theorem dX6_advance_24 : decode cX6_advance 24 = .ok (.ldc2_w 196, 3) := by decide +kernel
theorem dX6_advance_27 : decode cX6_advance 27 = .ok (.lcmp, 1) := by decide +kernel
theorem dX6_advance_28 : decode cX6_advance 28 = .ok (.ifCond .le 6, 3) := by decide +kernel
theorem dX6_advance_31 : decode cX6_advance 31 = .ok (.bipush (-5), 2) := by decide +kernel
theorem dX6_advance_33 : decode cX6_advance 33 = .ok (.ireturn, 1) := by decide +kernel
theorem dX6_advance_34 : decode cX6_advance 34 = .ok (.iconst 0, 1) := by decide +kernel
theorem dX6_advance_35 : decode cX6_advance 35 = .ok (.istore_n 2, 1) := by decide +kernel
theorem dX6_advance_36 : decode cX6_advance 36 = .ok (.iload_n 2, 1) := by decide +kernel
theorem dX6_advance_37 : decode cX6_advance 37 = .ok (.iload_n 1, 1) := by decide +kernel
theorem dX6_advance_38 : decode cX6_advance 38 = .ok (.if_icmp .ge 13, 3) := by decide +kernel
theorem dX6_advance_41 : decode cX6_advance 41 = .ok (.aload_n 0, 1) := by decide +kernel
theorem dX6_advance_42 : decode cX6_advance 42 = .ok (.invokevirtual 198, 3) := by decide +kernel
theorem dX6_advance_45 : decode cX6_advance 45 = .ok (.iinc 2 1, 3) := by decide +kernel
theorem dX6_advance_48 : decode cX6_advance 48 = .ok (.goto (-12), 3) := by decide +kernel
theorem dX6_advance_51 : decode cX6_advance 51 = .ok (.aload_n 0, 1) := by decide +kernel
theorem dX6_advance_52 : decode cX6_advance 52 = .ok (.getfield 7, 3) := by decide +kernel
theorem dX6_advance_55 : decode cX6_advance 55 = .ok (.iconst 0, 1) := by decide +kernel
theorem dX6_advance_56 : decode cX6_advance 56 = .ok (.laload, 1) := by decide +kernel
theorem dX6_advance_57 : decode cX6_advance 57 = .ok (.l2i, 1) := by decide +kernel
theorem dX6_advance_58 : decode cX6_advance 58 = .ok (.ireturn, 1) := by decide +kernel
theorem dX6_awaitDelivery_0 : decode cX6_awaitDelivery 0 = .ok (.iload_n 1, 1) := by decide +kernel
theorem dX6_awaitDelivery_1 : decode cX6_awaitDelivery 1 = .ok (.i2l, 1) := by decide +kernel
theorem dX6_awaitDelivery_2 : decode cX6_awaitDelivery 2 = .ok (.lconst 1, 1) := by decide +kernel
theorem dX6_awaitDelivery_3 : decode cX6_awaitDelivery 3 = .ok (.ldc2_w 83, 3) := by decide +kernel
theorem dX6_awaitDelivery_6 : decode cX6_awaitDelivery 6 = .ok (.invokestatic 36, 3) := by decide +kernel
theorem dX6_awaitDelivery_9 : decode cX6_awaitDelivery 9 = .ok (.ifCond .ne 6, 3) := by decide +kernel
theorem dX6_awaitDelivery_12 : decode cX6_awaitDelivery 12 = .ok (.bipush (-2), 2) := by decide +kernel
theorem dX6_awaitDelivery_14 : decode cX6_awaitDelivery 14 = .ok (.ireturn, 1) := by decide +kernel
theorem dX6_awaitDelivery_15 : decode cX6_awaitDelivery 15 = .ok (.aload_n 0, 1) := by decide +kernel
theorem dX6_awaitDelivery_16 : decode cX6_awaitDelivery 16 = .ok (.getfield 7, 3) := by decide +kernel
theorem dX6_awaitDelivery_19 : decode cX6_awaitDelivery 19 = .ok (.iconst 0, 1) := by decide +kernel
theorem dX6_awaitDelivery_20 : decode cX6_awaitDelivery 20 = .ok (.laload, 1) := by decide +kernel
theorem dX6_awaitDelivery_21 : decode cX6_awaitDelivery 21 = .ok (.iload_n 1, 1) := by decide +kernel
theorem dX6_awaitDelivery_22 : decode cX6_awaitDelivery 22 = .ok (.i2l, 1) := by decide +kernel
theorem dX6_awaitDelivery_23 : decode cX6_awaitDelivery 23 = .ok (.ladd, 1) := by decide +kernel
theorem dX6_awaitDelivery_24 : decode cX6_awaitDelivery 24 = .ok (.ldc2_w 196, 3) := by decide +kernel
theorem dX6_awaitDelivery_27 : decode cX6_awaitDelivery 27 = .ok (.lcmp, 1) := by decide +kernel
theorem dX6_awaitDelivery_28 : decode cX6_awaitDelivery 28 = .ok (.ifCond .le 6, 3) := by decide +kernel
theorem dX6_awaitDelivery_31 : decode cX6_awaitDelivery 31 = .ok (.bipush (-5), 2) := by decide +kernel
theorem dX6_awaitDelivery_33 : decode cX6_awaitDelivery 33 = .ok (.ireturn, 1) := by decide +kernel
theorem dX6_awaitDelivery_34 : decode cX6_awaitDelivery 34 = .ok (.aload_n 0, 1) := by decide +kernel
theorem dX6_awaitDelivery_35 : decode cX6_awaitDelivery 35 = .ok (.bipush (-6), 2) := by decide +kernel
theorem dX6_awaitDelivery_37 : decode cX6_awaitDelivery 37 = .ok (.putfield 154, 3) := by decide +kernel
theorem dX6_awaitDelivery_40 : decode cX6_awaitDelivery 40 = .ok (.iconst 0, 1) := by decide +kernel
theorem dX6_awaitDelivery_41 : decode cX6_awaitDelivery 41 = .ok (.istore_n 2, 1) := by decide +kernel
theorem dX6_awaitDelivery_42 : decode cX6_awaitDelivery 42 = .ok (.iload_n 2, 1) := by decide +kernel
theorem dX6_awaitDelivery_43 : decode cX6_awaitDelivery 43 = .ok (.iload_n 1, 1) := by decide +kernel
theorem dX6_awaitDelivery_44 : decode cX6_awaitDelivery 44 = .ok (.if_icmp .ge 20, 3) := by decide +kernel
theorem dX6_awaitDelivery_47 : decode cX6_awaitDelivery 47 = .ok (.aload_n 0, 1) := by decide +kernel
theorem dX6_awaitDelivery_48 : decode cX6_awaitDelivery 48 = .ok (.getfield 154, 3) := by decide +kernel
theorem dX6_awaitDelivery_51 : decode cX6_awaitDelivery 51 = .ok (.ifCond .ge 13, 3) := by decide +kernel
theorem dX6_awaitDelivery_54 : decode cX6_awaitDelivery 54 = .ok (.aload_n 0, 1) := by decide +kernel
theorem dX6_awaitDelivery_55 : decode cX6_awaitDelivery 55 = .ok (.invokevirtual 198, 3) := by decide +kernel
theorem dX6_awaitDelivery_58 : decode cX6_awaitDelivery 58 = .ok (.iinc 2 1, 3) := by decide +kernel
theorem dX6_awaitDelivery_61 : decode cX6_awaitDelivery 61 = .ok (.goto (-19), 3) := by decide +kernel
theorem dX6_awaitDelivery_64 : decode cX6_awaitDelivery 64 = .ok (.aload_n 0, 1) := by decide +kernel
theorem dX6_awaitDelivery_65 : decode cX6_awaitDelivery 65 = .ok (.getfield 154, 3) := by decide +kernel
theorem dX6_awaitDelivery_68 : decode cX6_awaitDelivery 68 = .ok (.ireturn, 1) := by decide +kernel
theorem dX6_restOf_0 : decode cX6_restOf 0 = .ok (.lconst 0, 1) := by decide +kernel
theorem dX6_restOf_1 : decode cX6_restOf 1 = .ok (.lstore_n 2, 1) := by decide +kernel
theorem dX6_restOf_2 : decode cX6_restOf 2 = .ok (.aload_n 0, 1) := by decide +kernel
theorem dX6_restOf_3 : decode cX6_restOf 3 = .ok (.invokevirtual 56, 3) := by decide +kernel
theorem dX6_restOf_6 : decode cX6_restOf 6 = .ok (.istore 4, 2) := by decide +kernel
theorem dX6_restOf_8 : decode cX6_restOf 8 = .ok (.iload 4, 2) := by decide +kernel
theorem dX6_restOf_10 : decode cX6_restOf 10 = .ok (.i2l, 1) := by decide +kernel
theorem dX6_restOf_11 : decode cX6_restOf 11 = .ok (.aload_n 0, 1) := by decide +kernel
theorem dX6_restOf_12 : decode cX6_restOf 12 = .ok (.getfield 7, 3) := by decide +kernel
theorem dX6_restOf_15 : decode cX6_restOf 15 = .ok (.bipush 7, 2) := by decide +kernel
theorem dX6_restOf_17 : decode cX6_restOf 17 = .ok (.laload, 1) := by decide +kernel
theorem dX6_restOf_18 : decode cX6_restOf 18 = .ok (.lcmp, 1) := by decide +kernel
theorem dX6_restOf_19 : decode cX6_restOf 19 = .ok (.ifCond .ge 53, 3) := by decide +kernel
theorem dX6_restOf_22 : decode cX6_restOf 22 = .ok (.lload_n 2, 1) := by decide +kernel
theorem dX6_restOf_23 : decode cX6_restOf 23 = .ok (.aload_n 0, 1) := by decide +kernel
theorem dX6_restOf_24 : decode cX6_restOf 24 = .ok (.iload 4, 2) := by decide +kernel
theorem dX6_restOf_26 : decode cX6_restOf 26 = .ok (.iconst 0, 1) := by decide +kernel
theorem dX6_restOf_27 : decode cX6_restOf 27 = .ok (.invokevirtual 49, 3) := by decide +kernel
theorem dX6_restOf_30 : decode cX6_restOf 30 = .ok (.iload_n 1, 1) := by decide +kernel
theorem dX6_restOf_31 : decode cX6_restOf 31 = .ok (.i2l, 1) := by decide +kernel
theorem dX6_restOf_32 : decode cX6_restOf 32 = .ok (.lcmp, 1) := by decide +kernel
theorem dX6_restOf_33 : decode cX6_restOf 33 = .ok (.ifCond .ne 30, 3) := by decide +kernel
theorem dX6_restOf_36 : decode cX6_restOf 36 = .ok (.aload_n 0, 1) := by decide +kernel
theorem dX6_restOf_37 : decode cX6_restOf 37 = .ok (.iload 4, 2) := by decide +kernel
theorem dX6_restOf_39 : decode cX6_restOf 39 = .ok (.invokevirtual 60, 3) := by decide +kernel
theorem dX6_restOf_42 : decode cX6_restOf 42 = .ok (.ifCond .eq 21, 3) := by decide +kernel
theorem dX6_restOf_45 : decode cX6_restOf 45 = .ok (.aload_n 0, 1) := by decide +kernel
theorem dX6_restOf_46 : decode cX6_restOf 46 = .ok (.iload 4, 2) := by decide +kernel
theorem dX6_restOf_48 : decode cX6_restOf 48 = .ok (.iconst 1, 1) := by decide +kernel
theorem dX6_restOf_49 : decode cX6_restOf 49 = .ok (.invokevirtual 49, 3) := by decide +kernel
theorem dX6_restOf_52 : decode cX6_restOf 52 = .ok (.aload_n 0, 1) := by decide +kernel
theorem dX6_restOf_53 : decode cX6_restOf 53 = .ok (.iload 4, 2) := by decide +kernel
theorem dX6_restOf_55 : decode cX6_restOf 55 = .ok (.iconst 5, 1) := by decide +kernel
theorem dX6_restOf_56 : decode cX6_restOf 56 = .ok (.invokevirtual 49, 3) := by decide +kernel
theorem dX6_restOf_59 : decode cX6_restOf 59 = .ok (.lsub, 1) := by decide +kernel
theorem dX6_restOf_60 : decode cX6_restOf 60 = .ok (.goto 4, 3) := by decide +kernel
theorem dX6_restOf_63 : decode cX6_restOf 63 = .ok (.lconst 0, 1) := by decide +kernel
theorem dX6_restOf_64 : decode cX6_restOf 64 = .ok (.ladd, 1) := by decide +kernel
theorem dX6_restOf_65 : decode cX6_restOf 65 = .ok (.lstore_n 2, 1) := by decide +kernel
theorem dX6_restOf_66 : decode cX6_restOf 66 = .ok (.iinc 4 1, 3) := by decide +kernel
theorem dX6_restOf_69 : decode cX6_restOf 69 = .ok (.goto (-61), 3) := by decide +kernel
theorem dX6_restOf_72 : decode cX6_restOf 72 = .ok (.lload_n 2, 1) := by decide +kernel
theorem dX6_restOf_73 : decode cX6_restOf 73 = .ok (.lreturn, 1) := by decide +kernel
theorem dX6_flow_0 : decode cX6_flow 0 = .ok (.aload_n 0, 1) := by decide +kernel
theorem dX6_flow_1 : decode cX6_flow 1 = .ok (.iload_n 1, 1) := by decide +kernel
theorem dX6_flow_2 : decode cX6_flow 2 = .ok (.invokevirtual 72, 3) := by decide +kernel
theorem dX6_flow_5 : decode cX6_flow 5 = .ok (.ifCond .ne 5, 3) := by decide +kernel
theorem dX6_flow_8 : decode cX6_flow 8 = .ok (.iconst (-1), 1) := by decide +kernel
theorem dX6_flow_9 : decode cX6_flow 9 = .ok (.ireturn, 1) := by decide +kernel
theorem dX6_flow_10 : decode cX6_flow 10 = .ok (.iload_n 2, 1) := by decide +kernel
theorem dX6_flow_11 : decode cX6_flow 11 = .ok (.i2l, 1) := by decide +kernel
theorem dX6_flow_12 : decode cX6_flow 12 = .ok (.lconst 0, 1) := by decide +kernel
theorem dX6_flow_13 : decode cX6_flow 13 = .ok (.ldc2_w 201, 3) := by decide +kernel
theorem dX6_flow_16 : decode cX6_flow 16 = .ok (.invokestatic 36, 3) := by decide +kernel
theorem dX6_flow_19 : decode cX6_flow 19 = .ok (.ifCond .ne 6, 3) := by decide +kernel
theorem dX6_flow_22 : decode cX6_flow 22 = .ok (.bipush (-2), 2) := by decide +kernel
theorem dX6_flow_24 : decode cX6_flow 24 = .ok (.ireturn, 1) := by decide +kernel
theorem dX6_flow_25 : decode cX6_flow 25 = .ok (.iload_n 2, 1) := by decide +kernel
theorem dX6_flow_26 : decode cX6_flow 26 = .ok (.tableswitch 138 5 14 #[54, 63, 69, 76, 85, 94, 103, 111, 120, 129], 54) := by decide +kernel
theorem dX6_flow_80 : decode cX6_flow 80 = .ok (.aload_n 0, 1) := by decide +kernel
theorem dX6_flow_81 : decode cX6_flow 81 = .ok (.iload_n 1, 1) := by decide +kernel
theorem dX6_flow_82 : decode cX6_flow 82 = .ok (.bipush 17, 2) := by decide +kernel
theorem dX6_flow_84 : decode cX6_flow 84 = .ok (.invokevirtual 53, 3) := by decide +kernel
theorem dX6_flow_87 : decode cX6_flow 87 = .ok (.l2i, 1) := by decide +kernel
theorem dX6_flow_88 : decode cX6_flow 88 = .ok (.ireturn, 1) := by decide +kernel
theorem dX6_flow_89 : decode cX6_flow 89 = .ok (.aload_n 0, 1) := by decide +kernel
theorem dX6_flow_90 : decode cX6_flow 90 = .ok (.iload_n 1, 1) := by decide +kernel
theorem dX6_flow_91 : decode cX6_flow 91 = .ok (.invokevirtual 166, 3) := by decide +kernel
theorem dX6_flow_94 : decode cX6_flow 94 = .ok (.ireturn, 1) := by decide +kernel
theorem dX6_flow_95 : decode cX6_flow 95 = .ok (.aload_n 0, 1) := by decide +kernel
theorem dX6_flow_96 : decode cX6_flow 96 = .ok (.iload_n 1, 1) := by decide +kernel
theorem dX6_flow_97 : decode cX6_flow 97 = .ok (.invokevirtual 203, 3) := by decide +kernel
theorem dX6_flow_100 : decode cX6_flow 100 = .ok (.l2i, 1) := by decide +kernel
theorem dX6_flow_101 : decode cX6_flow 101 = .ok (.ireturn, 1) := by decide +kernel
theorem dX6_flow_102 : decode cX6_flow 102 = .ok (.aload_n 0, 1) := by decide +kernel
theorem dX6_flow_103 : decode cX6_flow 103 = .ok (.iload_n 1, 1) := by decide +kernel
theorem dX6_flow_104 : decode cX6_flow 104 = .ok (.bipush 6, 2) := by decide +kernel
theorem dX6_flow_106 : decode cX6_flow 106 = .ok (.invokevirtual 53, 3) := by decide +kernel
theorem dX6_flow_109 : decode cX6_flow 109 = .ok (.l2i, 1) := by decide +kernel
theorem dX6_flow_110 : decode cX6_flow 110 = .ok (.ireturn, 1) := by decide +kernel
theorem dX6_flow_111 : decode cX6_flow 111 = .ok (.aload_n 0, 1) := by decide +kernel
theorem dX6_flow_112 : decode cX6_flow 112 = .ok (.iload_n 1, 1) := by decide +kernel
theorem dX6_flow_113 : decode cX6_flow 113 = .ok (.bipush 7, 2) := by decide +kernel
theorem dX6_flow_115 : decode cX6_flow 115 = .ok (.invokevirtual 53, 3) := by decide +kernel
theorem dX6_flow_118 : decode cX6_flow 118 = .ok (.l2i, 1) := by decide +kernel
theorem dX6_flow_119 : decode cX6_flow 119 = .ok (.ireturn, 1) := by decide +kernel
theorem dX6_flow_120 : decode cX6_flow 120 = .ok (.aload_n 0, 1) := by decide +kernel
theorem dX6_flow_121 : decode cX6_flow 121 = .ok (.iload_n 1, 1) := by decide +kernel
theorem dX6_flow_122 : decode cX6_flow 122 = .ok (.bipush 8, 2) := by decide +kernel
theorem dX6_flow_124 : decode cX6_flow 124 = .ok (.invokevirtual 53, 3) := by decide +kernel
theorem dX6_flow_127 : decode cX6_flow 127 = .ok (.l2i, 1) := by decide +kernel
theorem dX6_flow_128 : decode cX6_flow 128 = .ok (.ireturn, 1) := by decide +kernel
theorem dX6_flow_129 : decode cX6_flow 129 = .ok (.aload_n 0, 1) := by decide +kernel
theorem dX6_flow_130 : decode cX6_flow 130 = .ok (.iload_n 1, 1) := by decide +kernel
theorem dX6_flow_131 : decode cX6_flow 131 = .ok (.iconst 5, 1) := by decide +kernel
theorem dX6_flow_132 : decode cX6_flow 132 = .ok (.invokevirtual 53, 3) := by decide +kernel
theorem dX6_flow_135 : decode cX6_flow 135 = .ok (.l2i, 1) := by decide +kernel
theorem dX6_flow_136 : decode cX6_flow 136 = .ok (.ireturn, 1) := by decide +kernel
theorem dX6_flow_137 : decode cX6_flow 137 = .ok (.aload_n 0, 1) := by decide +kernel
theorem dX6_flow_138 : decode cX6_flow 138 = .ok (.iload_n 1, 1) := by decide +kernel
theorem dX6_flow_139 : decode cX6_flow 139 = .ok (.bipush 9, 2) := by decide +kernel
theorem dX6_flow_141 : decode cX6_flow 141 = .ok (.invokevirtual 53, 3) := by decide +kernel
theorem dX6_flow_144 : decode cX6_flow 144 = .ok (.l2i, 1) := by decide +kernel
theorem dX6_flow_145 : decode cX6_flow 145 = .ok (.ireturn, 1) := by decide +kernel
theorem dX6_flow_146 : decode cX6_flow 146 = .ok (.aload_n 0, 1) := by decide +kernel
theorem dX6_flow_147 : decode cX6_flow 147 = .ok (.iload_n 1, 1) := by decide +kernel
theorem dX6_flow_148 : decode cX6_flow 148 = .ok (.bipush 10, 2) := by decide +kernel
theorem dX6_flow_150 : decode cX6_flow 150 = .ok (.invokevirtual 53, 3) := by decide +kernel
theorem dX6_flow_153 : decode cX6_flow 153 = .ok (.l2i, 1) := by decide +kernel
theorem dX6_flow_154 : decode cX6_flow 154 = .ok (.ireturn, 1) := by decide +kernel
theorem dX6_flow_155 : decode cX6_flow 155 = .ok (.aload_n 0, 1) := by decide +kernel
theorem dX6_flow_156 : decode cX6_flow 156 = .ok (.iload_n 1, 1) := by decide +kernel
theorem dX6_flow_157 : decode cX6_flow 157 = .ok (.bipush 11, 2) := by decide +kernel
theorem dX6_flow_159 : decode cX6_flow 159 = .ok (.invokevirtual 53, 3) := by decide +kernel
theorem dX6_flow_162 : decode cX6_flow 162 = .ok (.l2i, 1) := by decide +kernel
theorem dX6_flow_163 : decode cX6_flow 163 = .ok (.ireturn, 1) := by decide +kernel
theorem dX6_flow_164 : decode cX6_flow 164 = .ok (.aload_n 0, 1) := by decide +kernel
theorem dX6_flow_165 : decode cX6_flow 165 = .ok (.iload_n 1, 1) := by decide +kernel
theorem dX6_flow_166 : decode cX6_flow 166 = .ok (.iload_n 2, 1) := by decide +kernel
theorem dX6_flow_167 : decode cX6_flow 167 = .ok (.invokevirtual 53, 3) := by decide +kernel
theorem dX6_flow_170 : decode cX6_flow 170 = .ok (.l2i, 1) := by decide +kernel
theorem dX6_flow_171 : decode cX6_flow 171 = .ok (.ireturn, 1) := by decide +kernel
theorem dX6_amount_0 : decode cX6_amount 0 = .ok (.aload_n 0, 1) := by decide +kernel
theorem dX6_amount_1 : decode cX6_amount 1 = .ok (.iload_n 1, 1) := by decide +kernel
theorem dX6_amount_2 : decode cX6_amount 2 = .ok (.invokevirtual 72, 3) := by decide +kernel
theorem dX6_amount_5 : decode cX6_amount 5 = .ok (.ifCond .ne 7, 3) := by decide +kernel
theorem dX6_amount_8 : decode cX6_amount 8 = .ok (.ldc2_w 108, 3) := by decide +kernel
theorem dX6_amount_11 : decode cX6_amount 11 = .ok (.lreturn, 1) := by decide +kernel
theorem dX6_amount_12 : decode cX6_amount 12 = .ok (.aload_n 0, 1) := by decide +kernel
theorem dX6_amount_13 : decode cX6_amount 13 = .ok (.iload_n 1, 1) := by decide +kernel
theorem dX6_amount_14 : decode cX6_amount 14 = .ok (.invokevirtual 169, 3) := by decide +kernel
theorem dX6_amount_17 : decode cX6_amount 17 = .ok (.aload_n 0, 1) := by decide +kernel
theorem dX6_amount_18 : decode cX6_amount 18 = .ok (.getfield 7, 3) := by decide +kernel
theorem dX6_amount_21 : decode cX6_amount 21 = .ok (.iconst 1, 1) := by decide +kernel
theorem dX6_amount_22 : decode cX6_amount 22 = .ok (.laload, 1) := by decide +kernel
theorem dX6_amount_23 : decode cX6_amount 23 = .ok (.lsub, 1) := by decide +kernel
theorem dX6_amount_24 : decode cX6_amount 24 = .ok (.lstore_n 3, 1) := by decide +kernel
theorem dX6_amount_25 : decode cX6_amount 25 = .ok (.iload_n 2, 1) := by decide +kernel
theorem dX6_amount_26 : decode cX6_amount 26 = .ok (.tableswitch 110 0 7 #[46, 54, 60, 72, 80, 88, 96, 102], 46) := by decide +kernel
theorem dX6_amount_72 : decode cX6_amount 72 = .ok (.aload_n 0, 1) := by decide +kernel
theorem dX6_amount_73 : decode cX6_amount 73 = .ok (.iload_n 1, 1) := by decide +kernel
theorem dX6_amount_74 : decode cX6_amount 74 = .ok (.bipush 12, 2) := by decide +kernel
theorem dX6_amount_76 : decode cX6_amount 76 = .ok (.invokevirtual 53, 3) := by decide +kernel
theorem dX6_amount_79 : decode cX6_amount 79 = .ok (.lreturn, 1) := by decide +kernel
theorem dX6_amount_80 : decode cX6_amount 80 = .ok (.aload_n 0, 1) := by decide +kernel
theorem dX6_amount_81 : decode cX6_amount 81 = .ok (.iload_n 1, 1) := by decide +kernel
theorem dX6_amount_82 : decode cX6_amount 82 = .ok (.invokevirtual 169, 3) := by decide +kernel
theorem dX6_amount_85 : decode cX6_amount 85 = .ok (.lreturn, 1) := by decide +kernel
theorem dX6_amount_86 : decode cX6_amount 86 = .ok (.lload_n 3, 1) := by decide +kernel
theorem dX6_amount_87 : decode cX6_amount 87 = .ok (.lconst 0, 1) := by decide +kernel
theorem dX6_amount_88 : decode cX6_amount 88 = .ok (.lcmp, 1) := by decide +kernel
theorem dX6_amount_89 : decode cX6_amount 89 = .ok (.ifCond .le 7, 3) := by decide +kernel
theorem dX6_amount_92 : decode cX6_amount 92 = .ok (.lload_n 3, 1) := by decide +kernel
theorem dX6_amount_93 : decode cX6_amount 93 = .ok (.goto 4, 3) := by decide +kernel
theorem dX6_amount_96 : decode cX6_amount 96 = .ok (.lconst 0, 1) := by decide +kernel
theorem dX6_amount_97 : decode cX6_amount 97 = .ok (.lreturn, 1) := by decide +kernel
theorem dX6_amount_98 : decode cX6_amount 98 = .ok (.aload_n 0, 1) := by decide +kernel
theorem dX6_amount_99 : decode cX6_amount 99 = .ok (.iload_n 1, 1) := by decide +kernel
theorem dX6_amount_100 : decode cX6_amount 100 = .ok (.bipush 13, 2) := by decide +kernel
theorem dX6_amount_102 : decode cX6_amount 102 = .ok (.invokevirtual 53, 3) := by decide +kernel
theorem dX6_amount_105 : decode cX6_amount 105 = .ok (.lreturn, 1) := by decide +kernel
theorem dX6_amount_106 : decode cX6_amount 106 = .ok (.aload_n 0, 1) := by decide +kernel
theorem dX6_amount_107 : decode cX6_amount 107 = .ok (.iload_n 1, 1) := by decide +kernel
theorem dX6_amount_108 : decode cX6_amount 108 = .ok (.bipush 14, 2) := by decide +kernel
theorem dX6_amount_110 : decode cX6_amount 110 = .ok (.invokevirtual 53, 3) := by decide +kernel
theorem dX6_amount_113 : decode cX6_amount 113 = .ok (.lreturn, 1) := by decide +kernel
theorem dX6_amount_114 : decode cX6_amount 114 = .ok (.aload_n 0, 1) := by decide +kernel
theorem dX6_amount_115 : decode cX6_amount 115 = .ok (.iload_n 1, 1) := by decide +kernel
theorem dX6_amount_116 : decode cX6_amount 116 = .ok (.bipush 15, 2) := by decide +kernel
theorem dX6_amount_118 : decode cX6_amount 118 = .ok (.invokevirtual 53, 3) := by decide +kernel
theorem dX6_amount_121 : decode cX6_amount 121 = .ok (.lreturn, 1) := by decide +kernel
theorem dX6_amount_122 : decode cX6_amount 122 = .ok (.aload_n 0, 1) := by decide +kernel
theorem dX6_amount_123 : decode cX6_amount 123 = .ok (.iload_n 1, 1) := by decide +kernel
theorem dX6_amount_124 : decode cX6_amount 124 = .ok (.invokevirtual 193, 3) := by decide +kernel
theorem dX6_amount_127 : decode cX6_amount 127 = .ok (.lreturn, 1) := by decide +kernel
theorem dX6_amount_128 : decode cX6_amount 128 = .ok (.aload_n 0, 1) := by decide +kernel
theorem dX6_amount_129 : decode cX6_amount 129 = .ok (.iload_n 1, 1) := by decide +kernel
theorem dX6_amount_130 : decode cX6_amount 130 = .ok (.bipush 16, 2) := by decide +kernel
theorem dX6_amount_132 : decode cX6_amount 132 = .ok (.invokevirtual 53, 3) := by decide +kernel
theorem dX6_amount_135 : decode cX6_amount 135 = .ok (.lreturn, 1) := by decide +kernel
theorem dX6_amount_136 : decode cX6_amount 136 = .ok (.ldc2_w 206, 3) := by decide +kernel
theorem dX6_amount_139 : decode cX6_amount 139 = .ok (.lreturn, 1) := by decide +kernel
theorem dX6_virtualTime_0 : decode cX6_virtualTime 0 = .ok (.aload_n 0, 1) := by decide +kernel
theorem dX6_virtualTime_1 : decode cX6_virtualTime 1 = .ok (.getfield 7, 3) := by decide +kernel
theorem dX6_virtualTime_4 : decode cX6_virtualTime 4 = .ok (.iconst 1, 1) := by decide +kernel
theorem dX6_virtualTime_5 : decode cX6_virtualTime 5 = .ok (.laload, 1) := by decide +kernel
theorem dX6_virtualTime_6 : decode cX6_virtualTime 6 = .ok (.lreturn, 1) := by decide +kernel
theorem dX6_link_0 : decode cX6_link 0 = .ok (.iload_n 1, 1) := by decide +kernel
theorem dX6_link_1 : decode cX6_link 1 = .ok (.tableswitch 220 0 16 #[83, 91, 91, 91, 91, 103, 111, 120, 129, 138, 147, 156, 166, 175, 184, 189, 198], 83) := by decide +kernel
theorem dX6_link_84 : decode cX6_link 84 = .ok (.aload_n 0, 1) := by decide +kernel
theorem dX6_link_85 : decode cX6_link 85 = .ok (.getfield 7, 3) := by decide +kernel
theorem dX6_link_88 : decode cX6_link 88 = .ok (.iconst 0, 1) := by decide +kernel
theorem dX6_link_89 : decode cX6_link 89 = .ok (.laload, 1) := by decide +kernel
theorem dX6_link_90 : decode cX6_link 90 = .ok (.l2i, 1) := by decide +kernel
theorem dX6_link_91 : decode cX6_link 91 = .ok (.ireturn, 1) := by decide +kernel
theorem dX6_link_92 : decode cX6_link 92 = .ok (.aload_n 0, 1) := by decide +kernel
theorem dX6_link_93 : decode cX6_link 93 = .ok (.getfield 7, 3) := by decide +kernel
theorem dX6_link_96 : decode cX6_link 96 = .ok (.iconst 3, 1) := by decide +kernel
theorem dX6_link_97 : decode cX6_link 97 = .ok (.iload_n 1, 1) := by decide +kernel
theorem dX6_link_98 : decode cX6_link 98 = .ok (.iadd, 1) := by decide +kernel
theorem dX6_link_99 : decode cX6_link 99 = .ok (.iconst 1, 1) := by decide +kernel
theorem dX6_link_100 : decode cX6_link 100 = .ok (.isub, 1) := by decide +kernel
theorem dX6_link_101 : decode cX6_link 101 = .ok (.laload, 1) := by decide +kernel
theorem dX6_link_102 : decode cX6_link 102 = .ok (.l2i, 1) := by decide +kernel
theorem dX6_link_103 : decode cX6_link 103 = .ok (.ireturn, 1) := by decide +kernel
theorem dX6_link_104 : decode cX6_link 104 = .ok (.aload_n 0, 1) := by decide +kernel
theorem dX6_link_105 : decode cX6_link 105 = .ok (.getfield 7, 3) := by decide +kernel
theorem dX6_link_108 : decode cX6_link 108 = .ok (.iconst 2, 1) := by decide +kernel
theorem dX6_link_109 : decode cX6_link 109 = .ok (.laload, 1) := by decide +kernel
theorem dX6_link_110 : decode cX6_link 110 = .ok (.l2i, 1) := by decide +kernel
theorem dX6_link_111 : decode cX6_link 111 = .ok (.ireturn, 1) := by decide +kernel
theorem dX6_link_112 : decode cX6_link 112 = .ok (.aload_n 0, 1) := by decide +kernel
theorem dX6_link_113 : decode cX6_link 113 = .ok (.getfield 7, 3) := by decide +kernel
theorem dX6_link_116 : decode cX6_link 116 = .ok (.bipush 7, 2) := by decide +kernel
theorem dX6_link_118 : decode cX6_link 118 = .ok (.laload, 1) := by decide +kernel
theorem dX6_link_119 : decode cX6_link 119 = .ok (.l2i, 1) := by decide +kernel
theorem dX6_link_120 : decode cX6_link 120 = .ok (.ireturn, 1) := by decide +kernel
theorem dX6_link_121 : decode cX6_link 121 = .ok (.aload_n 0, 1) := by decide +kernel
theorem dX6_link_122 : decode cX6_link 122 = .ok (.getfield 7, 3) := by decide +kernel
theorem dX6_link_125 : decode cX6_link 125 = .ok (.bipush 8, 2) := by decide +kernel
theorem dX6_link_127 : decode cX6_link 127 = .ok (.laload, 1) := by decide +kernel
theorem dX6_link_128 : decode cX6_link 128 = .ok (.l2i, 1) := by decide +kernel
theorem dX6_link_129 : decode cX6_link 129 = .ok (.ireturn, 1) := by decide +kernel
theorem dX6_link_130 : decode cX6_link 130 = .ok (.aload_n 0, 1) := by decide +kernel
theorem dX6_link_131 : decode cX6_link 131 = .ok (.getfield 7, 3) := by decide +kernel
theorem dX6_link_134 : decode cX6_link 134 = .ok (.bipush 9, 2) := by decide +kernel
theorem dX6_link_136 : decode cX6_link 136 = .ok (.laload, 1) := by decide +kernel
theorem dX6_link_137 : decode cX6_link 137 = .ok (.l2i, 1) := by decide +kernel
theorem dX6_link_138 : decode cX6_link 138 = .ok (.ireturn, 1) := by decide +kernel
theorem dX6_link_139 : decode cX6_link 139 = .ok (.aload_n 0, 1) := by decide +kernel
theorem dX6_link_140 : decode cX6_link 140 = .ok (.getfield 7, 3) := by decide +kernel
theorem dX6_link_143 : decode cX6_link 143 = .ok (.bipush 10, 2) := by decide +kernel
theorem dX6_link_145 : decode cX6_link 145 = .ok (.laload, 1) := by decide +kernel
theorem dX6_link_146 : decode cX6_link 146 = .ok (.l2i, 1) := by decide +kernel
theorem dX6_link_147 : decode cX6_link 147 = .ok (.ireturn, 1) := by decide +kernel
theorem dX6_link_148 : decode cX6_link 148 = .ok (.aload_n 0, 1) := by decide +kernel
theorem dX6_link_149 : decode cX6_link 149 = .ok (.getfield 7, 3) := by decide +kernel
theorem dX6_link_152 : decode cX6_link 152 = .ok (.bipush 11, 2) := by decide +kernel
theorem dX6_link_154 : decode cX6_link 154 = .ok (.laload, 1) := by decide +kernel
theorem dX6_link_155 : decode cX6_link 155 = .ok (.l2i, 1) := by decide +kernel
theorem dX6_link_156 : decode cX6_link 156 = .ok (.ireturn, 1) := by decide +kernel
theorem dX6_link_157 : decode cX6_link 157 = .ok (.aload_n 0, 1) := by decide +kernel
theorem dX6_link_158 : decode cX6_link 158 = .ok (.getfield 7, 3) := by decide +kernel
theorem dX6_link_161 : decode cX6_link 161 = .ok (.sipush 1825, 3) := by decide +kernel
theorem dX6_link_164 : decode cX6_link 164 = .ok (.laload, 1) := by decide +kernel
theorem dX6_link_165 : decode cX6_link 165 = .ok (.l2i, 1) := by decide +kernel
theorem dX6_link_166 : decode cX6_link 166 = .ok (.ireturn, 1) := by decide +kernel
theorem dX6_link_167 : decode cX6_link 167 = .ok (.aload_n 0, 1) := by decide +kernel
theorem dX6_link_168 : decode cX6_link 168 = .ok (.getfield 7, 3) := by decide +kernel
theorem dX6_link_171 : decode cX6_link 171 = .ok (.bipush 13, 2) := by decide +kernel
theorem dX6_link_173 : decode cX6_link 173 = .ok (.laload, 1) := by decide +kernel
theorem dX6_link_174 : decode cX6_link 174 = .ok (.l2i, 1) := by decide +kernel
theorem dX6_link_175 : decode cX6_link 175 = .ok (.ireturn, 1) := by decide +kernel
theorem dX6_link_176 : decode cX6_link 176 = .ok (.aload_n 0, 1) := by decide +kernel
theorem dX6_link_177 : decode cX6_link 177 = .ok (.getfield 7, 3) := by decide +kernel
theorem dX6_link_180 : decode cX6_link 180 = .ok (.bipush 14, 2) := by decide +kernel
theorem dX6_link_182 : decode cX6_link 182 = .ok (.laload, 1) := by decide +kernel
theorem dX6_link_183 : decode cX6_link 183 = .ok (.l2i, 1) := by decide +kernel
theorem dX6_link_184 : decode cX6_link 184 = .ok (.ireturn, 1) := by decide +kernel
theorem dX6_link_185 : decode cX6_link 185 = .ok (.aload_n 0, 1) := by decide +kernel
theorem dX6_link_186 : decode cX6_link 186 = .ok (.invokevirtual 175, 3) := by decide +kernel
theorem dX6_link_189 : decode cX6_link 189 = .ok (.ireturn, 1) := by decide +kernel
theorem dX6_link_190 : decode cX6_link 190 = .ok (.aload_n 0, 1) := by decide +kernel
theorem dX6_link_191 : decode cX6_link 191 = .ok (.getfield 7, 3) := by decide +kernel
theorem dX6_link_194 : decode cX6_link 194 = .ok (.bipush 15, 2) := by decide +kernel
theorem dX6_link_196 : decode cX6_link 196 = .ok (.laload, 1) := by decide +kernel
theorem dX6_link_197 : decode cX6_link 197 = .ok (.l2i, 1) := by decide +kernel
theorem dX6_link_198 : decode cX6_link 198 = .ok (.ireturn, 1) := by decide +kernel
theorem dX6_link_199 : decode cX6_link 199 = .ok (.aload_n 0, 1) := by decide +kernel
theorem dX6_link_200 : decode cX6_link 200 = .ok (.getfield 7, 3) := by decide +kernel
theorem dX6_link_203 : decode cX6_link 203 = .ok (.bipush 7, 2) := by decide +kernel
theorem dX6_link_205 : decode cX6_link 205 = .ok (.laload, 1) := by decide +kernel
theorem dX6_link_206 : decode cX6_link 206 = .ok (.lconst 0, 1) := by decide +kernel
theorem dX6_link_207 : decode cX6_link 207 = .ok (.lcmp, 1) := by decide +kernel
theorem dX6_link_208 : decode cX6_link 208 = .ok (.ifCond .le 10, 3) := by decide +kernel
theorem dX6_link_211 : decode cX6_link 211 = .ok (.aload_n 0, 1) := by decide +kernel
theorem dX6_link_212 : decode cX6_link 212 = .ok (.invokevirtual 56, 3) := by decide +kernel
theorem dX6_link_215 : decode cX6_link 215 = .ok (.goto 5, 3) := by decide +kernel
theorem dX6_link_218 : decode cX6_link 218 = .ok (.bipush (-6), 2) := by decide +kernel
theorem dX6_link_220 : decode cX6_link 220 = .ok (.ireturn, 1) := by decide +kernel
theorem dX6_link_221 : decode cX6_link 221 = .ok (.bipush (-2), 2) := by decide +kernel
theorem dX6_link_223 : decode cX6_link 223 = .ok (.ireturn, 1) := by decide +kernel
theorem dX6_piece_0 : decode cX6_piece 0 = .ok (.iload_n 2, 1) := by decide +kernel
theorem dX6_piece_1 : decode cX6_piece 1 = .ok (.i2l, 1) := by decide +kernel
theorem dX6_piece_2 : decode cX6_piece 2 = .ok (.lconst 0, 1) := by decide +kernel
theorem dX6_piece_3 : decode cX6_piece 3 = .ok (.ldc2_w 97, 3) := by decide +kernel
theorem dX6_piece_6 : decode cX6_piece 6 = .ok (.invokestatic 36, 3) := by decide +kernel
theorem dX6_piece_9 : decode cX6_piece 9 = .ok (.ifCond .ne 6, 3) := by decide +kernel
theorem dX6_piece_12 : decode cX6_piece 12 = .ok (.bipush (-2), 2) := by decide +kernel
theorem dX6_piece_14 : decode cX6_piece 14 = .ok (.ireturn, 1) := by decide +kernel
theorem dX6_piece_15 : decode cX6_piece 15 = .ok (.iload_n 1, 1) := by decide +kernel
theorem dX6_piece_16 : decode cX6_piece 16 = .ok (.i2l, 1) := by decide +kernel
theorem dX6_piece_17 : decode cX6_piece 17 = .ok (.lconst 0, 1) := by decide +kernel
theorem dX6_piece_18 : decode cX6_piece 18 = .ok (.aload_n 0, 1) := by decide +kernel
theorem dX6_piece_19 : decode cX6_piece 19 = .ok (.getfield 7, 3) := by decide +kernel
theorem dX6_piece_22 : decode cX6_piece 22 = .ok (.bipush 15, 2) := by decide +kernel
theorem dX6_piece_24 : decode cX6_piece 24 = .ok (.laload, 1) := by decide +kernel
theorem dX6_piece_25 : decode cX6_piece 25 = .ok (.lconst 1, 1) := by decide +kernel
theorem dX6_piece_26 : decode cX6_piece 26 = .ok (.lsub, 1) := by decide +kernel
theorem dX6_piece_27 : decode cX6_piece 27 = .ok (.invokestatic 36, 3) := by decide +kernel
theorem dX6_piece_30 : decode cX6_piece 30 = .ok (.ifCond .eq 24, 3) := by decide +kernel
theorem dX6_piece_33 : decode cX6_piece 33 = .ok (.iload_n 1, 1) := by decide +kernel
theorem dX6_piece_34 : decode cX6_piece 34 = .ok (.i2l, 1) := by decide +kernel
theorem dX6_piece_35 : decode cX6_piece 35 = .ok (.aload_n 0, 1) := by decide +kernel
theorem dX6_piece_36 : decode cX6_piece 36 = .ok (.getfield 7, 3) := by decide +kernel
theorem dX6_piece_39 : decode cX6_piece 39 = .ok (.bipush 15, 2) := by decide +kernel
theorem dX6_piece_41 : decode cX6_piece 41 = .ok (.laload, 1) := by decide +kernel
theorem dX6_piece_42 : decode cX6_piece 42 = .ok (.ldc2_w 157, 3) := by decide +kernel
theorem dX6_piece_45 : decode cX6_piece 45 = .ok (.lsub, 1) := by decide +kernel
theorem dX6_piece_46 : decode cX6_piece 46 = .ok (.lcmp, 1) := by decide +kernel
theorem dX6_piece_47 : decode cX6_piece 47 = .ok (.ifCond .lt 7, 3) := by decide +kernel
theorem dX6_piece_50 : decode cX6_piece 50 = .ok (.iconst 1, 1) := by decide +kernel
theorem dX6_piece_51 : decode cX6_piece 51 = .ok (.goto 4, 3) := by decide +kernel
theorem dX6_piece_54 : decode cX6_piece 54 = .ok (.iconst 0, 1) := by decide +kernel
theorem dX6_piece_55 : decode cX6_piece 55 = .ok (.istore_n 3, 1) := by decide +kernel
theorem dX6_piece_56 : decode cX6_piece 56 = .ok (.iload_n 3, 1) := by decide +kernel
theorem dX6_piece_57 : decode cX6_piece 57 = .ok (.ifCond .eq 24, 3) := by decide +kernel
theorem dX6_piece_60 : decode cX6_piece 60 = .ok (.aload_n 0, 1) := by decide +kernel
theorem dX6_piece_61 : decode cX6_piece 61 = .ok (.getfield 7, 3) := by decide +kernel
theorem dX6_piece_64 : decode cX6_piece 64 = .ok (.sipush 1445, 3) := by decide +kernel
theorem dX6_piece_67 : decode cX6_piece 67 = .ok (.iconst 5, 1) := by decide +kernel
theorem dX6_piece_68 : decode cX6_piece 68 = .ok (.iload_n 1, 1) := by decide +kernel
theorem dX6_piece_69 : decode cX6_piece 69 = .ok (.bipush 60, 2) := by decide +kernel
theorem dX6_piece_71 : decode cX6_piece 71 = .ok (.irem, 1) := by decide +kernel
theorem dX6_piece_72 : decode cX6_piece 72 = .ok (.imul, 1) := by decide +kernel
theorem dX6_piece_73 : decode cX6_piece 73 = .ok (.iadd, 1) := by decide +kernel
theorem dX6_piece_74 : decode cX6_piece 74 = .ok (.iload_n 2, 1) := by decide +kernel
theorem dX6_piece_75 : decode cX6_piece 75 = .ok (.iadd, 1) := by decide +kernel
theorem dX6_piece_76 : decode cX6_piece 76 = .ok (.laload, 1) := by decide +kernel
theorem dX6_piece_77 : decode cX6_piece 77 = .ok (.l2i, 1) := by decide +kernel
theorem dX6_piece_78 : decode cX6_piece 78 = .ok (.goto 5, 3) := by decide +kernel
theorem dX6_piece_81 : decode cX6_piece 81 = .ok (.bipush (-6), 2) := by decide +kernel
theorem dX6_piece_83 : decode cX6_piece 83 = .ok (.ireturn, 1) := by decide +kernel
theorem dX6_apart_0 : decode cX6_apart 0 = .ok (.aload_n 0, 1) := by decide +kernel
theorem dX6_apart_1 : decode cX6_apart 1 = .ok (.iload_n 1, 1) := by decide +kernel
theorem dX6_apart_2 : decode cX6_apart 2 = .ok (.invokevirtual 72, 3) := by decide +kernel
theorem dX6_apart_5 : decode cX6_apart 5 = .ok (.ifCond .eq 11, 3) := by decide +kernel
theorem dX6_apart_8 : decode cX6_apart 8 = .ok (.aload_n 0, 1) := by decide +kernel
theorem dX6_apart_9 : decode cX6_apart 9 = .ok (.iload_n 2, 1) := by decide +kernel
theorem dX6_apart_10 : decode cX6_apart 10 = .ok (.invokevirtual 72, 3) := by decide +kernel
theorem dX6_apart_13 : decode cX6_apart 13 = .ok (.ifCond .ne 7, 3) := by decide +kernel
theorem dX6_apart_16 : decode cX6_apart 16 = .ok (.ldc2_w 108, 3) := by decide +kernel
theorem dX6_apart_19 : decode cX6_apart 19 = .ok (.lreturn, 1) := by decide +kernel
theorem dX6_apart_20 : decode cX6_apart 20 = .ok (.aload_n 0, 1) := by decide +kernel
theorem dX6_apart_21 : decode cX6_apart 21 = .ok (.iload_n 1, 1) := by decide +kernel
theorem dX6_apart_22 : decode cX6_apart 22 = .ok (.bipush 6, 2) := by decide +kernel
theorem dX6_apart_24 : decode cX6_apart 24 = .ok (.invokevirtual 53, 3) := by decide +kernel
theorem dX6_apart_27 : decode cX6_apart 27 = .ok (.ldc2_w 81, 3) := by decide +kernel
theorem dX6_apart_30 : decode cX6_apart 30 = .ok (.lmul, 1) := by decide +kernel
theorem dX6_apart_31 : decode cX6_apart 31 = .ok (.aload_n 0, 1) := by decide +kernel
theorem dX6_apart_32 : decode cX6_apart 32 = .ok (.iload_n 1, 1) := by decide +kernel
theorem dX6_apart_33 : decode cX6_apart 33 = .ok (.iconst 0, 1) := by decide +kernel
theorem dX6_apart_34 : decode cX6_apart 34 = .ok (.invokevirtual 53, 3) := by decide +kernel
theorem dX6_apart_37 : decode cX6_apart 37 = .ok (.ldiv, 1) := by decide +kernel
theorem dX6_apart_38 : decode cX6_apart 38 = .ok (.aload_n 0, 1) := by decide +kernel
theorem dX6_apart_39 : decode cX6_apart 39 = .ok (.iload_n 2, 1) := by decide +kernel
theorem dX6_apart_40 : decode cX6_apart 40 = .ok (.bipush 6, 2) := by decide +kernel
theorem dX6_apart_42 : decode cX6_apart 42 = .ok (.invokevirtual 53, 3) := by decide +kernel
theorem dX6_apart_45 : decode cX6_apart 45 = .ok (.ldc2_w 81, 3) := by decide +kernel
theorem dX6_apart_48 : decode cX6_apart 48 = .ok (.lmul, 1) := by decide +kernel
theorem dX6_apart_49 : decode cX6_apart 49 = .ok (.aload_n 0, 1) := by decide +kernel
theorem dX6_apart_50 : decode cX6_apart 50 = .ok (.iload_n 2, 1) := by decide +kernel
theorem dX6_apart_51 : decode cX6_apart 51 = .ok (.iconst 0, 1) := by decide +kernel
theorem dX6_apart_52 : decode cX6_apart 52 = .ok (.invokevirtual 53, 3) := by decide +kernel
theorem dX6_apart_55 : decode cX6_apart 55 = .ok (.ldiv, 1) := by decide +kernel
theorem dX6_apart_56 : decode cX6_apart 56 = .ok (.lsub, 1) := by decide +kernel
theorem dX6_apart_57 : decode cX6_apart 57 = .ok (.lstore_n 3, 1) := by decide +kernel
theorem dX6_apart_58 : decode cX6_apart 58 = .ok (.lload_n 3, 1) := by decide +kernel
theorem dX6_apart_59 : decode cX6_apart 59 = .ok (.lconst 0, 1) := by decide +kernel
theorem dX6_apart_60 : decode cX6_apart 60 = .ok (.lcmp, 1) := by decide +kernel
theorem dX6_apart_61 : decode cX6_apart 61 = .ok (.ifCond .ge 8, 3) := by decide +kernel
theorem dX6_apart_64 : decode cX6_apart 64 = .ok (.lload_n 3, 1) := by decide +kernel
theorem dX6_apart_65 : decode cX6_apart 65 = .ok (.lneg, 1) := by decide +kernel
theorem dX6_apart_66 : decode cX6_apart 66 = .ok (.goto 4, 3) := by decide +kernel
theorem dX6_apart_69 : decode cX6_apart 69 = .ok (.lload_n 3, 1) := by decide +kernel
theorem dX6_apart_70 : decode cX6_apart 70 = .ok (.lreturn, 1) := by decide +kernel
theorem dX6_putAside_0 : decode cX6_putAside 0 = .ok (.iconst 0, 1) := by decide +kernel
theorem dX6_putAside_1 : decode cX6_putAside 1 = .ok (.istore_n 1, 1) := by decide +kernel
theorem dX6_putAside_2 : decode cX6_putAside 2 = .ok (.iload_n 1, 1) := by decide +kernel
theorem dX6_putAside_3 : decode cX6_putAside 3 = .ok (.sipush 1826, 3) := by decide +kernel
theorem dX6_putAside_6 : decode cX6_putAside 6 = .ok (.if_icmp .ge 21, 3) := by decide +kernel
theorem dX6_putAside_9 : decode cX6_putAside 9 = .ok (.aload_n 0, 1) := by decide +kernel
theorem dX6_putAside_10 : decode cX6_putAside 10 = .ok (.getfield 13, 3) := by decide +kernel
theorem dX6_putAside_13 : decode cX6_putAside 13 = .ok (.iload_n 1, 1) := by decide +kernel
theorem dX6_putAside_14 : decode cX6_putAside 14 = .ok (.aload_n 0, 1) := by decide +kernel
theorem dX6_putAside_15 : decode cX6_putAside 15 = .ok (.getfield 7, 3) := by decide +kernel
theorem dX6_putAside_18 : decode cX6_putAside 18 = .ok (.iload_n 1, 1) := by decide +kernel
theorem dX6_putAside_19 : decode cX6_putAside 19 = .ok (.laload, 1) := by decide +kernel
theorem dX6_putAside_20 : decode cX6_putAside 20 = .ok (.lastore, 1) := by decide +kernel
theorem dX6_putAside_21 : decode cX6_putAside 21 = .ok (.iinc 1 1, 3) := by decide +kernel
theorem dX6_putAside_24 : decode cX6_putAside 24 = .ok (.goto (-22), 3) := by decide +kernel
theorem dX6_putAside_27 : decode cX6_putAside 27 = .ok (.return_, 1) := by decide +kernel
theorem dX6_putBack_0 : decode cX6_putBack 0 = .ok (.iconst 0, 1) := by decide +kernel
theorem dX6_putBack_1 : decode cX6_putBack 1 = .ok (.istore_n 1, 1) := by decide +kernel
theorem dX6_putBack_2 : decode cX6_putBack 2 = .ok (.iload_n 1, 1) := by decide +kernel
theorem dX6_putBack_3 : decode cX6_putBack 3 = .ok (.sipush 1826, 3) := by decide +kernel
theorem dX6_putBack_6 : decode cX6_putBack 6 = .ok (.if_icmp .ge 21, 3) := by decide +kernel
theorem dX6_putBack_9 : decode cX6_putBack 9 = .ok (.aload_n 0, 1) := by decide +kernel
theorem dX6_putBack_10 : decode cX6_putBack 10 = .ok (.getfield 7, 3) := by decide +kernel
theorem dX6_putBack_13 : decode cX6_putBack 13 = .ok (.iload_n 1, 1) := by decide +kernel
theorem dX6_putBack_14 : decode cX6_putBack 14 = .ok (.aload_n 0, 1) := by decide +kernel
theorem dX6_putBack_15 : decode cX6_putBack 15 = .ok (.getfield 13, 3) := by decide +kernel
theorem dX6_putBack_18 : decode cX6_putBack 18 = .ok (.iload_n 1, 1) := by decide +kernel
theorem dX6_putBack_19 : decode cX6_putBack 19 = .ok (.laload, 1) := by decide +kernel
theorem dX6_putBack_20 : decode cX6_putBack 20 = .ok (.lastore, 1) := by decide +kernel
theorem dX6_putBack_21 : decode cX6_putBack 21 = .ok (.iinc 1 1, 3) := by decide +kernel
theorem dX6_putBack_24 : decode cX6_putBack 24 = .ok (.goto (-22), 3) := by decide +kernel
theorem dX6_putBack_27 : decode cX6_putBack 27 = .ok (.return_, 1) := by decide +kernel
theorem dX6_ticksTo_0 : decode cX6_ticksTo 0 = .ok (.iconst 0, 1) := by decide +kernel
theorem dX6_ticksTo_1 : decode cX6_ticksTo 1 = .ok (.istore_n 3, 1) := by decide +kernel
theorem dX6_ticksTo_2 : decode cX6_ticksTo 2 = .ok (.aload_n 0, 1) := by decide +kernel
theorem dX6_ticksTo_3 : decode cX6_ticksTo 3 = .ok (.iload_n 1, 1) := by decide +kernel
theorem dX6_ticksTo_4 : decode cX6_ticksTo 4 = .ok (.iconst 4, 1) := by decide +kernel
theorem dX6_ticksTo_5 : decode cX6_ticksTo 5 = .ok (.invokevirtual 49, 3) := by decide +kernel
theorem dX6_ticksTo_8 : decode cX6_ticksTo 8 = .ok (.ldc2_w 152, 3) := by decide +kernel
theorem dX6_ticksTo_11 : decode cX6_ticksTo 11 = .ok (.lcmp, 1) := by decide +kernel
theorem dX6_ticksTo_12 : decode cX6_ticksTo 12 = .ok (.ifCond .eq 18, 3) := by decide +kernel
theorem dX6_ticksTo_15 : decode cX6_ticksTo 15 = .ok (.iload_n 3, 1) := by decide +kernel
theorem dX6_ticksTo_16 : decode cX6_ticksTo 16 = .ok (.iload_n 2, 1) := by decide +kernel
theorem dX6_ticksTo_17 : decode cX6_ticksTo 17 = .ok (.if_icmp .ge 13, 3) := by decide +kernel
theorem dX6_ticksTo_20 : decode cX6_ticksTo 20 = .ok (.aload_n 0, 1) := by decide +kernel
theorem dX6_ticksTo_21 : decode cX6_ticksTo 21 = .ok (.invokevirtual 198, 3) := by decide +kernel
theorem dX6_ticksTo_24 : decode cX6_ticksTo 24 = .ok (.iinc 3 1, 3) := by decide +kernel
theorem dX6_ticksTo_27 : decode cX6_ticksTo 27 = .ok (.goto (-25), 3) := by decide +kernel
theorem dX6_ticksTo_30 : decode cX6_ticksTo 30 = .ok (.aload_n 0, 1) := by decide +kernel
theorem dX6_ticksTo_31 : decode cX6_ticksTo 31 = .ok (.iload_n 1, 1) := by decide +kernel
theorem dX6_ticksTo_32 : decode cX6_ticksTo 32 = .ok (.iconst 4, 1) := by decide +kernel
theorem dX6_ticksTo_33 : decode cX6_ticksTo 33 = .ok (.invokevirtual 49, 3) := by decide +kernel
theorem dX6_ticksTo_36 : decode cX6_ticksTo 36 = .ok (.ldc2_w 152, 3) := by decide +kernel
theorem dX6_ticksTo_39 : decode cX6_ticksTo 39 = .ok (.lcmp, 1) := by decide +kernel
theorem dX6_ticksTo_40 : decode cX6_ticksTo 40 = .ok (.ifCond .ne 7, 3) := by decide +kernel
theorem dX6_ticksTo_43 : decode cX6_ticksTo 43 = .ok (.iload_n 3, 1) := by decide +kernel
theorem dX6_ticksTo_44 : decode cX6_ticksTo 44 = .ok (.goto 5, 3) := by decide +kernel
theorem dX6_ticksTo_47 : decode cX6_ticksTo 47 = .ok (.bipush (-6), 2) := by decide +kernel
theorem dX6_ticksTo_49 : decode cX6_ticksTo 49 = .ok (.ireturn, 1) := by decide +kernel
theorem dX6_forecast_0 : decode cX6_forecast 0 = .ok (.aload_n 0, 1) := by decide +kernel
theorem dX6_forecast_1 : decode cX6_forecast 1 = .ok (.iload_n 1, 1) := by decide +kernel
theorem dX6_forecast_2 : decode cX6_forecast 2 = .ok (.invokevirtual 94, 3) := by decide +kernel
theorem dX6_forecast_5 : decode cX6_forecast 5 = .ok (.ifCond .ne 5, 3) := by decide +kernel
theorem dX6_forecast_8 : decode cX6_forecast 8 = .ok (.iconst (-1), 1) := by decide +kernel
theorem dX6_forecast_9 : decode cX6_forecast 9 = .ok (.ireturn, 1) := by decide +kernel
theorem dX6_forecast_10 : decode cX6_forecast 10 = .ok (.iload_n 2, 1) := by decide +kernel
theorem dX6_forecast_11 : decode cX6_forecast 11 = .ok (.i2l, 1) := by decide +kernel
theorem dX6_forecast_12 : decode cX6_forecast 12 = .ok (.lconst 1, 1) := by decide +kernel
theorem dX6_forecast_13 : decode cX6_forecast 13 = .ok (.ldc2_w 83, 3) := by decide +kernel
theorem dX6_forecast_16 : decode cX6_forecast 16 = .ok (.invokestatic 36, 3) := by decide +kernel
theorem dX6_forecast_19 : decode cX6_forecast 19 = .ok (.ifCond .ne 6, 3) := by decide +kernel
theorem dX6_forecast_22 : decode cX6_forecast 22 = .ok (.bipush (-2), 2) := by decide +kernel
theorem dX6_forecast_24 : decode cX6_forecast 24 = .ok (.ireturn, 1) := by decide +kernel
theorem dX6_forecast_25 : decode cX6_forecast 25 = .ok (.aload_n 0, 1) := by decide +kernel
theorem dX6_forecast_26 : decode cX6_forecast 26 = .ok (.invokevirtual 208, 3) := by decide +kernel
theorem dX6_forecast_29 : decode cX6_forecast 29 = .ok (.aload_n 0, 1) := by decide +kernel
theorem dX6_forecast_30 : decode cX6_forecast 30 = .ok (.iload_n 1, 1) := by decide +kernel
theorem dX6_forecast_31 : decode cX6_forecast 31 = .ok (.iload_n 2, 1) := by decide +kernel
theorem dX6_forecast_32 : decode cX6_forecast 32 = .ok (.invokevirtual 211, 3) := by decide +kernel
theorem dX6_forecast_35 : decode cX6_forecast 35 = .ok (.istore_n 3, 1) := by decide +kernel
theorem dX6_forecast_36 : decode cX6_forecast 36 = .ok (.aload_n 0, 1) := by decide +kernel
theorem dX6_forecast_37 : decode cX6_forecast 37 = .ok (.invokevirtual 214, 3) := by decide +kernel
theorem dX6_forecast_40 : decode cX6_forecast 40 = .ok (.iload_n 3, 1) := by decide +kernel
theorem dX6_forecast_41 : decode cX6_forecast 41 = .ok (.ireturn, 1) := by decide +kernel
theorem dX6_leastWeight_0 : decode cX6_leastWeight 0 = .ok (.aload_n 0, 1) := by decide +kernel
theorem dX6_leastWeight_1 : decode cX6_leastWeight 1 = .ok (.iload_n 1, 1) := by decide +kernel
theorem dX6_leastWeight_2 : decode cX6_leastWeight 2 = .ok (.invokevirtual 94, 3) := by decide +kernel
theorem dX6_leastWeight_5 : decode cX6_leastWeight 5 = .ok (.ifCond .ne 5, 3) := by decide +kernel
theorem dX6_leastWeight_8 : decode cX6_leastWeight 8 = .ok (.iconst (-1), 1) := by decide +kernel
theorem dX6_leastWeight_9 : decode cX6_leastWeight 9 = .ok (.ireturn, 1) := by decide +kernel
theorem dX6_leastWeight_10 : decode cX6_leastWeight 10 = .ok (.iload_n 2, 1) := by decide +kernel
theorem dX6_leastWeight_11 : decode cX6_leastWeight 11 = .ok (.i2l, 1) := by decide +kernel
theorem dX6_leastWeight_12 : decode cX6_leastWeight 12 = .ok (.lconst 1, 1) := by decide +kernel
theorem dX6_leastWeight_13 : decode cX6_leastWeight 13 = .ok (.ldc2_w 70, 3) := by decide +kernel
theorem dX6_leastWeight_16 : decode cX6_leastWeight 16 = .ok (.invokestatic 36, 3) := by decide +kernel
theorem dX6_leastWeight_19 : decode cX6_leastWeight 19 = .ok (.ifCond .ne 6, 3) := by decide +kernel
theorem dX6_leastWeight_22 : decode cX6_leastWeight 22 = .ok (.bipush (-2), 2) := by decide +kernel
theorem dX6_leastWeight_24 : decode cX6_leastWeight 24 = .ok (.ireturn, 1) := by decide +kernel
theorem dX6_leastWeight_25 : decode cX6_leastWeight 25 = .ok (.aload_n 0, 1) := by decide +kernel
theorem dX6_leastWeight_26 : decode cX6_leastWeight 26 = .ok (.iload_n 1, 1) := by decide +kernel
theorem dX6_leastWeight_27 : decode cX6_leastWeight 27 = .ok (.invokevirtual 60, 3) := by decide +kernel
theorem dX6_leastWeight_30 : decode cX6_leastWeight 30 = .ok (.ifCond .ne 6, 3) := by decide +kernel
theorem dX6_leastWeight_33 : decode cX6_leastWeight 33 = .ok (.bipush (-5), 2) := by decide +kernel
theorem dX6_leastWeight_35 : decode cX6_leastWeight 35 = .ok (.ireturn, 1) := by decide +kernel
theorem dX6_leastWeight_36 : decode cX6_leastWeight 36 = .ok (.aload_n 0, 1) := by decide +kernel
theorem dX6_leastWeight_37 : decode cX6_leastWeight 37 = .ok (.invokevirtual 208, 3) := by decide +kernel
theorem dX6_leastWeight_40 : decode cX6_leastWeight 40 = .ok (.bipush (-6), 2) := by decide +kernel
theorem dX6_leastWeight_42 : decode cX6_leastWeight 42 = .ok (.istore_n 3, 1) := by decide +kernel
theorem dX6_leastWeight_43 : decode cX6_leastWeight 43 = .ok (.iconst 1, 1) := by decide +kernel
theorem dX6_leastWeight_44 : decode cX6_leastWeight 44 = .ok (.istore 4, 2) := by decide +kernel
theorem dX6_leastWeight_46 : decode cX6_leastWeight 46 = .ok (.iload 4, 2) := by decide +kernel
theorem dX6_leastWeight_48 : decode cX6_leastWeight 48 = .ok (.bipush 16, 2) := by decide +kernel
theorem dX6_leastWeight_50 : decode cX6_leastWeight 50 = .ok (.if_icmp .gt 53, 3) := by decide +kernel
theorem dX6_leastWeight_53 : decode cX6_leastWeight 53 = .ok (.iload_n 3, 1) := by decide +kernel
theorem dX6_leastWeight_54 : decode cX6_leastWeight 54 = .ok (.ifCond .ge 49, 3) := by decide +kernel
theorem dX6_leastWeight_57 : decode cX6_leastWeight 57 = .ok (.aload_n 0, 1) := by decide +kernel
theorem dX6_leastWeight_58 : decode cX6_leastWeight 58 = .ok (.getfield 7, 3) := by decide +kernel
theorem dX6_leastWeight_61 : decode cX6_leastWeight 61 = .ok (.aload_n 0, 1) := by decide +kernel
theorem dX6_leastWeight_62 : decode cX6_leastWeight 62 = .ok (.iload_n 1, 1) := by decide +kernel
theorem dX6_leastWeight_63 : decode cX6_leastWeight 63 = .ok (.iconst 0, 1) := by decide +kernel
theorem dX6_leastWeight_64 : decode cX6_leastWeight 64 = .ok (.invokevirtual 49, 3) := by decide +kernel
theorem dX6_leastWeight_67 : decode cX6_leastWeight 67 = .ok (.l2i, 1) := by decide +kernel
theorem dX6_leastWeight_68 : decode cX6_leastWeight 68 = .ok (.iconst 0, 1) := by decide +kernel
theorem dX6_leastWeight_69 : decode cX6_leastWeight 69 = .ok (.invokestatic 40, 3) := by decide +kernel
theorem dX6_leastWeight_72 : decode cX6_leastWeight 72 = .ok (.iload 4, 2) := by decide +kernel
theorem dX6_leastWeight_74 : decode cX6_leastWeight 74 = .ok (.i2l, 1) := by decide +kernel
theorem dX6_leastWeight_75 : decode cX6_leastWeight 75 = .ok (.lastore, 1) := by decide +kernel
theorem dX6_leastWeight_76 : decode cX6_leastWeight 76 = .ok (.aload_n 0, 1) := by decide +kernel
theorem dX6_leastWeight_77 : decode cX6_leastWeight 77 = .ok (.iload_n 1, 1) := by decide +kernel
theorem dX6_leastWeight_78 : decode cX6_leastWeight 78 = .ok (.iload_n 2, 1) := by decide +kernel
theorem dX6_leastWeight_79 : decode cX6_leastWeight 79 = .ok (.invokevirtual 211, 3) := by decide +kernel
theorem dX6_leastWeight_82 : decode cX6_leastWeight 82 = .ok (.ifCond .lt 8, 3) := by decide +kernel
theorem dX6_leastWeight_85 : decode cX6_leastWeight 85 = .ok (.iload 4, 2) := by decide +kernel
theorem dX6_leastWeight_87 : decode cX6_leastWeight 87 = .ok (.goto 5, 3) := by decide +kernel
theorem dX6_leastWeight_90 : decode cX6_leastWeight 90 = .ok (.bipush (-6), 2) := by decide +kernel
theorem dX6_leastWeight_92 : decode cX6_leastWeight 92 = .ok (.istore_n 3, 1) := by decide +kernel
theorem dX6_leastWeight_93 : decode cX6_leastWeight 93 = .ok (.aload_n 0, 1) := by decide +kernel
theorem dX6_leastWeight_94 : decode cX6_leastWeight 94 = .ok (.invokevirtual 214, 3) := by decide +kernel
theorem dX6_leastWeight_97 : decode cX6_leastWeight 97 = .ok (.iinc 4 1, 3) := by decide +kernel
theorem dX6_leastWeight_100 : decode cX6_leastWeight 100 = .ok (.goto (-54), 3) := by decide +kernel
theorem dX6_leastWeight_103 : decode cX6_leastWeight 103 = .ok (.iload_n 3, 1) := by decide +kernel
theorem dX6_leastWeight_104 : decode cX6_leastWeight 104 = .ok (.ireturn, 1) := by decide +kernel
theorem dX6_markQueued_0 : decode cX6_markQueued 0 = .ok (.iconst 0, 1) := by decide +kernel
theorem dX6_markQueued_1 : decode cX6_markQueued 1 = .ok (.istore_n 1, 1) := by decide +kernel
theorem dX6_markQueued_2 : decode cX6_markQueued 2 = .ok (.aload_n 0, 1) := by decide +kernel
theorem dX6_markQueued_3 : decode cX6_markQueued 3 = .ok (.invokevirtual 56, 3) := by decide +kernel
theorem dX6_markQueued_6 : decode cX6_markQueued 6 = .ok (.istore_n 2, 1) := by decide +kernel
theorem dX6_markQueued_7 : decode cX6_markQueued 7 = .ok (.iload_n 2, 1) := by decide +kernel
theorem dX6_markQueued_8 : decode cX6_markQueued 8 = .ok (.i2l, 1) := by decide +kernel
theorem dX6_markQueued_9 : decode cX6_markQueued 9 = .ok (.aload_n 0, 1) := by decide +kernel
theorem dX6_markQueued_10 : decode cX6_markQueued 10 = .ok (.getfield 7, 3) := by decide +kernel
theorem dX6_markQueued_13 : decode cX6_markQueued 13 = .ok (.bipush 7, 2) := by decide +kernel
theorem dX6_markQueued_15 : decode cX6_markQueued 15 = .ok (.laload, 1) := by decide +kernel
theorem dX6_markQueued_16 : decode cX6_markQueued 16 = .ok (.lcmp, 1) := by decide +kernel
theorem dX6_markQueued_17 : decode cX6_markQueued 17 = .ok (.ifCond .ge 39, 3) := by decide +kernel
theorem dX6_markQueued_20 : decode cX6_markQueued 20 = .ok (.aload_n 0, 1) := by decide +kernel
theorem dX6_markQueued_21 : decode cX6_markQueued 21 = .ok (.getfield 27, 3) := by decide +kernel
theorem dX6_markQueued_24 : decode cX6_markQueued 24 = .ok (.iload_n 2, 1) := by decide +kernel
theorem dX6_markQueued_25 : decode cX6_markQueued 25 = .ok (.bipush 120, 2) := by decide +kernel
theorem dX6_markQueued_27 : decode cX6_markQueued 27 = .ok (.irem, 1) := by decide +kernel
theorem dX6_markQueued_28 : decode cX6_markQueued 28 = .ok (.aload_n 0, 1) := by decide +kernel
theorem dX6_markQueued_29 : decode cX6_markQueued 29 = .ok (.iload_n 2, 1) := by decide +kernel
theorem dX6_markQueued_30 : decode cX6_markQueued 30 = .ok (.invokevirtual 60, 3) := by decide +kernel
theorem dX6_markQueued_33 : decode cX6_markQueued 33 = .ok (.bastore, 1) := by decide +kernel
theorem dX6_markQueued_34 : decode cX6_markQueued 34 = .ok (.iload_n 1, 1) := by decide +kernel
theorem dX6_markQueued_35 : decode cX6_markQueued 35 = .ok (.aload_n 0, 1) := by decide +kernel
theorem dX6_markQueued_36 : decode cX6_markQueued 36 = .ok (.iload_n 2, 1) := by decide +kernel
theorem dX6_markQueued_37 : decode cX6_markQueued 37 = .ok (.invokevirtual 60, 3) := by decide +kernel
theorem dX6_markQueued_40 : decode cX6_markQueued 40 = .ok (.ifCond .eq 7, 3) := by decide +kernel
theorem dX6_markQueued_43 : decode cX6_markQueued 43 = .ok (.iconst 1, 1) := by decide +kernel
theorem dX6_markQueued_44 : decode cX6_markQueued 44 = .ok (.goto 4, 3) := by decide +kernel
theorem dX6_markQueued_47 : decode cX6_markQueued 47 = .ok (.iconst 0, 1) := by decide +kernel
theorem dX6_markQueued_48 : decode cX6_markQueued 48 = .ok (.iadd, 1) := by decide +kernel
theorem dX6_markQueued_49 : decode cX6_markQueued 49 = .ok (.istore_n 1, 1) := by decide +kernel
theorem dX6_markQueued_50 : decode cX6_markQueued 50 = .ok (.iinc 2 1, 3) := by decide +kernel
theorem dX6_markQueued_53 : decode cX6_markQueued 53 = .ok (.goto (-46), 3) := by decide +kernel
theorem dX6_markQueued_56 : decode cX6_markQueued 56 = .ok (.iload_n 1, 1) := by decide +kernel
theorem dX6_markQueued_57 : decode cX6_markQueued 57 = .ok (.ireturn, 1) := by decide +kernel
theorem dX6_worstOfMarked_0 : decode cX6_worstOfMarked 0 = .ok (.lconst 0, 1) := by decide +kernel
theorem dX6_worstOfMarked_1 : decode cX6_worstOfMarked 1 = .ok (.lstore_n 1, 1) := by decide +kernel
theorem dX6_worstOfMarked_2 : decode cX6_worstOfMarked 2 = .ok (.aload_n 0, 1) := by decide +kernel
theorem dX6_worstOfMarked_3 : decode cX6_worstOfMarked 3 = .ok (.invokevirtual 56, 3) := by decide +kernel
theorem dX6_worstOfMarked_6 : decode cX6_worstOfMarked 6 = .ok (.istore_n 3, 1) := by decide +kernel
theorem dX6_worstOfMarked_7 : decode cX6_worstOfMarked 7 = .ok (.iload_n 3, 1) := by decide +kernel
theorem dX6_worstOfMarked_8 : decode cX6_worstOfMarked 8 = .ok (.i2l, 1) := by decide +kernel
theorem dX6_worstOfMarked_9 : decode cX6_worstOfMarked 9 = .ok (.aload_n 0, 1) := by decide +kernel
theorem dX6_worstOfMarked_10 : decode cX6_worstOfMarked 10 = .ok (.getfield 7, 3) := by decide +kernel
theorem dX6_worstOfMarked_13 : decode cX6_worstOfMarked 13 = .ok (.bipush 7, 2) := by decide +kernel
theorem dX6_worstOfMarked_15 : decode cX6_worstOfMarked 15 = .ok (.laload, 1) := by decide +kernel
theorem dX6_worstOfMarked_16 : decode cX6_worstOfMarked 16 = .ok (.lcmp, 1) := by decide +kernel
theorem dX6_worstOfMarked_17 : decode cX6_worstOfMarked 17 = .ok (.ifCond .ge 70, 3) := by decide +kernel
theorem dX6_worstOfMarked_20 : decode cX6_worstOfMarked 20 = .ok (.aload_n 0, 1) := by decide +kernel
theorem dX6_worstOfMarked_21 : decode cX6_worstOfMarked 21 = .ok (.getfield 27, 3) := by decide +kernel
theorem dX6_worstOfMarked_24 : decode cX6_worstOfMarked 24 = .ok (.iload_n 3, 1) := by decide +kernel
theorem dX6_worstOfMarked_25 : decode cX6_worstOfMarked 25 = .ok (.bipush 120, 2) := by decide +kernel
theorem dX6_worstOfMarked_27 : decode cX6_worstOfMarked 27 = .ok (.irem, 1) := by decide +kernel
theorem dX6_worstOfMarked_28 : decode cX6_worstOfMarked 28 = .ok (.baload, 1) := by decide +kernel
theorem dX6_worstOfMarked_29 : decode cX6_worstOfMarked 29 = .ok (.ifCond .eq 52, 3) := by decide +kernel
theorem dX6_worstOfMarked_32 : decode cX6_worstOfMarked 32 = .ok (.aload_n 0, 1) := by decide +kernel
theorem dX6_worstOfMarked_33 : decode cX6_worstOfMarked 33 = .ok (.iload_n 3, 1) := by decide +kernel
theorem dX6_worstOfMarked_34 : decode cX6_worstOfMarked 34 = .ok (.iconst 4, 1) := by decide +kernel
theorem dX6_worstOfMarked_35 : decode cX6_worstOfMarked 35 = .ok (.invokevirtual 49, 3) := by decide +kernel
theorem dX6_worstOfMarked_38 : decode cX6_worstOfMarked 38 = .ok (.ldc2_w 152, 3) := by decide +kernel
theorem dX6_worstOfMarked_41 : decode cX6_worstOfMarked 41 = .ok (.lcmp, 1) := by decide +kernel
theorem dX6_worstOfMarked_42 : decode cX6_worstOfMarked 42 = .ok (.ifCond .ne 20, 3) := by decide +kernel
theorem dX6_worstOfMarked_45 : decode cX6_worstOfMarked 45 = .ok (.aload_n 0, 1) := by decide +kernel
theorem dX6_worstOfMarked_46 : decode cX6_worstOfMarked 46 = .ok (.iload_n 3, 1) := by decide +kernel
theorem dX6_worstOfMarked_47 : decode cX6_worstOfMarked 47 = .ok (.bipush 8, 2) := by decide +kernel
theorem dX6_worstOfMarked_49 : decode cX6_worstOfMarked 49 = .ok (.invokevirtual 49, 3) := by decide +kernel
theorem dX6_worstOfMarked_52 : decode cX6_worstOfMarked 52 = .ok (.aload_n 0, 1) := by decide +kernel
theorem dX6_worstOfMarked_53 : decode cX6_worstOfMarked 53 = .ok (.iload_n 3, 1) := by decide +kernel
theorem dX6_worstOfMarked_54 : decode cX6_worstOfMarked 54 = .ok (.iconst 2, 1) := by decide +kernel
theorem dX6_worstOfMarked_55 : decode cX6_worstOfMarked 55 = .ok (.invokevirtual 49, 3) := by decide +kernel
theorem dX6_worstOfMarked_58 : decode cX6_worstOfMarked 58 = .ok (.lsub, 1) := by decide +kernel
theorem dX6_worstOfMarked_59 : decode cX6_worstOfMarked 59 = .ok (.goto 6, 3) := by decide +kernel
theorem dX6_worstOfMarked_62 : decode cX6_worstOfMarked 62 = .ok (.ldc2_w 217, 3) := by decide +kernel
theorem dX6_worstOfMarked_65 : decode cX6_worstOfMarked 65 = .ok (.lstore 4, 2) := by decide +kernel
theorem dX6_worstOfMarked_67 : decode cX6_worstOfMarked 67 = .ok (.lload 4, 2) := by decide +kernel
theorem dX6_worstOfMarked_69 : decode cX6_worstOfMarked 69 = .ok (.lload_n 1, 1) := by decide +kernel
theorem dX6_worstOfMarked_70 : decode cX6_worstOfMarked 70 = .ok (.lcmp, 1) := by decide +kernel
theorem dX6_worstOfMarked_71 : decode cX6_worstOfMarked 71 = .ok (.ifCond .le 8, 3) := by decide +kernel
theorem dX6_worstOfMarked_74 : decode cX6_worstOfMarked 74 = .ok (.lload 4, 2) := by decide +kernel
theorem dX6_worstOfMarked_76 : decode cX6_worstOfMarked 76 = .ok (.goto 4, 3) := by decide +kernel
theorem dX6_worstOfMarked_79 : decode cX6_worstOfMarked 79 = .ok (.lload_n 1, 1) := by decide +kernel
theorem dX6_worstOfMarked_80 : decode cX6_worstOfMarked 80 = .ok (.lstore_n 1, 1) := by decide +kernel
theorem dX6_worstOfMarked_81 : decode cX6_worstOfMarked 81 = .ok (.iinc 3 1, 3) := by decide +kernel
theorem dX6_worstOfMarked_84 : decode cX6_worstOfMarked 84 = .ok (.goto (-77), 3) := by decide +kernel
theorem dX6_worstOfMarked_87 : decode cX6_worstOfMarked 87 = .ok (.lload_n 1, 1) := by decide +kernel
theorem dX6_worstOfMarked_88 : decode cX6_worstOfMarked 88 = .ok (.lreturn, 1) := by decide +kernel
theorem dX6_bestSplit_0 : decode cX6_bestSplit 0 = .ok (.aload_n 0, 1) := by decide +kernel
theorem dX6_bestSplit_1 : decode cX6_bestSplit 1 = .ok (.iload_n 1, 1) := by decide +kernel
theorem dX6_bestSplit_2 : decode cX6_bestSplit 2 = .ok (.invokevirtual 72, 3) := by decide +kernel
theorem dX6_bestSplit_5 : decode cX6_bestSplit 5 = .ok (.ifCond .ne 5, 3) := by decide +kernel
theorem dX6_bestSplit_8 : decode cX6_bestSplit 8 = .ok (.iconst (-1), 1) := by decide +kernel
theorem dX6_bestSplit_9 : decode cX6_bestSplit 9 = .ok (.ireturn, 1) := by decide +kernel
theorem dX6_bestSplit_10 : decode cX6_bestSplit 10 = .ok (.iload_n 2, 1) := by decide +kernel
theorem dX6_bestSplit_11 : decode cX6_bestSplit 11 = .ok (.i2l, 1) := by decide +kernel
theorem dX6_bestSplit_12 : decode cX6_bestSplit 12 = .ok (.lconst 0, 1) := by decide +kernel
theorem dX6_bestSplit_13 : decode cX6_bestSplit 13 = .ok (.ldc2_w 70, 3) := by decide +kernel
theorem dX6_bestSplit_16 : decode cX6_bestSplit 16 = .ok (.invokestatic 36, 3) := by decide +kernel
theorem dX6_bestSplit_19 : decode cX6_bestSplit 19 = .ok (.ifCond .eq 45, 3) := by decide +kernel
theorem dX6_bestSplit_22 : decode cX6_bestSplit 22 = .ok (.iload_n 3, 1) := by decide +kernel
theorem dX6_bestSplit_23 : decode cX6_bestSplit 23 = .ok (.i2l, 1) := by decide +kernel
theorem dX6_bestSplit_24 : decode cX6_bestSplit 24 = .ok (.lconst 1, 1) := by decide +kernel
theorem dX6_bestSplit_25 : decode cX6_bestSplit 25 = .ok (.ldc2_w 219, 3) := by decide +kernel
theorem dX6_bestSplit_28 : decode cX6_bestSplit 28 = .ok (.invokestatic 36, 3) := by decide +kernel
theorem dX6_bestSplit_31 : decode cX6_bestSplit 31 = .ok (.ifCond .eq 33, 3) := by decide +kernel
theorem dX6_bestSplit_34 : decode cX6_bestSplit 34 = .ok (.iload 4, 2) := by decide +kernel
theorem dX6_bestSplit_36 : decode cX6_bestSplit 36 = .ok (.i2l, 1) := by decide +kernel
theorem dX6_bestSplit_37 : decode cX6_bestSplit 37 = .ok (.lconst 1, 1) := by decide +kernel
theorem dX6_bestSplit_38 : decode cX6_bestSplit 38 = .ok (.ldc2_w 66, 3) := by decide +kernel
theorem dX6_bestSplit_41 : decode cX6_bestSplit 41 = .ok (.invokestatic 36, 3) := by decide +kernel
theorem dX6_bestSplit_44 : decode cX6_bestSplit 44 = .ok (.ifCond .eq 20, 3) := by decide +kernel
theorem dX6_bestSplit_47 : decode cX6_bestSplit 47 = .ok (.iload 5, 2) := by decide +kernel
theorem dX6_bestSplit_49 : decode cX6_bestSplit 49 = .ok (.i2l, 1) := by decide +kernel
theorem dX6_bestSplit_50 : decode cX6_bestSplit 50 = .ok (.lconst 1, 1) := by decide +kernel
theorem dX6_bestSplit_51 : decode cX6_bestSplit 51 = .ok (.ldc2_w 70, 3) := by decide +kernel
theorem dX6_bestSplit_54 : decode cX6_bestSplit 54 = .ok (.invokestatic 36, 3) := by decide +kernel
theorem dX6_bestSplit_57 : decode cX6_bestSplit 57 = .ok (.ifCond .eq 7, 3) := by decide +kernel
theorem dX6_bestSplit_60 : decode cX6_bestSplit 60 = .ok (.iconst 1, 1) := by decide +kernel
theorem dX6_bestSplit_61 : decode cX6_bestSplit 61 = .ok (.goto 4, 3) := by decide +kernel
theorem dX6_bestSplit_64 : decode cX6_bestSplit 64 = .ok (.iconst 0, 1) := by decide +kernel
theorem dX6_bestSplit_65 : decode cX6_bestSplit 65 = .ok (.istore 6, 2) := by decide +kernel
theorem dX6_bestSplit_67 : decode cX6_bestSplit 67 = .ok (.iload 6, 2) := by decide +kernel
theorem dX6_bestSplit_69 : decode cX6_bestSplit 69 = .ok (.ifCond .eq 17, 3) := by decide +kernel
theorem dX6_bestSplit_72 : decode cX6_bestSplit 72 = .ok (.iload_n 2, 1) := by decide +kernel
theorem dX6_bestSplit_73 : decode cX6_bestSplit 73 = .ok (.iload_n 3, 1) := by decide +kernel
theorem dX6_bestSplit_74 : decode cX6_bestSplit 74 = .ok (.iload 4, 2) := by decide +kernel
theorem dX6_bestSplit_76 : decode cX6_bestSplit 76 = .ok (.iconst 1, 1) := by decide +kernel
theorem dX6_bestSplit_77 : decode cX6_bestSplit 77 = .ok (.isub, 1) := by decide +kernel
theorem dX6_bestSplit_78 : decode cX6_bestSplit 78 = .ok (.imul, 1) := by decide +kernel
theorem dX6_bestSplit_79 : decode cX6_bestSplit 79 = .ok (.iadd, 1) := by decide +kernel
theorem dX6_bestSplit_80 : decode cX6_bestSplit 80 = .ok (.sipush 1000, 3) := by decide +kernel
theorem dX6_bestSplit_83 : decode cX6_bestSplit 83 = .ok (.if_icmp .le 6, 3) := by decide +kernel
theorem dX6_bestSplit_86 : decode cX6_bestSplit 86 = .ok (.bipush (-2), 2) := by decide +kernel
theorem dX6_bestSplit_88 : decode cX6_bestSplit 88 = .ok (.ireturn, 1) := by decide +kernel
theorem dX6_bestSplit_89 : decode cX6_bestSplit 89 = .ok (.aload_n 0, 1) := by decide +kernel
theorem dX6_bestSplit_90 : decode cX6_bestSplit 90 = .ok (.invokevirtual 221, 3) := by decide +kernel
theorem dX6_bestSplit_93 : decode cX6_bestSplit 93 = .ok (.ifCond .ne 6, 3) := by decide +kernel
theorem dX6_bestSplit_96 : decode cX6_bestSplit 96 = .ok (.bipush (-5), 2) := by decide +kernel
theorem dX6_bestSplit_98 : decode cX6_bestSplit 98 = .ok (.ireturn, 1) := by decide +kernel
theorem dX6_bestSplit_99 : decode cX6_bestSplit 99 = .ok (.aload_n 0, 1) := by decide +kernel
theorem dX6_bestSplit_100 : decode cX6_bestSplit 100 = .ok (.invokevirtual 208, 3) := by decide +kernel
theorem dX6_bestSplit_103 : decode cX6_bestSplit 103 = .ok (.iload_n 2, 1) := by decide +kernel
theorem dX6_bestSplit_104 : decode cX6_bestSplit 104 = .ok (.istore 7, 2) := by decide +kernel
theorem dX6_bestSplit_106 : decode cX6_bestSplit 106 = .ok (.ldc2_w 224, 3) := by decide +kernel
theorem dX6_bestSplit_109 : decode cX6_bestSplit 109 = .ok (.lstore 8, 2) := by decide +kernel
theorem dX6_bestSplit_111 : decode cX6_bestSplit 111 = .ok (.iconst 0, 1) := by decide +kernel
theorem dX6_bestSplit_112 : decode cX6_bestSplit 112 = .ok (.istore 10, 2) := by decide +kernel
theorem dX6_bestSplit_114 : decode cX6_bestSplit 114 = .ok (.iload 10, 2) := by decide +kernel
theorem dX6_bestSplit_116 : decode cX6_bestSplit 116 = .ok (.iload 4, 2) := by decide +kernel
theorem dX6_bestSplit_118 : decode cX6_bestSplit 118 = .ok (.if_icmp .ge 83, 3) := by decide +kernel
theorem dX6_bestSplit_121 : decode cX6_bestSplit 121 = .ok (.aload_n 0, 1) := by decide +kernel
theorem dX6_bestSplit_122 : decode cX6_bestSplit 122 = .ok (.getfield 7, 3) := by decide +kernel
theorem dX6_bestSplit_125 : decode cX6_bestSplit 125 = .ok (.iload_n 1, 1) := by decide +kernel
theorem dX6_bestSplit_126 : decode cX6_bestSplit 126 = .ok (.iconst 2, 1) := by decide +kernel
theorem dX6_bestSplit_127 : decode cX6_bestSplit 127 = .ok (.invokestatic 40, 3) := by decide +kernel
theorem dX6_bestSplit_130 : decode cX6_bestSplit 130 = .ok (.iload_n 2, 1) := by decide +kernel
theorem dX6_bestSplit_131 : decode cX6_bestSplit 131 = .ok (.iload_n 3, 1) := by decide +kernel
theorem dX6_bestSplit_132 : decode cX6_bestSplit 132 = .ok (.iload 10, 2) := by decide +kernel
theorem dX6_bestSplit_134 : decode cX6_bestSplit 134 = .ok (.imul, 1) := by decide +kernel
theorem dX6_bestSplit_135 : decode cX6_bestSplit 135 = .ok (.iadd, 1) := by decide +kernel
theorem dX6_bestSplit_136 : decode cX6_bestSplit 136 = .ok (.i2l, 1) := by decide +kernel
theorem dX6_bestSplit_137 : decode cX6_bestSplit 137 = .ok (.lastore, 1) := by decide +kernel
theorem dX6_bestSplit_138 : decode cX6_bestSplit 138 = .ok (.iconst 0, 1) := by decide +kernel
theorem dX6_bestSplit_139 : decode cX6_bestSplit 139 = .ok (.istore 11, 2) := by decide +kernel
theorem dX6_bestSplit_141 : decode cX6_bestSplit 141 = .ok (.iload 11, 2) := by decide +kernel
theorem dX6_bestSplit_143 : decode cX6_bestSplit 143 = .ok (.iload 5, 2) := by decide +kernel
theorem dX6_bestSplit_145 : decode cX6_bestSplit 145 = .ok (.if_icmp .ge 13, 3) := by decide +kernel
theorem dX6_bestSplit_148 : decode cX6_bestSplit 148 = .ok (.aload_n 0, 1) := by decide +kernel
theorem dX6_bestSplit_149 : decode cX6_bestSplit 149 = .ok (.invokevirtual 198, 3) := by decide +kernel
theorem dX6_bestSplit_152 : decode cX6_bestSplit 152 = .ok (.iinc 11 1, 3) := by decide +kernel
theorem dX6_bestSplit_155 : decode cX6_bestSplit 155 = .ok (.goto (-14), 3) := by decide +kernel
theorem dX6_bestSplit_158 : decode cX6_bestSplit 158 = .ok (.aload_n 0, 1) := by decide +kernel
theorem dX6_bestSplit_159 : decode cX6_bestSplit 159 = .ok (.invokevirtual 226, 3) := by decide +kernel
theorem dX6_bestSplit_162 : decode cX6_bestSplit 162 = .ok (.lstore 11, 2) := by decide +kernel
theorem dX6_bestSplit_164 : decode cX6_bestSplit 164 = .ok (.aload_n 0, 1) := by decide +kernel
theorem dX6_bestSplit_165 : decode cX6_bestSplit 165 = .ok (.invokevirtual 214, 3) := by decide +kernel
theorem dX6_bestSplit_168 : decode cX6_bestSplit 168 = .ok (.lload 8, 2) := by decide +kernel
theorem dX6_bestSplit_170 : decode cX6_bestSplit 170 = .ok (.lconst 0, 1) := by decide +kernel
theorem dX6_bestSplit_171 : decode cX6_bestSplit 171 = .ok (.lcmp, 1) := by decide +kernel
theorem dX6_bestSplit_172 : decode cX6_bestSplit 172 = .ok (.ifCond .lt 11, 3) := by decide +kernel
theorem dX6_bestSplit_175 : decode cX6_bestSplit 175 = .ok (.lload 11, 2) := by decide +kernel
theorem dX6_bestSplit_177 : decode cX6_bestSplit 177 = .ok (.lload 8, 2) := by decide +kernel
theorem dX6_bestSplit_179 : decode cX6_bestSplit 179 = .ok (.lcmp, 1) := by decide +kernel
theorem dX6_bestSplit_180 : decode cX6_bestSplit 180 = .ok (.ifCond .ge 15, 3) := by decide +kernel
theorem dX6_bestSplit_183 : decode cX6_bestSplit 183 = .ok (.lload 11, 2) := by decide +kernel
theorem dX6_bestSplit_185 : decode cX6_bestSplit 185 = .ok (.lstore 8, 2) := by decide +kernel
theorem dX6_bestSplit_187 : decode cX6_bestSplit 187 = .ok (.iload_n 2, 1) := by decide +kernel
theorem dX6_bestSplit_188 : decode cX6_bestSplit 188 = .ok (.iload_n 3, 1) := by decide +kernel
theorem dX6_bestSplit_189 : decode cX6_bestSplit 189 = .ok (.iload 10, 2) := by decide +kernel
theorem dX6_bestSplit_191 : decode cX6_bestSplit 191 = .ok (.imul, 1) := by decide +kernel
theorem dX6_bestSplit_192 : decode cX6_bestSplit 192 = .ok (.iadd, 1) := by decide +kernel
theorem dX6_bestSplit_193 : decode cX6_bestSplit 193 = .ok (.istore 7, 2) := by decide +kernel
theorem dX6_bestSplit_195 : decode cX6_bestSplit 195 = .ok (.iinc 10 1, 3) := by decide +kernel
theorem dX6_bestSplit_198 : decode cX6_bestSplit 198 = .ok (.goto (-84), 3) := by decide +kernel
theorem dX6_bestSplit_201 : decode cX6_bestSplit 201 = .ok (.iload 7, 2) := by decide +kernel
theorem dX6_bestSplit_203 : decode cX6_bestSplit 203 = .ok (.ireturn, 1) := by decide +kernel
theorem dX6_save_0 : decode cX6_save 0 = .ok (.iload_n 1, 1) := by decide +kernel
theorem dX6_save_1 : decode cX6_save 1 = .ok (.i2l, 1) := by decide +kernel
theorem dX6_save_2 : decode cX6_save 2 = .ok (.lconst 0, 1) := by decide +kernel
theorem dX6_save_3 : decode cX6_save 3 = .ok (.lconst 1, 1) := by decide +kernel
theorem dX6_save_4 : decode cX6_save 4 = .ok (.invokestatic 36, 3) := by decide +kernel
theorem dX6_save_7 : decode cX6_save 7 = .ok (.ifCond .ne 6, 3) := by decide +kernel
theorem dX6_save_10 : decode cX6_save 10 = .ok (.bipush (-2), 2) := by decide +kernel
theorem dX6_save_12 : decode cX6_save 12 = .ok (.ireturn, 1) := by decide +kernel
theorem dX6_save_13 : decode cX6_save 13 = .ok (.iconst 0, 1) := by decide +kernel
theorem dX6_save_14 : decode cX6_save 14 = .ok (.istore_n 2, 1) := by decide +kernel
theorem dX6_save_15 : decode cX6_save 15 = .ok (.iload_n 2, 1) := by decide +kernel
theorem dX6_save_16 : decode cX6_save 16 = .ok (.sipush 1826, 3) := by decide +kernel
theorem dX6_save_19 : decode cX6_save 19 = .ok (.if_icmp .ge 27, 3) := by decide +kernel
theorem dX6_save_22 : decode cX6_save 22 = .ok (.aload_n 0, 1) := by decide +kernel
theorem dX6_save_23 : decode cX6_save 23 = .ok (.getfield 16, 3) := by decide +kernel
theorem dX6_save_26 : decode cX6_save 26 = .ok (.sipush 1826, 3) := by decide +kernel
theorem dX6_save_29 : decode cX6_save 29 = .ok (.iload_n 1, 1) := by decide +kernel
theorem dX6_save_30 : decode cX6_save 30 = .ok (.imul, 1) := by decide +kernel
theorem dX6_save_31 : decode cX6_save 31 = .ok (.iload_n 2, 1) := by decide +kernel
theorem dX6_save_32 : decode cX6_save 32 = .ok (.iadd, 1) := by decide +kernel
theorem dX6_save_33 : decode cX6_save 33 = .ok (.aload_n 0, 1) := by decide +kernel
theorem dX6_save_34 : decode cX6_save 34 = .ok (.getfield 7, 3) := by decide +kernel
theorem dX6_save_37 : decode cX6_save 37 = .ok (.iload_n 2, 1) := by decide +kernel
theorem dX6_save_38 : decode cX6_save 38 = .ok (.laload, 1) := by decide +kernel
theorem dX6_save_39 : decode cX6_save 39 = .ok (.lastore, 1) := by decide +kernel
theorem dX6_save_40 : decode cX6_save 40 = .ok (.iinc 2 1, 3) := by decide +kernel
theorem dX6_save_43 : decode cX6_save 43 = .ok (.goto (-28), 3) := by decide +kernel
theorem dX6_save_46 : decode cX6_save 46 = .ok (.aload_n 0, 1) := by decide +kernel
theorem dX6_save_47 : decode cX6_save 47 = .ok (.getfield 19, 3) := by decide +kernel
theorem dX6_save_50 : decode cX6_save 50 = .ok (.iload_n 1, 1) := by decide +kernel
theorem dX6_save_51 : decode cX6_save 51 = .ok (.iconst 1, 1) := by decide +kernel
theorem dX6_save_52 : decode cX6_save 52 = .ok (.bastore, 1) := by decide +kernel
theorem dX6_save_53 : decode cX6_save 53 = .ok (.aload_n 0, 1) := by decide +kernel
theorem dX6_save_54 : decode cX6_save 54 = .ok (.getfield 7, 3) := by decide +kernel
theorem dX6_save_57 : decode cX6_save 57 = .ok (.iconst 0, 1) := by decide +kernel
theorem dX6_save_58 : decode cX6_save 58 = .ok (.laload, 1) := by decide +kernel
theorem dX6_save_59 : decode cX6_save 59 = .ok (.l2i, 1) := by decide +kernel
theorem dX6_save_60 : decode cX6_save 60 = .ok (.ireturn, 1) := by decide +kernel
theorem dX6_restore_0 : decode cX6_restore 0 = .ok (.iload_n 1, 1) := by decide +kernel
theorem dX6_restore_1 : decode cX6_restore 1 = .ok (.i2l, 1) := by decide +kernel
theorem dX6_restore_2 : decode cX6_restore 2 = .ok (.lconst 0, 1) := by decide +kernel
theorem dX6_restore_3 : decode cX6_restore 3 = .ok (.lconst 1, 1) := by decide +kernel
theorem dX6_restore_4 : decode cX6_restore 4 = .ok (.invokestatic 36, 3) := by decide +kernel
theorem dX6_restore_7 : decode cX6_restore 7 = .ok (.ifCond .ne 6, 3) := by decide +kernel
theorem dX6_restore_10 : decode cX6_restore 10 = .ok (.bipush (-2), 2) := by decide +kernel
theorem dX6_restore_12 : decode cX6_restore 12 = .ok (.ireturn, 1) := by decide +kernel
theorem dX6_restore_13 : decode cX6_restore 13 = .ok (.aload_n 0, 1) := by decide +kernel
theorem dX6_restore_14 : decode cX6_restore 14 = .ok (.getfield 19, 3) := by decide +kernel
theorem dX6_restore_17 : decode cX6_restore 17 = .ok (.iload_n 1, 1) := by decide +kernel
theorem dX6_restore_18 : decode cX6_restore 18 = .ok (.baload, 1) := by decide +kernel
theorem dX6_restore_19 : decode cX6_restore 19 = .ok (.ifCond .ne 6, 3) := by decide +kernel
theorem dX6_restore_22 : decode cX6_restore 22 = .ok (.bipush (-5), 2) := by decide +kernel
theorem dX6_restore_24 : decode cX6_restore 24 = .ok (.ireturn, 1) := by decide +kernel
theorem dX6_restore_25 : decode cX6_restore 25 = .ok (.iconst 0, 1) := by decide +kernel
theorem dX6_restore_26 : decode cX6_restore 26 = .ok (.istore_n 2, 1) := by decide +kernel
theorem dX6_restore_27 : decode cX6_restore 27 = .ok (.iload_n 2, 1) := by decide +kernel
theorem dX6_restore_28 : decode cX6_restore 28 = .ok (.sipush 1826, 3) := by decide +kernel
theorem dX6_restore_31 : decode cX6_restore 31 = .ok (.if_icmp .ge 27, 3) := by decide +kernel
theorem dX6_restore_34 : decode cX6_restore 34 = .ok (.aload_n 0, 1) := by decide +kernel
theorem dX6_restore_35 : decode cX6_restore 35 = .ok (.getfield 7, 3) := by decide +kernel
theorem dX6_restore_38 : decode cX6_restore 38 = .ok (.iload_n 2, 1) := by decide +kernel
theorem dX6_restore_39 : decode cX6_restore 39 = .ok (.aload_n 0, 1) := by decide +kernel
theorem dX6_restore_40 : decode cX6_restore 40 = .ok (.getfield 16, 3) := by decide +kernel
theorem dX6_restore_43 : decode cX6_restore 43 = .ok (.sipush 1826, 3) := by decide +kernel
theorem dX6_restore_46 : decode cX6_restore 46 = .ok (.iload_n 1, 1) := by decide +kernel
theorem dX6_restore_47 : decode cX6_restore 47 = .ok (.imul, 1) := by decide +kernel
theorem dX6_restore_48 : decode cX6_restore 48 = .ok (.iload_n 2, 1) := by decide +kernel
theorem dX6_restore_49 : decode cX6_restore 49 = .ok (.iadd, 1) := by decide +kernel
theorem dX6_restore_50 : decode cX6_restore 50 = .ok (.laload, 1) := by decide +kernel
theorem dX6_restore_51 : decode cX6_restore 51 = .ok (.lastore, 1) := by decide +kernel
theorem dX6_restore_52 : decode cX6_restore 52 = .ok (.iinc 2 1, 3) := by decide +kernel
theorem dX6_restore_55 : decode cX6_restore 55 = .ok (.goto (-28), 3) := by decide +kernel
theorem dX6_restore_58 : decode cX6_restore 58 = .ok (.aload_n 0, 1) := by decide +kernel
theorem dX6_restore_59 : decode cX6_restore 59 = .ok (.getfield 7, 3) := by decide +kernel
theorem dX6_restore_62 : decode cX6_restore 62 = .ok (.iconst 0, 1) := by decide +kernel
theorem dX6_restore_63 : decode cX6_restore 63 = .ok (.laload, 1) := by decide +kernel
theorem dX6_restore_64 : decode cX6_restore 64 = .ok (.l2i, 1) := by decide +kernel
theorem dX6_restore_65 : decode cX6_restore 65 = .ok (.ireturn, 1) := by decide +kernel
theorem dJ9_floorMod_7cf53_0 : decode cJ9_floorMod_7cf53 0 = .ok (.iload_n 0, 1) := by decide +kernel
theorem dJ9_floorMod_7cf53_1 : decode cJ9_floorMod_7cf53 1 = .ok (.iload_n 1, 1) := by decide +kernel
theorem dJ9_floorMod_7cf53_2 : decode cJ9_floorMod_7cf53 2 = .ok (.irem, 1) := by decide +kernel
theorem dJ9_floorMod_7cf53_3 : decode cJ9_floorMod_7cf53 3 = .ok (.istore_n 2, 1) := by decide +kernel
theorem dJ9_floorMod_7cf53_4 : decode cJ9_floorMod_7cf53 4 = .ok (.iload_n 0, 1) := by decide +kernel
theorem dJ9_floorMod_7cf53_5 : decode cJ9_floorMod_7cf53 5 = .ok (.iload_n 1, 1) := by decide +kernel
theorem dJ9_floorMod_7cf53_6 : decode cJ9_floorMod_7cf53 6 = .ok (.ixor, 1) := by decide +kernel
theorem dJ9_floorMod_7cf53_7 : decode cJ9_floorMod_7cf53 7 = .ok (.ifCond .ge 11, 3) := by decide +kernel
theorem dJ9_floorMod_7cf53_10 : decode cJ9_floorMod_7cf53 10 = .ok (.iload_n 2, 1) := by decide +kernel
theorem dJ9_floorMod_7cf53_11 : decode cJ9_floorMod_7cf53 11 = .ok (.ifCond .eq 7, 3) := by decide +kernel
theorem dJ9_floorMod_7cf53_14 : decode cJ9_floorMod_7cf53 14 = .ok (.iload_n 2, 1) := by decide +kernel
theorem dJ9_floorMod_7cf53_15 : decode cJ9_floorMod_7cf53 15 = .ok (.iload_n 1, 1) := by decide +kernel
theorem dJ9_floorMod_7cf53_16 : decode cJ9_floorMod_7cf53 16 = .ok (.iadd, 1) := by decide +kernel
theorem dJ9_floorMod_7cf53_17 : decode cJ9_floorMod_7cf53 17 = .ok (.ireturn, 1) := by decide +kernel
theorem dJ9_floorMod_7cf53_18 : decode cJ9_floorMod_7cf53 18 = .ok (.iload_n 2, 1) := by decide +kernel
theorem dJ9_floorMod_7cf53_19 : decode cJ9_floorMod_7cf53 19 = .ok (.ireturn, 1) := by decide +kernel
theorem dJ9_abs_067f4_0 : decode cJ9_abs_067f4 0 = .ok (.lload_n 0, 1) := by decide +kernel
theorem dJ9_abs_067f4_1 : decode cJ9_abs_067f4 1 = .ok (.lconst 0, 1) := by decide +kernel
theorem dJ9_abs_067f4_2 : decode cJ9_abs_067f4 2 = .ok (.lcmp, 1) := by decide +kernel
theorem dJ9_abs_067f4_3 : decode cJ9_abs_067f4 3 = .ok (.ifCond .ge 8, 3) := by decide +kernel
theorem dJ9_abs_067f4_6 : decode cJ9_abs_067f4 6 = .ok (.lload_n 0, 1) := by decide +kernel
theorem dJ9_abs_067f4_7 : decode cJ9_abs_067f4 7 = .ok (.lneg, 1) := by decide +kernel
theorem dJ9_abs_067f4_8 : decode cJ9_abs_067f4 8 = .ok (.goto 4, 3) := by decide +kernel
theorem dJ9_abs_067f4_11 : decode cJ9_abs_067f4 11 = .ok (.lload_n 0, 1) := by decide +kernel
theorem dJ9_abs_067f4_12 : decode cJ9_abs_067f4 12 = .ok (.lreturn, 1) := by decide +kernel
theorem dJ9_max_7cf53_0 : decode cJ9_max_7cf53 0 = .ok (.iload_n 0, 1) := by decide +kernel
theorem dJ9_max_7cf53_1 : decode cJ9_max_7cf53 1 = .ok (.iload_n 1, 1) := by decide +kernel
theorem dJ9_max_7cf53_2 : decode cJ9_max_7cf53 2 = .ok (.if_icmp .lt 7, 3) := by decide +kernel
theorem dJ9_max_7cf53_5 : decode cJ9_max_7cf53 5 = .ok (.iload_n 0, 1) := by decide +kernel
theorem dJ9_max_7cf53_6 : decode cJ9_max_7cf53 6 = .ok (.goto 4, 3) := by decide +kernel
theorem dJ9_max_7cf53_9 : decode cJ9_max_7cf53 9 = .ok (.iload_n 1, 1) := by decide +kernel
theorem dJ9_max_7cf53_10 : decode cJ9_max_7cf53 10 = .ok (.ireturn, 1) := by decide +kernel
theorem dJ9_max_f86c9_0 : decode cJ9_max_f86c9 0 = .ok (.lload_n 0, 1) := by decide +kernel
theorem dJ9_max_f86c9_1 : decode cJ9_max_f86c9 1 = .ok (.lload_n 2, 1) := by decide +kernel
theorem dJ9_max_f86c9_2 : decode cJ9_max_f86c9 2 = .ok (.lcmp, 1) := by decide +kernel
theorem dJ9_max_f86c9_3 : decode cJ9_max_f86c9 3 = .ok (.ifCond .lt 7, 3) := by decide +kernel
theorem dJ9_max_f86c9_6 : decode cJ9_max_f86c9 6 = .ok (.lload_n 0, 1) := by decide +kernel
theorem dJ9_max_f86c9_7 : decode cJ9_max_f86c9 7 = .ok (.goto 4, 3) := by decide +kernel
theorem dJ9_max_f86c9_10 : decode cJ9_max_f86c9 10 = .ok (.lload_n 2, 1) := by decide +kernel
theorem dJ9_max_f86c9_11 : decode cJ9_max_f86c9 11 = .ok (.lreturn, 1) := by decide +kernel
theorem dJ9_min_7cf53_0 : decode cJ9_min_7cf53 0 = .ok (.iload_n 0, 1) := by decide +kernel
theorem dJ9_min_7cf53_1 : decode cJ9_min_7cf53 1 = .ok (.iload_n 1, 1) := by decide +kernel
theorem dJ9_min_7cf53_2 : decode cJ9_min_7cf53 2 = .ok (.if_icmp .gt 7, 3) := by decide +kernel
theorem dJ9_min_7cf53_5 : decode cJ9_min_7cf53 5 = .ok (.iload_n 0, 1) := by decide +kernel
theorem dJ9_min_7cf53_6 : decode cJ9_min_7cf53 6 = .ok (.goto 4, 3) := by decide +kernel
theorem dJ9_min_7cf53_9 : decode cJ9_min_7cf53 9 = .ok (.iload_n 1, 1) := by decide +kernel
theorem dJ9_min_7cf53_10 : decode cJ9_min_7cf53 10 = .ok (.ireturn, 1) := by decide +kernel
theorem dJ9_min_f86c9_0 : decode cJ9_min_f86c9 0 = .ok (.lload_n 0, 1) := by decide +kernel
theorem dJ9_min_f86c9_1 : decode cJ9_min_f86c9 1 = .ok (.lload_n 2, 1) := by decide +kernel
theorem dJ9_min_f86c9_2 : decode cJ9_min_f86c9 2 = .ok (.lcmp, 1) := by decide +kernel
theorem dJ9_min_f86c9_3 : decode cJ9_min_f86c9 3 = .ok (.ifCond .gt 7, 3) := by decide +kernel
theorem dJ9_min_f86c9_6 : decode cJ9_min_f86c9 6 = .ok (.lload_n 0, 1) := by decide +kernel
theorem dJ9_min_f86c9_7 : decode cJ9_min_f86c9 7 = .ok (.goto 4, 3) := by decide +kernel
theorem dJ9_min_f86c9_10 : decode cJ9_min_f86c9 10 = .ok (.lload_n 2, 1) := by decide +kernel
theorem dJ9_min_f86c9_11 : decode cJ9_min_f86c9 11 = .ok (.lreturn, 1) := by decide +kernel
theorem dL_law_0 : decode cL_law 0 = .ok (.new 7, 3) := by decide +kernel
theorem dL_law_3 : decode cL_law 3 = .ok (.dup, 1) := by decide +kernel
theorem dL_law_4 : decode cL_law 4 = .ok (.invokespecial 9, 3) := by decide +kernel
theorem dL_law_7 : decode cL_law 7 = .ok (.astore_n 1, 1) := by decide +kernel
theorem dL_law_8 : decode cL_law 8 = .ok (.new 10, 3) := by decide +kernel
theorem dL_law_11 : decode cL_law 11 = .ok (.dup, 1) := by decide +kernel
theorem dL_law_12 : decode cL_law 12 = .ok (.invokespecial 12, 3) := by decide +kernel
theorem dL_law_15 : decode cL_law 15 = .ok (.astore_n 2, 1) := by decide +kernel
theorem dL_law_16 : decode cL_law 16 = .ok (.iconst 0, 1) := by decide +kernel
theorem dL_law_17 : decode cL_law 17 = .ok (.istore_n 3, 1) := by decide +kernel
theorem dL_law_18 : decode cL_law 18 = .ok (.iload_n 3, 1) := by decide +kernel
theorem dL_law_19 : decode cL_law 19 = .ok (.aload_n 0, 1) := by decide +kernel
theorem dL_law_20 : decode cL_law 20 = .ok (.arraylength, 1) := by decide +kernel
theorem dL_law_21 : decode cL_law 21 = .ok (.bipush 6, 2) := by decide +kernel
theorem dL_law_23 : decode cL_law 23 = .ok (.isub, 1) := by decide +kernel
theorem dL_law_24 : decode cL_law 24 = .ok (.if_icmp .gt 832, 3) := by decide +kernel
theorem dL_law_27 : decode cL_law 27 = .ok (.aload_n 0, 1) := by decide +kernel
theorem dL_law_28 : decode cL_law 28 = .ok (.iload_n 3, 1) := by decide +kernel
theorem dL_law_29 : decode cL_law 29 = .ok (.iaload, 1) := by decide +kernel
theorem dL_law_30 : decode cL_law 30 = .ok (.bipush 31, 2) := by decide +kernel
theorem dL_law_32 : decode cL_law 32 = .ok (.iand, 1) := by decide +kernel
theorem dL_law_33 : decode cL_law 33 = .ok (.tableswitch 817 0 23 #[111, 134, 177, 210, 253, 276, 309, 333, 386, 399, 412, 425, 448, 471, 504, 538, 552, 575, 608, 642, 675, 708, 771, 794], 111) := by decide +kernel
theorem dL_law_144 : decode cL_law 144 = .ok (.aload_n 1, 1) := by decide +kernel
theorem dL_law_145 : decode cL_law 145 = .ok (.aload_n 0, 1) := by decide +kernel
theorem dL_law_146 : decode cL_law 146 = .ok (.iload_n 3, 1) := by decide +kernel
theorem dL_law_147 : decode cL_law 147 = .ok (.iconst 1, 1) := by decide +kernel
theorem dL_law_148 : decode cL_law 148 = .ok (.iadd, 1) := by decide +kernel
theorem dL_law_149 : decode cL_law 149 = .ok (.iaload, 1) := by decide +kernel
theorem dL_law_150 : decode cL_law 150 = .ok (.invokevirtual 13, 3) := by decide +kernel
theorem dL_law_153 : decode cL_law 153 = .ok (.aload_n 2, 1) := by decide +kernel
theorem dL_law_154 : decode cL_law 154 = .ok (.aload_n 0, 1) := by decide +kernel
theorem dL_law_155 : decode cL_law 155 = .ok (.iload_n 3, 1) := by decide +kernel
theorem dL_law_156 : decode cL_law 156 = .ok (.iconst 1, 1) := by decide +kernel
theorem dL_law_157 : decode cL_law 157 = .ok (.iadd, 1) := by decide +kernel
theorem dL_law_158 : decode cL_law 158 = .ok (.iaload, 1) := by decide +kernel
theorem dL_law_159 : decode cL_law 159 = .ok (.invokevirtual 17, 3) := by decide +kernel
theorem dL_law_162 : decode cL_law 162 = .ok (.if_icmp .eq 688, 3) := by decide +kernel
theorem dL_law_165 : decode cL_law 165 = .ok (.iconst 0, 1) := by decide +kernel
theorem dL_law_166 : decode cL_law 166 = .ok (.ireturn, 1) := by decide +kernel
theorem dL_law_167 : decode cL_law 167 = .ok (.aload_n 1, 1) := by decide +kernel
theorem dL_law_168 : decode cL_law 168 = .ok (.aload_n 0, 1) := by decide +kernel
theorem dL_law_169 : decode cL_law 169 = .ok (.iload_n 3, 1) := by decide +kernel
theorem dL_law_170 : decode cL_law 170 = .ok (.iconst 1, 1) := by decide +kernel
theorem dL_law_171 : decode cL_law 171 = .ok (.iadd, 1) := by decide +kernel
theorem dL_law_172 : decode cL_law 172 = .ok (.iaload, 1) := by decide +kernel
theorem dL_law_173 : decode cL_law 173 = .ok (.aload_n 0, 1) := by decide +kernel
theorem dL_law_174 : decode cL_law 174 = .ok (.iload_n 3, 1) := by decide +kernel
theorem dL_law_175 : decode cL_law 175 = .ok (.iconst 2, 1) := by decide +kernel
theorem dL_law_176 : decode cL_law 176 = .ok (.iadd, 1) := by decide +kernel
theorem dL_law_177 : decode cL_law 177 = .ok (.iaload, 1) := by decide +kernel
theorem dL_law_178 : decode cL_law 178 = .ok (.aload_n 0, 1) := by decide +kernel
theorem dL_law_179 : decode cL_law 179 = .ok (.iload_n 3, 1) := by decide +kernel
theorem dL_law_180 : decode cL_law 180 = .ok (.iconst 3, 1) := by decide +kernel
theorem dL_law_181 : decode cL_law 181 = .ok (.iadd, 1) := by decide +kernel
theorem dL_law_182 : decode cL_law 182 = .ok (.iaload, 1) := by decide +kernel
theorem dL_law_183 : decode cL_law 183 = .ok (.invokevirtual 18, 3) := by decide +kernel
theorem dL_law_186 : decode cL_law 186 = .ok (.aload_n 2, 1) := by decide +kernel
theorem dL_law_187 : decode cL_law 187 = .ok (.aload_n 0, 1) := by decide +kernel
theorem dL_law_188 : decode cL_law 188 = .ok (.iload_n 3, 1) := by decide +kernel
theorem dL_law_189 : decode cL_law 189 = .ok (.iconst 1, 1) := by decide +kernel
theorem dL_law_190 : decode cL_law 190 = .ok (.iadd, 1) := by decide +kernel
theorem dL_law_191 : decode cL_law 191 = .ok (.iaload, 1) := by decide +kernel
theorem dL_law_192 : decode cL_law 192 = .ok (.aload_n 0, 1) := by decide +kernel
theorem dL_law_193 : decode cL_law 193 = .ok (.iload_n 3, 1) := by decide +kernel
theorem dL_law_194 : decode cL_law 194 = .ok (.iconst 2, 1) := by decide +kernel
theorem dL_law_195 : decode cL_law 195 = .ok (.iadd, 1) := by decide +kernel
theorem dL_law_196 : decode cL_law 196 = .ok (.iaload, 1) := by decide +kernel
theorem dL_law_197 : decode cL_law 197 = .ok (.aload_n 0, 1) := by decide +kernel
theorem dL_law_198 : decode cL_law 198 = .ok (.iload_n 3, 1) := by decide +kernel
theorem dL_law_199 : decode cL_law 199 = .ok (.iconst 3, 1) := by decide +kernel
theorem dL_law_200 : decode cL_law 200 = .ok (.iadd, 1) := by decide +kernel
theorem dL_law_201 : decode cL_law 201 = .ok (.iaload, 1) := by decide +kernel
theorem dL_law_202 : decode cL_law 202 = .ok (.invokevirtual 22, 3) := by decide +kernel
theorem dL_law_205 : decode cL_law 205 = .ok (.if_icmp .eq 645, 3) := by decide +kernel
theorem dL_law_208 : decode cL_law 208 = .ok (.iconst 0, 1) := by decide +kernel
theorem dL_law_209 : decode cL_law 209 = .ok (.ireturn, 1) := by decide +kernel
theorem dL_law_210 : decode cL_law 210 = .ok (.aload_n 1, 1) := by decide +kernel
theorem dL_law_211 : decode cL_law 211 = .ok (.aload_n 0, 1) := by decide +kernel
theorem dL_law_212 : decode cL_law 212 = .ok (.iload_n 3, 1) := by decide +kernel
theorem dL_law_213 : decode cL_law 213 = .ok (.iconst 1, 1) := by decide +kernel
theorem dL_law_214 : decode cL_law 214 = .ok (.iadd, 1) := by decide +kernel
theorem dL_law_215 : decode cL_law 215 = .ok (.iaload, 1) := by decide +kernel
theorem dL_law_216 : decode cL_law 216 = .ok (.aload_n 0, 1) := by decide +kernel
theorem dL_law_217 : decode cL_law 217 = .ok (.iload_n 3, 1) := by decide +kernel
theorem dL_law_218 : decode cL_law 218 = .ok (.iconst 2, 1) := by decide +kernel
theorem dL_law_219 : decode cL_law 219 = .ok (.iadd, 1) := by decide +kernel
theorem dL_law_220 : decode cL_law 220 = .ok (.iaload, 1) := by decide +kernel
theorem dL_law_221 : decode cL_law 221 = .ok (.invokevirtual 23, 3) := by decide +kernel
theorem dL_law_224 : decode cL_law 224 = .ok (.aload_n 2, 1) := by decide +kernel
theorem dL_law_225 : decode cL_law 225 = .ok (.aload_n 0, 1) := by decide +kernel
theorem dL_law_226 : decode cL_law 226 = .ok (.iload_n 3, 1) := by decide +kernel
theorem dL_law_227 : decode cL_law 227 = .ok (.iconst 1, 1) := by decide +kernel
theorem dL_law_228 : decode cL_law 228 = .ok (.iadd, 1) := by decide +kernel
theorem dL_law_229 : decode cL_law 229 = .ok (.iaload, 1) := by decide +kernel
theorem dL_law_230 : decode cL_law 230 = .ok (.aload_n 0, 1) := by decide +kernel
theorem dL_law_231 : decode cL_law 231 = .ok (.iload_n 3, 1) := by decide +kernel
theorem dL_law_232 : decode cL_law 232 = .ok (.iconst 2, 1) := by decide +kernel
theorem dL_law_233 : decode cL_law 233 = .ok (.iadd, 1) := by decide +kernel
theorem dL_law_234 : decode cL_law 234 = .ok (.iaload, 1) := by decide +kernel
theorem dL_law_235 : decode cL_law 235 = .ok (.invokevirtual 27, 3) := by decide +kernel
theorem dL_law_238 : decode cL_law 238 = .ok (.if_icmp .eq 612, 3) := by decide +kernel
theorem dL_law_241 : decode cL_law 241 = .ok (.iconst 0, 1) := by decide +kernel
theorem dL_law_242 : decode cL_law 242 = .ok (.ireturn, 1) := by decide +kernel
theorem dL_law_243 : decode cL_law 243 = .ok (.aload_n 1, 1) := by decide +kernel
theorem dL_law_244 : decode cL_law 244 = .ok (.aload_n 0, 1) := by decide +kernel
theorem dL_law_245 : decode cL_law 245 = .ok (.iload_n 3, 1) := by decide +kernel
theorem dL_law_246 : decode cL_law 246 = .ok (.iconst 1, 1) := by decide +kernel
theorem dL_law_247 : decode cL_law 247 = .ok (.iadd, 1) := by decide +kernel
theorem dL_law_248 : decode cL_law 248 = .ok (.iaload, 1) := by decide +kernel
theorem dL_law_249 : decode cL_law 249 = .ok (.aload_n 0, 1) := by decide +kernel
theorem dL_law_250 : decode cL_law 250 = .ok (.iload_n 3, 1) := by decide +kernel
theorem dL_law_251 : decode cL_law 251 = .ok (.iconst 2, 1) := by decide +kernel
theorem dL_law_252 : decode cL_law 252 = .ok (.iadd, 1) := by decide +kernel
theorem dL_law_253 : decode cL_law 253 = .ok (.iaload, 1) := by decide +kernel
theorem dL_law_254 : decode cL_law 254 = .ok (.aload_n 0, 1) := by decide +kernel
theorem dL_law_255 : decode cL_law 255 = .ok (.iload_n 3, 1) := by decide +kernel
theorem dL_law_256 : decode cL_law 256 = .ok (.iconst 3, 1) := by decide +kernel
theorem dL_law_257 : decode cL_law 257 = .ok (.iadd, 1) := by decide +kernel
theorem dL_law_258 : decode cL_law 258 = .ok (.iaload, 1) := by decide +kernel
theorem dL_law_259 : decode cL_law 259 = .ok (.invokevirtual 28, 3) := by decide +kernel
theorem dL_law_262 : decode cL_law 262 = .ok (.aload_n 2, 1) := by decide +kernel
theorem dL_law_263 : decode cL_law 263 = .ok (.aload_n 0, 1) := by decide +kernel
theorem dL_law_264 : decode cL_law 264 = .ok (.iload_n 3, 1) := by decide +kernel
theorem dL_law_265 : decode cL_law 265 = .ok (.iconst 1, 1) := by decide +kernel
theorem dL_law_266 : decode cL_law 266 = .ok (.iadd, 1) := by decide +kernel
theorem dL_law_267 : decode cL_law 267 = .ok (.iaload, 1) := by decide +kernel
theorem dL_law_268 : decode cL_law 268 = .ok (.aload_n 0, 1) := by decide +kernel
theorem dL_law_269 : decode cL_law 269 = .ok (.iload_n 3, 1) := by decide +kernel
theorem dL_law_270 : decode cL_law 270 = .ok (.iconst 2, 1) := by decide +kernel
theorem dL_law_271 : decode cL_law 271 = .ok (.iadd, 1) := by decide +kernel
theorem dL_law_272 : decode cL_law 272 = .ok (.iaload, 1) := by decide +kernel
theorem dL_law_273 : decode cL_law 273 = .ok (.aload_n 0, 1) := by decide +kernel
theorem dL_law_274 : decode cL_law 274 = .ok (.iload_n 3, 1) := by decide +kernel
theorem dL_law_275 : decode cL_law 275 = .ok (.iconst 3, 1) := by decide +kernel
theorem dL_law_276 : decode cL_law 276 = .ok (.iadd, 1) := by decide +kernel
theorem dL_law_277 : decode cL_law 277 = .ok (.iaload, 1) := by decide +kernel
theorem dL_law_278 : decode cL_law 278 = .ok (.invokevirtual 31, 3) := by decide +kernel
theorem dL_law_281 : decode cL_law 281 = .ok (.if_icmp .eq 569, 3) := by decide +kernel
theorem dL_law_284 : decode cL_law 284 = .ok (.iconst 0, 1) := by decide +kernel
theorem dL_law_285 : decode cL_law 285 = .ok (.ireturn, 1) := by decide +kernel
theorem dL_law_286 : decode cL_law 286 = .ok (.aload_n 1, 1) := by decide +kernel
theorem dL_law_287 : decode cL_law 287 = .ok (.aload_n 0, 1) := by decide +kernel
theorem dL_law_288 : decode cL_law 288 = .ok (.iload_n 3, 1) := by decide +kernel
theorem dL_law_289 : decode cL_law 289 = .ok (.iconst 1, 1) := by decide +kernel
theorem dL_law_290 : decode cL_law 290 = .ok (.iadd, 1) := by decide +kernel
theorem dL_law_291 : decode cL_law 291 = .ok (.iaload, 1) := by decide +kernel
theorem dL_law_292 : decode cL_law 292 = .ok (.invokevirtual 32, 3) := by decide +kernel
theorem dL_law_295 : decode cL_law 295 = .ok (.aload_n 2, 1) := by decide +kernel
theorem dL_law_296 : decode cL_law 296 = .ok (.aload_n 0, 1) := by decide +kernel
theorem dL_law_297 : decode cL_law 297 = .ok (.iload_n 3, 1) := by decide +kernel
theorem dL_law_298 : decode cL_law 298 = .ok (.iconst 1, 1) := by decide +kernel
theorem dL_law_299 : decode cL_law 299 = .ok (.iadd, 1) := by decide +kernel
theorem dL_law_300 : decode cL_law 300 = .ok (.iaload, 1) := by decide +kernel
theorem dL_law_301 : decode cL_law 301 = .ok (.invokevirtual 35, 3) := by decide +kernel
theorem dL_law_304 : decode cL_law 304 = .ok (.if_icmp .eq 546, 3) := by decide +kernel
theorem dL_law_307 : decode cL_law 307 = .ok (.iconst 0, 1) := by decide +kernel
theorem dL_law_308 : decode cL_law 308 = .ok (.ireturn, 1) := by decide +kernel
theorem dL_law_309 : decode cL_law 309 = .ok (.aload_n 1, 1) := by decide +kernel
theorem dL_law_310 : decode cL_law 310 = .ok (.aload_n 0, 1) := by decide +kernel
theorem dL_law_311 : decode cL_law 311 = .ok (.iload_n 3, 1) := by decide +kernel
theorem dL_law_312 : decode cL_law 312 = .ok (.iconst 1, 1) := by decide +kernel
theorem dL_law_313 : decode cL_law 313 = .ok (.iadd, 1) := by decide +kernel
theorem dL_law_314 : decode cL_law 314 = .ok (.iaload, 1) := by decide +kernel
theorem dL_law_315 : decode cL_law 315 = .ok (.aload_n 0, 1) := by decide +kernel
theorem dL_law_316 : decode cL_law 316 = .ok (.iload_n 3, 1) := by decide +kernel
theorem dL_law_317 : decode cL_law 317 = .ok (.iconst 2, 1) := by decide +kernel
theorem dL_law_318 : decode cL_law 318 = .ok (.iadd, 1) := by decide +kernel
theorem dL_law_319 : decode cL_law 319 = .ok (.iaload, 1) := by decide +kernel
theorem dL_law_320 : decode cL_law 320 = .ok (.invokevirtual 36, 3) := by decide +kernel
theorem dL_law_323 : decode cL_law 323 = .ok (.aload_n 2, 1) := by decide +kernel
theorem dL_law_324 : decode cL_law 324 = .ok (.aload_n 0, 1) := by decide +kernel
theorem dL_law_325 : decode cL_law 325 = .ok (.iload_n 3, 1) := by decide +kernel
theorem dL_law_326 : decode cL_law 326 = .ok (.iconst 1, 1) := by decide +kernel
theorem dL_law_327 : decode cL_law 327 = .ok (.iadd, 1) := by decide +kernel
theorem dL_law_328 : decode cL_law 328 = .ok (.iaload, 1) := by decide +kernel
theorem dL_law_329 : decode cL_law 329 = .ok (.aload_n 0, 1) := by decide +kernel
theorem dL_law_330 : decode cL_law 330 = .ok (.iload_n 3, 1) := by decide +kernel
theorem dL_law_331 : decode cL_law 331 = .ok (.iconst 2, 1) := by decide +kernel
theorem dL_law_332 : decode cL_law 332 = .ok (.iadd, 1) := by decide +kernel
theorem dL_law_333 : decode cL_law 333 = .ok (.iaload, 1) := by decide +kernel
theorem dL_law_334 : decode cL_law 334 = .ok (.invokevirtual 39, 3) := by decide +kernel
theorem dL_law_337 : decode cL_law 337 = .ok (.if_icmp .eq 513, 3) := by decide +kernel
theorem dL_law_340 : decode cL_law 340 = .ok (.iconst 0, 1) := by decide +kernel
theorem dL_law_341 : decode cL_law 341 = .ok (.ireturn, 1) := by decide +kernel
theorem dL_law_342 : decode cL_law 342 = .ok (.aload_n 1, 1) := by decide +kernel
theorem dL_law_343 : decode cL_law 343 = .ok (.aload_n 0, 1) := by decide +kernel
theorem dL_law_344 : decode cL_law 344 = .ok (.iload_n 3, 1) := by decide +kernel
theorem dL_law_345 : decode cL_law 345 = .ok (.iconst 1, 1) := by decide +kernel
theorem dL_law_346 : decode cL_law 346 = .ok (.iadd, 1) := by decide +kernel
theorem dL_law_347 : decode cL_law 347 = .ok (.iaload, 1) := by decide +kernel
theorem dL_law_348 : decode cL_law 348 = .ok (.invokevirtual 40, 3) := by decide +kernel
theorem dL_law_351 : decode cL_law 351 = .ok (.aload_n 2, 1) := by decide +kernel
theorem dL_law_352 : decode cL_law 352 = .ok (.aload_n 0, 1) := by decide +kernel
theorem dL_law_353 : decode cL_law 353 = .ok (.iload_n 3, 1) := by decide +kernel
theorem dL_law_354 : decode cL_law 354 = .ok (.iconst 1, 1) := by decide +kernel
theorem dL_law_355 : decode cL_law 355 = .ok (.iadd, 1) := by decide +kernel
theorem dL_law_356 : decode cL_law 356 = .ok (.iaload, 1) := by decide +kernel
theorem dL_law_357 : decode cL_law 357 = .ok (.invokevirtual 44, 3) := by decide +kernel
theorem dL_law_360 : decode cL_law 360 = .ok (.lcmp, 1) := by decide +kernel
theorem dL_law_361 : decode cL_law 361 = .ok (.ifCond .eq 489, 3) := by decide +kernel
theorem dL_law_364 : decode cL_law 364 = .ok (.iconst 0, 1) := by decide +kernel
theorem dL_law_365 : decode cL_law 365 = .ok (.ireturn, 1) := by decide +kernel
theorem dL_law_366 : decode cL_law 366 = .ok (.aload_n 1, 1) := by decide +kernel
theorem dL_law_367 : decode cL_law 367 = .ok (.aload_n 0, 1) := by decide +kernel
theorem dL_law_368 : decode cL_law 368 = .ok (.iload_n 3, 1) := by decide +kernel
theorem dL_law_369 : decode cL_law 369 = .ok (.iconst 1, 1) := by decide +kernel
theorem dL_law_370 : decode cL_law 370 = .ok (.iadd, 1) := by decide +kernel
theorem dL_law_371 : decode cL_law 371 = .ok (.iaload, 1) := by decide +kernel
theorem dL_law_372 : decode cL_law 372 = .ok (.i2l, 1) := by decide +kernel
theorem dL_law_373 : decode cL_law 373 = .ok (.bipush 32, 2) := by decide +kernel
theorem dL_law_375 : decode cL_law 375 = .ok (.lshl, 1) := by decide +kernel
theorem dL_law_376 : decode cL_law 376 = .ok (.aload_n 0, 1) := by decide +kernel
theorem dL_law_377 : decode cL_law 377 = .ok (.iload_n 3, 1) := by decide +kernel
theorem dL_law_378 : decode cL_law 378 = .ok (.iconst 2, 1) := by decide +kernel
theorem dL_law_379 : decode cL_law 379 = .ok (.iadd, 1) := by decide +kernel
theorem dL_law_380 : decode cL_law 380 = .ok (.iaload, 1) := by decide +kernel
theorem dL_law_381 : decode cL_law 381 = .ok (.i2l, 1) := by decide +kernel
theorem dL_law_382 : decode cL_law 382 = .ok (.ldc2_w 45, 3) := by decide +kernel
theorem dL_law_385 : decode cL_law 385 = .ok (.land, 1) := by decide +kernel
theorem dL_law_386 : decode cL_law 386 = .ok (.lor, 1) := by decide +kernel
theorem dL_law_387 : decode cL_law 387 = .ok (.invokevirtual 47, 3) := by decide +kernel
theorem dL_law_390 : decode cL_law 390 = .ok (.aload_n 2, 1) := by decide +kernel
theorem dL_law_391 : decode cL_law 391 = .ok (.aload_n 0, 1) := by decide +kernel
theorem dL_law_392 : decode cL_law 392 = .ok (.iload_n 3, 1) := by decide +kernel
theorem dL_law_393 : decode cL_law 393 = .ok (.iconst 1, 1) := by decide +kernel
theorem dL_law_394 : decode cL_law 394 = .ok (.iadd, 1) := by decide +kernel
theorem dL_law_395 : decode cL_law 395 = .ok (.iaload, 1) := by decide +kernel
theorem dL_law_396 : decode cL_law 396 = .ok (.i2l, 1) := by decide +kernel
theorem dL_law_397 : decode cL_law 397 = .ok (.bipush 32, 2) := by decide +kernel
theorem dL_law_399 : decode cL_law 399 = .ok (.lshl, 1) := by decide +kernel
theorem dL_law_400 : decode cL_law 400 = .ok (.aload_n 0, 1) := by decide +kernel
theorem dL_law_401 : decode cL_law 401 = .ok (.iload_n 3, 1) := by decide +kernel
theorem dL_law_402 : decode cL_law 402 = .ok (.iconst 2, 1) := by decide +kernel
theorem dL_law_403 : decode cL_law 403 = .ok (.iadd, 1) := by decide +kernel
theorem dL_law_404 : decode cL_law 404 = .ok (.iaload, 1) := by decide +kernel
theorem dL_law_405 : decode cL_law 405 = .ok (.i2l, 1) := by decide +kernel
theorem dL_law_406 : decode cL_law 406 = .ok (.ldc2_w 45, 3) := by decide +kernel
theorem dL_law_409 : decode cL_law 409 = .ok (.land, 1) := by decide +kernel
theorem dL_law_410 : decode cL_law 410 = .ok (.lor, 1) := by decide +kernel
theorem dL_law_411 : decode cL_law 411 = .ok (.invokevirtual 51, 3) := by decide +kernel
theorem dL_law_414 : decode cL_law 414 = .ok (.if_icmp .eq 436, 3) := by decide +kernel
theorem dL_law_417 : decode cL_law 417 = .ok (.iconst 0, 1) := by decide +kernel
theorem dL_law_418 : decode cL_law 418 = .ok (.ireturn, 1) := by decide +kernel
theorem dL_law_419 : decode cL_law 419 = .ok (.aload_n 1, 1) := by decide +kernel
theorem dL_law_420 : decode cL_law 420 = .ok (.invokevirtual 52, 3) := by decide +kernel
theorem dL_law_423 : decode cL_law 423 = .ok (.aload_n 2, 1) := by decide +kernel
theorem dL_law_424 : decode cL_law 424 = .ok (.invokevirtual 56, 3) := by decide +kernel
theorem dL_law_427 : decode cL_law 427 = .ok (.if_icmp .eq 423, 3) := by decide +kernel
theorem dL_law_430 : decode cL_law 430 = .ok (.iconst 0, 1) := by decide +kernel
theorem dL_law_431 : decode cL_law 431 = .ok (.ireturn, 1) := by decide +kernel
theorem dL_law_432 : decode cL_law 432 = .ok (.aload_n 1, 1) := by decide +kernel
theorem dL_law_433 : decode cL_law 433 = .ok (.invokevirtual 57, 3) := by decide +kernel
theorem dL_law_436 : decode cL_law 436 = .ok (.aload_n 2, 1) := by decide +kernel
theorem dL_law_437 : decode cL_law 437 = .ok (.invokevirtual 60, 3) := by decide +kernel
theorem dL_law_440 : decode cL_law 440 = .ok (.if_icmp .eq 410, 3) := by decide +kernel
theorem dL_law_443 : decode cL_law 443 = .ok (.iconst 0, 1) := by decide +kernel
theorem dL_law_444 : decode cL_law 444 = .ok (.ireturn, 1) := by decide +kernel
theorem dL_law_445 : decode cL_law 445 = .ok (.aload_n 1, 1) := by decide +kernel
theorem dL_law_446 : decode cL_law 446 = .ok (.invokevirtual 61, 3) := by decide +kernel
theorem dL_law_449 : decode cL_law 449 = .ok (.aload_n 2, 1) := by decide +kernel
theorem dL_law_450 : decode cL_law 450 = .ok (.invokevirtual 64, 3) := by decide +kernel
theorem dL_law_453 : decode cL_law 453 = .ok (.if_icmp .eq 397, 3) := by decide +kernel
theorem dL_law_456 : decode cL_law 456 = .ok (.iconst 0, 1) := by decide +kernel
theorem dL_law_457 : decode cL_law 457 = .ok (.ireturn, 1) := by decide +kernel
theorem dL_law_458 : decode cL_law 458 = .ok (.aload_n 1, 1) := by decide +kernel
theorem dL_law_459 : decode cL_law 459 = .ok (.aload_n 0, 1) := by decide +kernel
theorem dL_law_460 : decode cL_law 460 = .ok (.iload_n 3, 1) := by decide +kernel
theorem dL_law_461 : decode cL_law 461 = .ok (.iconst 1, 1) := by decide +kernel
theorem dL_law_462 : decode cL_law 462 = .ok (.iadd, 1) := by decide +kernel
theorem dL_law_463 : decode cL_law 463 = .ok (.iaload, 1) := by decide +kernel
theorem dL_law_464 : decode cL_law 464 = .ok (.invokevirtual 65, 3) := by decide +kernel
theorem dL_law_467 : decode cL_law 467 = .ok (.aload_n 2, 1) := by decide +kernel
theorem dL_law_468 : decode cL_law 468 = .ok (.aload_n 0, 1) := by decide +kernel
theorem dL_law_469 : decode cL_law 469 = .ok (.iload_n 3, 1) := by decide +kernel
theorem dL_law_470 : decode cL_law 470 = .ok (.iconst 1, 1) := by decide +kernel
theorem dL_law_471 : decode cL_law 471 = .ok (.iadd, 1) := by decide +kernel
theorem dL_law_472 : decode cL_law 472 = .ok (.iaload, 1) := by decide +kernel
theorem dL_law_473 : decode cL_law 473 = .ok (.invokevirtual 68, 3) := by decide +kernel
theorem dL_law_476 : decode cL_law 476 = .ok (.if_icmp .eq 374, 3) := by decide +kernel
theorem dL_law_479 : decode cL_law 479 = .ok (.iconst 0, 1) := by decide +kernel
theorem dL_law_480 : decode cL_law 480 = .ok (.ireturn, 1) := by decide +kernel
theorem dL_law_481 : decode cL_law 481 = .ok (.aload_n 1, 1) := by decide +kernel
theorem dL_law_482 : decode cL_law 482 = .ok (.aload_n 0, 1) := by decide +kernel
theorem dL_law_483 : decode cL_law 483 = .ok (.iload_n 3, 1) := by decide +kernel
theorem dL_law_484 : decode cL_law 484 = .ok (.iconst 1, 1) := by decide +kernel
theorem dL_law_485 : decode cL_law 485 = .ok (.iadd, 1) := by decide +kernel
theorem dL_law_486 : decode cL_law 486 = .ok (.iaload, 1) := by decide +kernel
theorem dL_law_487 : decode cL_law 487 = .ok (.invokevirtual 69, 3) := by decide +kernel
theorem dL_law_490 : decode cL_law 490 = .ok (.aload_n 2, 1) := by decide +kernel
theorem dL_law_491 : decode cL_law 491 = .ok (.aload_n 0, 1) := by decide +kernel
theorem dL_law_492 : decode cL_law 492 = .ok (.iload_n 3, 1) := by decide +kernel
theorem dL_law_493 : decode cL_law 493 = .ok (.iconst 1, 1) := by decide +kernel
theorem dL_law_494 : decode cL_law 494 = .ok (.iadd, 1) := by decide +kernel
theorem dL_law_495 : decode cL_law 495 = .ok (.iaload, 1) := by decide +kernel
theorem dL_law_496 : decode cL_law 496 = .ok (.invokevirtual 72, 3) := by decide +kernel
theorem dL_law_499 : decode cL_law 499 = .ok (.if_icmp .eq 351, 3) := by decide +kernel
theorem dL_law_502 : decode cL_law 502 = .ok (.iconst 0, 1) := by decide +kernel
theorem dL_law_503 : decode cL_law 503 = .ok (.ireturn, 1) := by decide +kernel
theorem dL_law_504 : decode cL_law 504 = .ok (.aload_n 1, 1) := by decide +kernel
theorem dL_law_505 : decode cL_law 505 = .ok (.aload_n 0, 1) := by decide +kernel
theorem dL_law_506 : decode cL_law 506 = .ok (.iload_n 3, 1) := by decide +kernel
theorem dL_law_507 : decode cL_law 507 = .ok (.iconst 1, 1) := by decide +kernel
theorem dL_law_508 : decode cL_law 508 = .ok (.iadd, 1) := by decide +kernel
theorem dL_law_509 : decode cL_law 509 = .ok (.iaload, 1) := by decide +kernel
theorem dL_law_510 : decode cL_law 510 = .ok (.aload_n 0, 1) := by decide +kernel
theorem dL_law_511 : decode cL_law 511 = .ok (.iload_n 3, 1) := by decide +kernel
theorem dL_law_512 : decode cL_law 512 = .ok (.iconst 2, 1) := by decide +kernel
theorem dL_law_513 : decode cL_law 513 = .ok (.iadd, 1) := by decide +kernel
theorem dL_law_514 : decode cL_law 514 = .ok (.iaload, 1) := by decide +kernel
theorem dL_law_515 : decode cL_law 515 = .ok (.invokevirtual 73, 3) := by decide +kernel
theorem dL_law_518 : decode cL_law 518 = .ok (.aload_n 2, 1) := by decide +kernel
theorem dL_law_519 : decode cL_law 519 = .ok (.aload_n 0, 1) := by decide +kernel
theorem dL_law_520 : decode cL_law 520 = .ok (.iload_n 3, 1) := by decide +kernel
theorem dL_law_521 : decode cL_law 521 = .ok (.iconst 1, 1) := by decide +kernel
theorem dL_law_522 : decode cL_law 522 = .ok (.iadd, 1) := by decide +kernel
theorem dL_law_523 : decode cL_law 523 = .ok (.iaload, 1) := by decide +kernel
theorem dL_law_524 : decode cL_law 524 = .ok (.aload_n 0, 1) := by decide +kernel
theorem dL_law_525 : decode cL_law 525 = .ok (.iload_n 3, 1) := by decide +kernel
theorem dL_law_526 : decode cL_law 526 = .ok (.iconst 2, 1) := by decide +kernel
theorem dL_law_527 : decode cL_law 527 = .ok (.iadd, 1) := by decide +kernel
theorem dL_law_528 : decode cL_law 528 = .ok (.iaload, 1) := by decide +kernel
theorem dL_law_529 : decode cL_law 529 = .ok (.invokevirtual 76, 3) := by decide +kernel
theorem dL_law_532 : decode cL_law 532 = .ok (.if_icmp .eq 318, 3) := by decide +kernel
theorem dL_law_535 : decode cL_law 535 = .ok (.iconst 0, 1) := by decide +kernel
theorem dL_law_536 : decode cL_law 536 = .ok (.ireturn, 1) := by decide +kernel
theorem dL_law_537 : decode cL_law 537 = .ok (.aload_n 1, 1) := by decide +kernel
theorem dL_law_538 : decode cL_law 538 = .ok (.aload_n 0, 1) := by decide +kernel
theorem dL_law_539 : decode cL_law 539 = .ok (.iload_n 3, 1) := by decide +kernel
theorem dL_law_540 : decode cL_law 540 = .ok (.iconst 1, 1) := by decide +kernel
theorem dL_law_541 : decode cL_law 541 = .ok (.iadd, 1) := by decide +kernel
theorem dL_law_542 : decode cL_law 542 = .ok (.iaload, 1) := by decide +kernel
theorem dL_law_543 : decode cL_law 543 = .ok (.aload_n 0, 1) := by decide +kernel
theorem dL_law_544 : decode cL_law 544 = .ok (.iload_n 3, 1) := by decide +kernel
theorem dL_law_545 : decode cL_law 545 = .ok (.iconst 2, 1) := by decide +kernel
theorem dL_law_546 : decode cL_law 546 = .ok (.iadd, 1) := by decide +kernel
theorem dL_law_547 : decode cL_law 547 = .ok (.iaload, 1) := by decide +kernel
theorem dL_law_548 : decode cL_law 548 = .ok (.invokevirtual 77, 3) := by decide +kernel
theorem dL_law_551 : decode cL_law 551 = .ok (.aload_n 2, 1) := by decide +kernel
theorem dL_law_552 : decode cL_law 552 = .ok (.aload_n 0, 1) := by decide +kernel
theorem dL_law_553 : decode cL_law 553 = .ok (.iload_n 3, 1) := by decide +kernel
theorem dL_law_554 : decode cL_law 554 = .ok (.iconst 1, 1) := by decide +kernel
theorem dL_law_555 : decode cL_law 555 = .ok (.iadd, 1) := by decide +kernel
theorem dL_law_556 : decode cL_law 556 = .ok (.iaload, 1) := by decide +kernel
theorem dL_law_557 : decode cL_law 557 = .ok (.aload_n 0, 1) := by decide +kernel
theorem dL_law_558 : decode cL_law 558 = .ok (.iload_n 3, 1) := by decide +kernel
theorem dL_law_559 : decode cL_law 559 = .ok (.iconst 2, 1) := by decide +kernel
theorem dL_law_560 : decode cL_law 560 = .ok (.iadd, 1) := by decide +kernel
theorem dL_law_561 : decode cL_law 561 = .ok (.iaload, 1) := by decide +kernel
theorem dL_law_562 : decode cL_law 562 = .ok (.invokevirtual 81, 3) := by decide +kernel
theorem dL_law_565 : decode cL_law 565 = .ok (.lcmp, 1) := by decide +kernel
theorem dL_law_566 : decode cL_law 566 = .ok (.ifCond .eq 284, 3) := by decide +kernel
theorem dL_law_569 : decode cL_law 569 = .ok (.iconst 0, 1) := by decide +kernel
theorem dL_law_570 : decode cL_law 570 = .ok (.ireturn, 1) := by decide +kernel
theorem dL_law_571 : decode cL_law 571 = .ok (.aload_n 1, 1) := by decide +kernel
theorem dL_law_572 : decode cL_law 572 = .ok (.invokevirtual 82, 3) := by decide +kernel
theorem dL_law_575 : decode cL_law 575 = .ok (.aload_n 2, 1) := by decide +kernel
theorem dL_law_576 : decode cL_law 576 = .ok (.invokevirtual 86, 3) := by decide +kernel
theorem dL_law_579 : decode cL_law 579 = .ok (.lcmp, 1) := by decide +kernel
theorem dL_law_580 : decode cL_law 580 = .ok (.ifCond .eq 270, 3) := by decide +kernel
theorem dL_law_583 : decode cL_law 583 = .ok (.iconst 0, 1) := by decide +kernel
theorem dL_law_584 : decode cL_law 584 = .ok (.ireturn, 1) := by decide +kernel
theorem dL_law_585 : decode cL_law 585 = .ok (.aload_n 1, 1) := by decide +kernel
theorem dL_law_586 : decode cL_law 586 = .ok (.aload_n 0, 1) := by decide +kernel
theorem dL_law_587 : decode cL_law 587 = .ok (.iload_n 3, 1) := by decide +kernel
theorem dL_law_588 : decode cL_law 588 = .ok (.iconst 1, 1) := by decide +kernel
theorem dL_law_589 : decode cL_law 589 = .ok (.iadd, 1) := by decide +kernel
theorem dL_law_590 : decode cL_law 590 = .ok (.iaload, 1) := by decide +kernel
theorem dL_law_591 : decode cL_law 591 = .ok (.invokevirtual 87, 3) := by decide +kernel
theorem dL_law_594 : decode cL_law 594 = .ok (.aload_n 2, 1) := by decide +kernel
theorem dL_law_595 : decode cL_law 595 = .ok (.aload_n 0, 1) := by decide +kernel
theorem dL_law_596 : decode cL_law 596 = .ok (.iload_n 3, 1) := by decide +kernel
theorem dL_law_597 : decode cL_law 597 = .ok (.iconst 1, 1) := by decide +kernel
theorem dL_law_598 : decode cL_law 598 = .ok (.iadd, 1) := by decide +kernel
theorem dL_law_599 : decode cL_law 599 = .ok (.iaload, 1) := by decide +kernel
theorem dL_law_600 : decode cL_law 600 = .ok (.invokevirtual 90, 3) := by decide +kernel
theorem dL_law_603 : decode cL_law 603 = .ok (.if_icmp .eq 247, 3) := by decide +kernel
theorem dL_law_606 : decode cL_law 606 = .ok (.iconst 0, 1) := by decide +kernel
theorem dL_law_607 : decode cL_law 607 = .ok (.ireturn, 1) := by decide +kernel
theorem dL_law_608 : decode cL_law 608 = .ok (.aload_n 1, 1) := by decide +kernel
theorem dL_law_609 : decode cL_law 609 = .ok (.aload_n 0, 1) := by decide +kernel
theorem dL_law_610 : decode cL_law 610 = .ok (.iload_n 3, 1) := by decide +kernel
theorem dL_law_611 : decode cL_law 611 = .ok (.iconst 1, 1) := by decide +kernel
theorem dL_law_612 : decode cL_law 612 = .ok (.iadd, 1) := by decide +kernel
theorem dL_law_613 : decode cL_law 613 = .ok (.iaload, 1) := by decide +kernel
theorem dL_law_614 : decode cL_law 614 = .ok (.aload_n 0, 1) := by decide +kernel
theorem dL_law_615 : decode cL_law 615 = .ok (.iload_n 3, 1) := by decide +kernel
theorem dL_law_616 : decode cL_law 616 = .ok (.iconst 2, 1) := by decide +kernel
theorem dL_law_617 : decode cL_law 617 = .ok (.iadd, 1) := by decide +kernel
theorem dL_law_618 : decode cL_law 618 = .ok (.iaload, 1) := by decide +kernel
theorem dL_law_619 : decode cL_law 619 = .ok (.invokevirtual 91, 3) := by decide +kernel
theorem dL_law_622 : decode cL_law 622 = .ok (.aload_n 2, 1) := by decide +kernel
theorem dL_law_623 : decode cL_law 623 = .ok (.aload_n 0, 1) := by decide +kernel
theorem dL_law_624 : decode cL_law 624 = .ok (.iload_n 3, 1) := by decide +kernel
theorem dL_law_625 : decode cL_law 625 = .ok (.iconst 1, 1) := by decide +kernel
theorem dL_law_626 : decode cL_law 626 = .ok (.iadd, 1) := by decide +kernel
theorem dL_law_627 : decode cL_law 627 = .ok (.iaload, 1) := by decide +kernel
theorem dL_law_628 : decode cL_law 628 = .ok (.aload_n 0, 1) := by decide +kernel
theorem dL_law_629 : decode cL_law 629 = .ok (.iload_n 3, 1) := by decide +kernel
theorem dL_law_630 : decode cL_law 630 = .ok (.iconst 2, 1) := by decide +kernel
theorem dL_law_631 : decode cL_law 631 = .ok (.iadd, 1) := by decide +kernel
theorem dL_law_632 : decode cL_law 632 = .ok (.iaload, 1) := by decide +kernel
theorem dL_law_633 : decode cL_law 633 = .ok (.invokevirtual 94, 3) := by decide +kernel
theorem dL_law_636 : decode cL_law 636 = .ok (.if_icmp .eq 214, 3) := by decide +kernel
theorem dL_law_639 : decode cL_law 639 = .ok (.iconst 0, 1) := by decide +kernel
theorem dL_law_640 : decode cL_law 640 = .ok (.ireturn, 1) := by decide +kernel
theorem dL_law_641 : decode cL_law 641 = .ok (.aload_n 1, 1) := by decide +kernel
theorem dL_law_642 : decode cL_law 642 = .ok (.aload_n 0, 1) := by decide +kernel
theorem dL_law_643 : decode cL_law 643 = .ok (.iload_n 3, 1) := by decide +kernel
theorem dL_law_644 : decode cL_law 644 = .ok (.iconst 1, 1) := by decide +kernel
theorem dL_law_645 : decode cL_law 645 = .ok (.iadd, 1) := by decide +kernel
theorem dL_law_646 : decode cL_law 646 = .ok (.iaload, 1) := by decide +kernel
theorem dL_law_647 : decode cL_law 647 = .ok (.aload_n 0, 1) := by decide +kernel
theorem dL_law_648 : decode cL_law 648 = .ok (.iload_n 3, 1) := by decide +kernel
theorem dL_law_649 : decode cL_law 649 = .ok (.iconst 2, 1) := by decide +kernel
theorem dL_law_650 : decode cL_law 650 = .ok (.iadd, 1) := by decide +kernel
theorem dL_law_651 : decode cL_law 651 = .ok (.iaload, 1) := by decide +kernel
theorem dL_law_652 : decode cL_law 652 = .ok (.invokevirtual 95, 3) := by decide +kernel
theorem dL_law_655 : decode cL_law 655 = .ok (.aload_n 2, 1) := by decide +kernel
theorem dL_law_656 : decode cL_law 656 = .ok (.aload_n 0, 1) := by decide +kernel
theorem dL_law_657 : decode cL_law 657 = .ok (.iload_n 3, 1) := by decide +kernel
theorem dL_law_658 : decode cL_law 658 = .ok (.iconst 1, 1) := by decide +kernel
theorem dL_law_659 : decode cL_law 659 = .ok (.iadd, 1) := by decide +kernel
theorem dL_law_660 : decode cL_law 660 = .ok (.iaload, 1) := by decide +kernel
theorem dL_law_661 : decode cL_law 661 = .ok (.aload_n 0, 1) := by decide +kernel
theorem dL_law_662 : decode cL_law 662 = .ok (.iload_n 3, 1) := by decide +kernel
theorem dL_law_663 : decode cL_law 663 = .ok (.iconst 2, 1) := by decide +kernel
theorem dL_law_664 : decode cL_law 664 = .ok (.iadd, 1) := by decide +kernel
theorem dL_law_665 : decode cL_law 665 = .ok (.iaload, 1) := by decide +kernel
theorem dL_law_666 : decode cL_law 666 = .ok (.invokevirtual 98, 3) := by decide +kernel
theorem dL_law_669 : decode cL_law 669 = .ok (.lcmp, 1) := by decide +kernel
theorem dL_law_670 : decode cL_law 670 = .ok (.ifCond .eq 180, 3) := by decide +kernel
theorem dL_law_673 : decode cL_law 673 = .ok (.iconst 0, 1) := by decide +kernel
theorem dL_law_674 : decode cL_law 674 = .ok (.ireturn, 1) := by decide +kernel
theorem dL_law_675 : decode cL_law 675 = .ok (.aload_n 1, 1) := by decide +kernel
theorem dL_law_676 : decode cL_law 676 = .ok (.aload_n 0, 1) := by decide +kernel
theorem dL_law_677 : decode cL_law 677 = .ok (.iload_n 3, 1) := by decide +kernel
theorem dL_law_678 : decode cL_law 678 = .ok (.iconst 1, 1) := by decide +kernel
theorem dL_law_679 : decode cL_law 679 = .ok (.iadd, 1) := by decide +kernel
theorem dL_law_680 : decode cL_law 680 = .ok (.iaload, 1) := by decide +kernel
theorem dL_law_681 : decode cL_law 681 = .ok (.aload_n 0, 1) := by decide +kernel
theorem dL_law_682 : decode cL_law 682 = .ok (.iload_n 3, 1) := by decide +kernel
theorem dL_law_683 : decode cL_law 683 = .ok (.iconst 2, 1) := by decide +kernel
theorem dL_law_684 : decode cL_law 684 = .ok (.iadd, 1) := by decide +kernel
theorem dL_law_685 : decode cL_law 685 = .ok (.iaload, 1) := by decide +kernel
theorem dL_law_686 : decode cL_law 686 = .ok (.invokevirtual 99, 3) := by decide +kernel
theorem dL_law_689 : decode cL_law 689 = .ok (.aload_n 2, 1) := by decide +kernel
theorem dL_law_690 : decode cL_law 690 = .ok (.aload_n 0, 1) := by decide +kernel
theorem dL_law_691 : decode cL_law 691 = .ok (.iload_n 3, 1) := by decide +kernel
theorem dL_law_692 : decode cL_law 692 = .ok (.iconst 1, 1) := by decide +kernel
theorem dL_law_693 : decode cL_law 693 = .ok (.iadd, 1) := by decide +kernel
theorem dL_law_694 : decode cL_law 694 = .ok (.iaload, 1) := by decide +kernel
theorem dL_law_695 : decode cL_law 695 = .ok (.aload_n 0, 1) := by decide +kernel
theorem dL_law_696 : decode cL_law 696 = .ok (.iload_n 3, 1) := by decide +kernel
theorem dL_law_697 : decode cL_law 697 = .ok (.iconst 2, 1) := by decide +kernel
theorem dL_law_698 : decode cL_law 698 = .ok (.iadd, 1) := by decide +kernel
theorem dL_law_699 : decode cL_law 699 = .ok (.iaload, 1) := by decide +kernel
theorem dL_law_700 : decode cL_law 700 = .ok (.invokevirtual 102, 3) := by decide +kernel
theorem dL_law_703 : decode cL_law 703 = .ok (.if_icmp .eq 147, 3) := by decide +kernel
theorem dL_law_706 : decode cL_law 706 = .ok (.iconst 0, 1) := by decide +kernel
theorem dL_law_707 : decode cL_law 707 = .ok (.ireturn, 1) := by decide +kernel
theorem dL_law_708 : decode cL_law 708 = .ok (.aload_n 1, 1) := by decide +kernel
theorem dL_law_709 : decode cL_law 709 = .ok (.aload_n 0, 1) := by decide +kernel
theorem dL_law_710 : decode cL_law 710 = .ok (.iload_n 3, 1) := by decide +kernel
theorem dL_law_711 : decode cL_law 711 = .ok (.iconst 1, 1) := by decide +kernel
theorem dL_law_712 : decode cL_law 712 = .ok (.iadd, 1) := by decide +kernel
theorem dL_law_713 : decode cL_law 713 = .ok (.iaload, 1) := by decide +kernel
theorem dL_law_714 : decode cL_law 714 = .ok (.aload_n 0, 1) := by decide +kernel
theorem dL_law_715 : decode cL_law 715 = .ok (.iload_n 3, 1) := by decide +kernel
theorem dL_law_716 : decode cL_law 716 = .ok (.iconst 2, 1) := by decide +kernel
theorem dL_law_717 : decode cL_law 717 = .ok (.iadd, 1) := by decide +kernel
theorem dL_law_718 : decode cL_law 718 = .ok (.iaload, 1) := by decide +kernel
theorem dL_law_719 : decode cL_law 719 = .ok (.invokevirtual 103, 3) := by decide +kernel
theorem dL_law_722 : decode cL_law 722 = .ok (.aload_n 2, 1) := by decide +kernel
theorem dL_law_723 : decode cL_law 723 = .ok (.aload_n 0, 1) := by decide +kernel
theorem dL_law_724 : decode cL_law 724 = .ok (.iload_n 3, 1) := by decide +kernel
theorem dL_law_725 : decode cL_law 725 = .ok (.iconst 1, 1) := by decide +kernel
theorem dL_law_726 : decode cL_law 726 = .ok (.iadd, 1) := by decide +kernel
theorem dL_law_727 : decode cL_law 727 = .ok (.iaload, 1) := by decide +kernel
theorem dL_law_728 : decode cL_law 728 = .ok (.aload_n 0, 1) := by decide +kernel
theorem dL_law_729 : decode cL_law 729 = .ok (.iload_n 3, 1) := by decide +kernel
theorem dL_law_730 : decode cL_law 730 = .ok (.iconst 2, 1) := by decide +kernel
theorem dL_law_731 : decode cL_law 731 = .ok (.iadd, 1) := by decide +kernel
theorem dL_law_732 : decode cL_law 732 = .ok (.iaload, 1) := by decide +kernel
theorem dL_law_733 : decode cL_law 733 = .ok (.invokevirtual 106, 3) := by decide +kernel
theorem dL_law_736 : decode cL_law 736 = .ok (.if_icmp .eq 114, 3) := by decide +kernel
theorem dL_law_739 : decode cL_law 739 = .ok (.iconst 0, 1) := by decide +kernel
theorem dL_law_740 : decode cL_law 740 = .ok (.ireturn, 1) := by decide +kernel
theorem dL_law_741 : decode cL_law 741 = .ok (.aload_n 1, 1) := by decide +kernel
theorem dL_law_742 : decode cL_law 742 = .ok (.aload_n 0, 1) := by decide +kernel
theorem dL_law_743 : decode cL_law 743 = .ok (.iload_n 3, 1) := by decide +kernel
theorem dL_law_744 : decode cL_law 744 = .ok (.iconst 1, 1) := by decide +kernel
theorem dL_law_745 : decode cL_law 745 = .ok (.iadd, 1) := by decide +kernel
theorem dL_law_746 : decode cL_law 746 = .ok (.iaload, 1) := by decide +kernel
theorem dL_law_747 : decode cL_law 747 = .ok (.aload_n 0, 1) := by decide +kernel
theorem dL_law_748 : decode cL_law 748 = .ok (.iload_n 3, 1) := by decide +kernel
theorem dL_law_749 : decode cL_law 749 = .ok (.iconst 2, 1) := by decide +kernel
theorem dL_law_750 : decode cL_law 750 = .ok (.iadd, 1) := by decide +kernel
theorem dL_law_751 : decode cL_law 751 = .ok (.iaload, 1) := by decide +kernel
theorem dL_law_752 : decode cL_law 752 = .ok (.aload_n 0, 1) := by decide +kernel
theorem dL_law_753 : decode cL_law 753 = .ok (.iload_n 3, 1) := by decide +kernel
theorem dL_law_754 : decode cL_law 754 = .ok (.iconst 3, 1) := by decide +kernel
theorem dL_law_755 : decode cL_law 755 = .ok (.iadd, 1) := by decide +kernel
theorem dL_law_756 : decode cL_law 756 = .ok (.iaload, 1) := by decide +kernel
theorem dL_law_757 : decode cL_law 757 = .ok (.aload_n 0, 1) := by decide +kernel
theorem dL_law_758 : decode cL_law 758 = .ok (.iload_n 3, 1) := by decide +kernel
theorem dL_law_759 : decode cL_law 759 = .ok (.iconst 4, 1) := by decide +kernel
theorem dL_law_760 : decode cL_law 760 = .ok (.iadd, 1) := by decide +kernel
theorem dL_law_761 : decode cL_law 761 = .ok (.iaload, 1) := by decide +kernel
theorem dL_law_762 : decode cL_law 762 = .ok (.aload_n 0, 1) := by decide +kernel
theorem dL_law_763 : decode cL_law 763 = .ok (.iload_n 3, 1) := by decide +kernel
theorem dL_law_764 : decode cL_law 764 = .ok (.iconst 5, 1) := by decide +kernel
theorem dL_law_765 : decode cL_law 765 = .ok (.iadd, 1) := by decide +kernel
theorem dL_law_766 : decode cL_law 766 = .ok (.iaload, 1) := by decide +kernel
theorem dL_law_767 : decode cL_law 767 = .ok (.invokevirtual 107, 3) := by decide +kernel
theorem dL_law_770 : decode cL_law 770 = .ok (.aload_n 2, 1) := by decide +kernel
theorem dL_law_771 : decode cL_law 771 = .ok (.aload_n 0, 1) := by decide +kernel
theorem dL_law_772 : decode cL_law 772 = .ok (.iload_n 3, 1) := by decide +kernel
theorem dL_law_773 : decode cL_law 773 = .ok (.iconst 1, 1) := by decide +kernel
theorem dL_law_774 : decode cL_law 774 = .ok (.iadd, 1) := by decide +kernel
theorem dL_law_775 : decode cL_law 775 = .ok (.iaload, 1) := by decide +kernel
theorem dL_law_776 : decode cL_law 776 = .ok (.aload_n 0, 1) := by decide +kernel
theorem dL_law_777 : decode cL_law 777 = .ok (.iload_n 3, 1) := by decide +kernel
theorem dL_law_778 : decode cL_law 778 = .ok (.iconst 2, 1) := by decide +kernel
theorem dL_law_779 : decode cL_law 779 = .ok (.iadd, 1) := by decide +kernel
theorem dL_law_780 : decode cL_law 780 = .ok (.iaload, 1) := by decide +kernel
theorem dL_law_781 : decode cL_law 781 = .ok (.aload_n 0, 1) := by decide +kernel
theorem dL_law_782 : decode cL_law 782 = .ok (.iload_n 3, 1) := by decide +kernel
theorem dL_law_783 : decode cL_law 783 = .ok (.iconst 3, 1) := by decide +kernel
theorem dL_law_784 : decode cL_law 784 = .ok (.iadd, 1) := by decide +kernel
theorem dL_law_785 : decode cL_law 785 = .ok (.iaload, 1) := by decide +kernel
theorem dL_law_786 : decode cL_law 786 = .ok (.aload_n 0, 1) := by decide +kernel
theorem dL_law_787 : decode cL_law 787 = .ok (.iload_n 3, 1) := by decide +kernel
theorem dL_law_788 : decode cL_law 788 = .ok (.iconst 4, 1) := by decide +kernel
theorem dL_law_789 : decode cL_law 789 = .ok (.iadd, 1) := by decide +kernel
theorem dL_law_790 : decode cL_law 790 = .ok (.iaload, 1) := by decide +kernel
theorem dL_law_791 : decode cL_law 791 = .ok (.aload_n 0, 1) := by decide +kernel
theorem dL_law_792 : decode cL_law 792 = .ok (.iload_n 3, 1) := by decide +kernel
theorem dL_law_793 : decode cL_law 793 = .ok (.iconst 5, 1) := by decide +kernel
theorem dL_law_794 : decode cL_law 794 = .ok (.iadd, 1) := by decide +kernel
theorem dL_law_795 : decode cL_law 795 = .ok (.iaload, 1) := by decide +kernel
theorem dL_law_796 : decode cL_law 796 = .ok (.invokevirtual 111, 3) := by decide +kernel
theorem dL_law_799 : decode cL_law 799 = .ok (.if_icmp .eq 51, 3) := by decide +kernel
theorem dL_law_802 : decode cL_law 802 = .ok (.iconst 0, 1) := by decide +kernel
theorem dL_law_803 : decode cL_law 803 = .ok (.ireturn, 1) := by decide +kernel
theorem dL_law_804 : decode cL_law 804 = .ok (.aload_n 1, 1) := by decide +kernel
theorem dL_law_805 : decode cL_law 805 = .ok (.aload_n 0, 1) := by decide +kernel
theorem dL_law_806 : decode cL_law 806 = .ok (.iload_n 3, 1) := by decide +kernel
theorem dL_law_807 : decode cL_law 807 = .ok (.iconst 1, 1) := by decide +kernel
theorem dL_law_808 : decode cL_law 808 = .ok (.iadd, 1) := by decide +kernel
theorem dL_law_809 : decode cL_law 809 = .ok (.iaload, 1) := by decide +kernel
theorem dL_law_810 : decode cL_law 810 = .ok (.invokevirtual 112, 3) := by decide +kernel
theorem dL_law_813 : decode cL_law 813 = .ok (.aload_n 2, 1) := by decide +kernel
theorem dL_law_814 : decode cL_law 814 = .ok (.aload_n 0, 1) := by decide +kernel
theorem dL_law_815 : decode cL_law 815 = .ok (.iload_n 3, 1) := by decide +kernel
theorem dL_law_816 : decode cL_law 816 = .ok (.iconst 1, 1) := by decide +kernel
theorem dL_law_817 : decode cL_law 817 = .ok (.iadd, 1) := by decide +kernel
theorem dL_law_818 : decode cL_law 818 = .ok (.iaload, 1) := by decide +kernel
theorem dL_law_819 : decode cL_law 819 = .ok (.invokevirtual 115, 3) := by decide +kernel
theorem dL_law_822 : decode cL_law 822 = .ok (.if_icmp .eq 28, 3) := by decide +kernel
theorem dL_law_825 : decode cL_law 825 = .ok (.iconst 0, 1) := by decide +kernel
theorem dL_law_826 : decode cL_law 826 = .ok (.ireturn, 1) := by decide +kernel
theorem dL_law_827 : decode cL_law 827 = .ok (.aload_n 1, 1) := by decide +kernel
theorem dL_law_828 : decode cL_law 828 = .ok (.aload_n 0, 1) := by decide +kernel
theorem dL_law_829 : decode cL_law 829 = .ok (.iload_n 3, 1) := by decide +kernel
theorem dL_law_830 : decode cL_law 830 = .ok (.iconst 1, 1) := by decide +kernel
theorem dL_law_831 : decode cL_law 831 = .ok (.iadd, 1) := by decide +kernel
theorem dL_law_832 : decode cL_law 832 = .ok (.iaload, 1) := by decide +kernel
theorem dL_law_833 : decode cL_law 833 = .ok (.invokevirtual 116, 3) := by decide +kernel
theorem dL_law_836 : decode cL_law 836 = .ok (.aload_n 2, 1) := by decide +kernel
theorem dL_law_837 : decode cL_law 837 = .ok (.aload_n 0, 1) := by decide +kernel
theorem dL_law_838 : decode cL_law 838 = .ok (.iload_n 3, 1) := by decide +kernel
theorem dL_law_839 : decode cL_law 839 = .ok (.iconst 1, 1) := by decide +kernel
theorem dL_law_840 : decode cL_law 840 = .ok (.iadd, 1) := by decide +kernel
theorem dL_law_841 : decode cL_law 841 = .ok (.iaload, 1) := by decide +kernel
theorem dL_law_842 : decode cL_law 842 = .ok (.invokevirtual 119, 3) := by decide +kernel
theorem dL_law_845 : decode cL_law 845 = .ok (.if_icmp .eq 5, 3) := by decide +kernel
theorem dL_law_848 : decode cL_law 848 = .ok (.iconst 0, 1) := by decide +kernel
theorem dL_law_849 : decode cL_law 849 = .ok (.ireturn, 1) := by decide +kernel
theorem dL_law_850 : decode cL_law 850 = .ok (.iinc 3 6, 3) := by decide +kernel
theorem dL_law_853 : decode cL_law 853 = .ok (.goto (-835), 3) := by decide +kernel
theorem dL_law_856 : decode cL_law 856 = .ok (.iconst 1, 1) := by decide +kernel
theorem dL_law_857 : decode cL_law 857 = .ok (.ireturn, 1) := by decide +kernel
