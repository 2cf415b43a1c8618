theorem dX10_workThrough_48 : decode cX10_workThrough 48 = .ok (.iconst 0, 1) := by decide +kernel
theorem dX10_workThrough_49 : decode cX10_workThrough 49 = .ok (.iload_n 1, 1) := by decide +kernel
theorem dX10_workThrough_50 : decode cX10_workThrough 50 = .ok (.invokevirtual 208, 3) := by decide +kernel
theorem dX10_workThrough_53 : decode cX10_workThrough 53 = .ok (.aload_n 0, 1) := by decide +kernel
theorem dX10_workThrough_54 : decode cX10_workThrough 54 = .ok (.getfield 72, 3) := by decide +kernel
theorem dX10_workThrough_57 : decode cX10_workThrough 57 = .ok (.iconst 0, 1) := by decide +kernel
theorem dX10_workThrough_58 : decode cX10_workThrough 58 = .ok (.iaload, 1) := by decide +kernel
theorem dX10_workThrough_59 : decode cX10_workThrough 59 = .ok (.aload_n 0, 1) := by decide +kernel
theorem dX10_workThrough_60 : decode cX10_workThrough 60 = .ok (.getfield 72, 3) := by decide +kernel
theorem dX10_workThrough_63 : decode cX10_workThrough 63 = .ok (.iconst 1, 1) := by decide +kernel
theorem dX10_workThrough_64 : decode cX10_workThrough 64 = .ok (.iaload, 1) := by decide +kernel
theorem dX10_workThrough_65 : decode cX10_workThrough 65 = .ok (.iadd, 1) := by decide +kernel
theorem dX10_workThrough_66 : decode cX10_workThrough 66 = .ok (.aload_n 0, 1) := by decide +kernel
theorem dX10_workThrough_67 : decode cX10_workThrough 67 = .ok (.getfield 72, 3) := by decide +kernel
theorem dX10_workThrough_70 : decode cX10_workThrough 70 = .ok (.iconst 2, 1) := by decide +kernel
theorem dX10_workThrough_71 : decode cX10_workThrough 71 = .ok (.iaload, 1) := by decide +kernel
theorem dX10_workThrough_72 : decode cX10_workThrough 72 = .ok (.iadd, 1) := by decide +kernel
theorem dX10_workThrough_73 : decode cX10_workThrough 73 = .ok (.aload_n 0, 1) := by decide +kernel
theorem dX10_workThrough_74 : decode cX10_workThrough 74 = .ok (.getfield 72, 3) := by decide +kernel
theorem dX10_workThrough_77 : decode cX10_workThrough 77 = .ok (.iconst 3, 1) := by decide +kernel
theorem dX10_workThrough_78 : decode cX10_workThrough 78 = .ok (.iaload, 1) := by decide +kernel
theorem dX10_workThrough_79 : decode cX10_workThrough 79 = .ok (.iadd, 1) := by decide +kernel
theorem dX10_workThrough_80 : decode cX10_workThrough 80 = .ok (.ifCond .le 28, 3) := by decide +kernel
theorem dX10_workThrough_83 : decode cX10_workThrough 83 = .ok (.iload_n 2, 1) := by decide +kernel
theorem dX10_workThrough_84 : decode cX10_workThrough 84 = .ok (.ldc 211, 2) := by decide +kernel
theorem dX10_workThrough_86 : decode cX10_workThrough 86 = .ok (.imul, 1) := by decide +kernel
theorem dX10_workThrough_87 : decode cX10_workThrough 87 = .ok (.sipush 12345, 3) := by decide +kernel
theorem dX10_workThrough_90 : decode cX10_workThrough 90 = .ok (.iadd, 1) := by decide +kernel
theorem dX10_workThrough_91 : decode cX10_workThrough 91 = .ok (.istore_n 2, 1) := by decide +kernel
theorem dX10_workThrough_92 : decode cX10_workThrough 92 = .ok (.aload_n 0, 1) := by decide +kernel
theorem dX10_workThrough_93 : decode cX10_workThrough 93 = .ok (.iload_n 2, 1) := by decide +kernel
theorem dX10_workThrough_94 : decode cX10_workThrough 94 = .ok (.bipush 16, 2) := by decide +kernel
theorem dX10_workThrough_96 : decode cX10_workThrough 96 = .ok (.iushr, 1) := by decide +kernel
theorem dX10_workThrough_97 : decode cX10_workThrough 97 = .ok (.aload_n 0, 1) := by decide +kernel
theorem dX10_workThrough_98 : decode cX10_workThrough 98 = .ok (.getfield 60, 3) := by decide +kernel
theorem dX10_workThrough_101 : decode cX10_workThrough 101 = .ok (.irem, 1) := by decide +kernel
theorem dX10_workThrough_102 : decode cX10_workThrough 102 = .ok (.invokevirtual 212, 3) := by decide +kernel
theorem dX10_workThrough_105 : decode cX10_workThrough 105 = .ok (.goto (-52), 3) := by decide +kernel
theorem dX10_workThrough_108 : decode cX10_workThrough 108 = .ok (.return_, 1) := by decide +kernel
theorem dX10_out_0 : decode cX10_out 0 = .ok (.aload_n 0, 1) := by decide +kernel
theorem dX10_out_1 : decode cX10_out 1 = .ok (.getfield 215, 3) := by decide +kernel
theorem dX10_out_4 : decode cX10_out 4 = .ok (.sipush 600, 3) := by decide +kernel
theorem dX10_out_7 : decode cX10_out 7 = .ok (.if_icmp .ne 9, 3) := by decide +kernel
theorem dX10_out_10 : decode cX10_out 10 = .ok (.aload_n 0, 1) := by decide +kernel
theorem dX10_out_11 : decode cX10_out 11 = .ok (.iconst 1, 1) := by decide +kernel
theorem dX10_out_12 : decode cX10_out 12 = .ok (.putfield 143, 3) := by decide +kernel
theorem dX10_out_15 : decode cX10_out 15 = .ok (.return_, 1) := by decide +kernel
theorem dX10_out_16 : decode cX10_out 16 = .ok (.aload_n 0, 1) := by decide +kernel
theorem dX10_out_17 : decode cX10_out 17 = .ok (.getfield 53, 3) := by decide +kernel
theorem dX10_out_20 : decode cX10_out 20 = .ok (.aload_n 0, 1) := by decide +kernel
theorem dX10_out_21 : decode cX10_out 21 = .ok (.getfield 215, 3) := by decide +kernel
theorem dX10_out_24 : decode cX10_out 24 = .ok (.iload_n 1, 1) := by decide +kernel
theorem dX10_out_25 : decode cX10_out 25 = .ok (.iastore, 1) := by decide +kernel
theorem dX10_out_26 : decode cX10_out 26 = .ok (.aload_n 0, 1) := by decide +kernel
theorem dX10_out_27 : decode cX10_out 27 = .ok (.dup, 1) := by decide +kernel
theorem dX10_out_28 : decode cX10_out 28 = .ok (.getfield 215, 3) := by decide +kernel
theorem dX10_out_31 : decode cX10_out 31 = .ok (.iconst 1, 1) := by decide +kernel
theorem dX10_out_32 : decode cX10_out 32 = .ok (.iadd, 1) := by decide +kernel
theorem dX10_out_33 : decode cX10_out 33 = .ok (.putfield 215, 3) := by decide +kernel
theorem dX10_out_36 : decode cX10_out 36 = .ok (.return_, 1) := by decide +kernel
theorem dX10_stageInParts_0 : decode cX10_stageInParts 0 = .ok (.aload_n 0, 1) := by decide +kernel
theorem dX10_stageInParts_1 : decode cX10_stageInParts 1 = .ok (.iconst 0, 1) := by decide +kernel
theorem dX10_stageInParts_2 : decode cX10_stageInParts 2 = .ok (.putfield 215, 3) := by decide +kernel
theorem dX10_stageInParts_5 : decode cX10_stageInParts 5 = .ok (.iconst 0, 1) := by decide +kernel
theorem dX10_stageInParts_6 : decode cX10_stageInParts 6 = .ok (.istore_n 2, 1) := by decide +kernel
theorem dX10_stageInParts_7 : decode cX10_stageInParts 7 = .ok (.iload_n 2, 1) := by decide +kernel
theorem dX10_stageInParts_8 : decode cX10_stageInParts 8 = .ok (.aload_n 0, 1) := by decide +kernel
theorem dX10_stageInParts_9 : decode cX10_stageInParts 9 = .ok (.getfield 218, 3) := by decide +kernel
theorem dX10_stageInParts_12 : decode cX10_stageInParts 12 = .ok (.if_icmp .ge 122, 3) := by decide +kernel
theorem dX10_stageInParts_15 : decode cX10_stageInParts 15 = .ok (.aload_n 0, 1) := by decide +kernel
theorem dX10_stageInParts_16 : decode cX10_stageInParts 16 = .ok (.getfield 143, 3) := by decide +kernel
theorem dX10_stageInParts_19 : decode cX10_stageInParts 19 = .ok (.ifCond .ne 115, 3) := by decide +kernel
theorem dX10_stageInParts_22 : decode cX10_stageInParts 22 = .ok (.aload_n 0, 1) := by decide +kernel
theorem dX10_stageInParts_23 : decode cX10_stageInParts 23 = .ok (.getfield 50, 3) := by decide +kernel
theorem dX10_stageInParts_26 : decode cX10_stageInParts 26 = .ok (.iload_n 2, 1) := by decide +kernel
theorem dX10_stageInParts_27 : decode cX10_stageInParts 27 = .ok (.iaload, 1) := by decide +kernel
theorem dX10_stageInParts_28 : decode cX10_stageInParts 28 = .ok (.istore_n 3, 1) := by decide +kernel
theorem dX10_stageInParts_29 : decode cX10_stageInParts 29 = .ok (.aload_n 0, 1) := by decide +kernel
theorem dX10_stageInParts_30 : decode cX10_stageInParts 30 = .ok (.getfield 22, 3) := by decide +kernel
theorem dX10_stageInParts_33 : decode cX10_stageInParts 33 = .ok (.iload_n 1, 1) := by decide +kernel
theorem dX10_stageInParts_34 : decode cX10_stageInParts 34 = .ok (.dup2, 1) := by decide +kernel
theorem dX10_stageInParts_35 : decode cX10_stageInParts 35 = .ok (.iaload, 1) := by decide +kernel
theorem dX10_stageInParts_36 : decode cX10_stageInParts 36 = .ok (.iconst 1, 1) := by decide +kernel
theorem dX10_stageInParts_37 : decode cX10_stageInParts 37 = .ok (.iadd, 1) := by decide +kernel
theorem dX10_stageInParts_38 : decode cX10_stageInParts 38 = .ok (.iastore, 1) := by decide +kernel
theorem dX10_stageInParts_39 : decode cX10_stageInParts 39 = .ok (.aload_n 0, 1) := by decide +kernel
theorem dX10_stageInParts_40 : decode cX10_stageInParts 40 = .ok (.getfield 13, 3) := by decide +kernel
theorem dX10_stageInParts_43 : decode cX10_stageInParts 43 = .ok (.iload_n 1, 1) := by decide +kernel
theorem dX10_stageInParts_44 : decode cX10_stageInParts 44 = .ok (.iaload, 1) := by decide +kernel
theorem dX10_stageInParts_45 : decode cX10_stageInParts 45 = .ok (.iconst 4, 1) := by decide +kernel
theorem dX10_stageInParts_46 : decode cX10_stageInParts 46 = .ok (.if_icmp .ne 12, 3) := by decide +kernel
theorem dX10_stageInParts_49 : decode cX10_stageInParts 49 = .ok (.aload_n 0, 1) := by decide +kernel
theorem dX10_stageInParts_50 : decode cX10_stageInParts 50 = .ok (.iload_n 1, 1) := by decide +kernel
theorem dX10_stageInParts_51 : decode cX10_stageInParts 51 = .ok (.iload_n 3, 1) := by decide +kernel
theorem dX10_stageInParts_52 : decode cX10_stageInParts 52 = .ok (.invokevirtual 166, 3) := by decide +kernel
theorem dX10_stageInParts_55 : decode cX10_stageInParts 55 = .ok (.goto 73, 3) := by decide +kernel
theorem dX10_stageInParts_58 : decode cX10_stageInParts 58 = .ok (.aload_n 0, 1) := by decide +kernel
theorem dX10_stageInParts_59 : decode cX10_stageInParts 59 = .ok (.getfield 13, 3) := by decide +kernel
theorem dX10_stageInParts_62 : decode cX10_stageInParts 62 = .ok (.iload_n 1, 1) := by decide +kernel
theorem dX10_stageInParts_63 : decode cX10_stageInParts 63 = .ok (.iaload, 1) := by decide +kernel
theorem dX10_stageInParts_64 : decode cX10_stageInParts 64 = .ok (.ifCond .ne 26, 3) := by decide +kernel
theorem dX10_stageInParts_67 : decode cX10_stageInParts 67 = .ok (.aload_n 0, 1) := by decide +kernel
theorem dX10_stageInParts_68 : decode cX10_stageInParts 68 = .ok (.iload_n 3, 1) := by decide +kernel
theorem dX10_stageInParts_69 : decode cX10_stageInParts 69 = .ok (.aload_n 0, 1) := by decide +kernel
theorem dX10_stageInParts_70 : decode cX10_stageInParts 70 = .ok (.getfield 16, 3) := by decide +kernel
theorem dX10_stageInParts_73 : decode cX10_stageInParts 73 = .ok (.iload_n 1, 1) := by decide +kernel
theorem dX10_stageInParts_74 : decode cX10_stageInParts 74 = .ok (.iaload, 1) := by decide +kernel
theorem dX10_stageInParts_75 : decode cX10_stageInParts 75 = .ok (.aload_n 0, 1) := by decide +kernel
theorem dX10_stageInParts_76 : decode cX10_stageInParts 76 = .ok (.getfield 19, 3) := by decide +kernel
theorem dX10_stageInParts_79 : decode cX10_stageInParts 79 = .ok (.iload_n 1, 1) := by decide +kernel
theorem dX10_stageInParts_80 : decode cX10_stageInParts 80 = .ok (.iaload, 1) := by decide +kernel
theorem dX10_stageInParts_81 : decode cX10_stageInParts 81 = .ok (.invokestatic 172, 3) := by decide +kernel
theorem dX10_stageInParts_84 : decode cX10_stageInParts 84 = .ok (.invokevirtual 221, 3) := by decide +kernel
theorem dX10_stageInParts_87 : decode cX10_stageInParts 87 = .ok (.goto 41, 3) := by decide +kernel
theorem dX10_stageInParts_90 : decode cX10_stageInParts 90 = .ok (.aload_n 0, 1) := by decide +kernel
theorem dX10_stageInParts_91 : decode cX10_stageInParts 91 = .ok (.getfield 13, 3) := by decide +kernel
theorem dX10_stageInParts_94 : decode cX10_stageInParts 94 = .ok (.iload_n 1, 1) := by decide +kernel
theorem dX10_stageInParts_95 : decode cX10_stageInParts 95 = .ok (.iaload, 1) := by decide +kernel
theorem dX10_stageInParts_96 : decode cX10_stageInParts 96 = .ok (.iconst 2, 1) := by decide +kernel
theorem dX10_stageInParts_97 : decode cX10_stageInParts 97 = .ok (.if_icmp .ne 17, 3) := by decide +kernel
theorem dX10_stageInParts_100 : decode cX10_stageInParts 100 = .ok (.aload_n 0, 1) := by decide +kernel
theorem dX10_stageInParts_101 : decode cX10_stageInParts 101 = .ok (.iload_n 3, 1) := by decide +kernel
theorem dX10_stageInParts_102 : decode cX10_stageInParts 102 = .ok (.aload_n 0, 1) := by decide +kernel
theorem dX10_stageInParts_103 : decode cX10_stageInParts 103 = .ok (.getfield 19, 3) := by decide +kernel
theorem dX10_stageInParts_106 : decode cX10_stageInParts 106 = .ok (.iload_n 1, 1) := by decide +kernel
theorem dX10_stageInParts_107 : decode cX10_stageInParts 107 = .ok (.iaload, 1) := by decide +kernel
theorem dX10_stageInParts_108 : decode cX10_stageInParts 108 = .ok (.invokevirtual 224, 3) := by decide +kernel
theorem dX10_stageInParts_111 : decode cX10_stageInParts 111 = .ok (.goto 17, 3) := by decide +kernel
theorem dX10_stageInParts_114 : decode cX10_stageInParts 114 = .ok (.aload_n 0, 1) := by decide +kernel
theorem dX10_stageInParts_115 : decode cX10_stageInParts 115 = .ok (.iload_n 1, 1) := by decide +kernel
theorem dX10_stageInParts_116 : decode cX10_stageInParts 116 = .ok (.iload_n 3, 1) := by decide +kernel
theorem dX10_stageInParts_117 : decode cX10_stageInParts 117 = .ok (.invokevirtual 169, 3) := by decide +kernel
theorem dX10_stageInParts_120 : decode cX10_stageInParts 120 = .ok (.ifCond .eq 8, 3) := by decide +kernel
theorem dX10_stageInParts_123 : decode cX10_stageInParts 123 = .ok (.aload_n 0, 1) := by decide +kernel
theorem dX10_stageInParts_124 : decode cX10_stageInParts 124 = .ok (.iload_n 3, 1) := by decide +kernel
theorem dX10_stageInParts_125 : decode cX10_stageInParts 125 = .ok (.invokevirtual 221, 3) := by decide +kernel
theorem dX10_stageInParts_128 : decode cX10_stageInParts 128 = .ok (.iinc 2 1, 3) := by decide +kernel
theorem dX10_stageInParts_131 : decode cX10_stageInParts 131 = .ok (.goto (-124), 3) := by decide +kernel
theorem dX10_stageInParts_134 : decode cX10_stageInParts 134 = .ok (.iconst 0, 1) := by decide +kernel
theorem dX10_stageInParts_135 : decode cX10_stageInParts 135 = .ok (.istore_n 2, 1) := by decide +kernel
theorem dX10_stageInParts_136 : decode cX10_stageInParts 136 = .ok (.iload_n 2, 1) := by decide +kernel
theorem dX10_stageInParts_137 : decode cX10_stageInParts 137 = .ok (.aload_n 0, 1) := by decide +kernel
theorem dX10_stageInParts_138 : decode cX10_stageInParts 138 = .ok (.getfield 25, 3) := by decide +kernel
theorem dX10_stageInParts_141 : decode cX10_stageInParts 141 = .ok (.iload_n 1, 1) := by decide +kernel
theorem dX10_stageInParts_142 : decode cX10_stageInParts 142 = .ok (.iaload, 1) := by decide +kernel
theorem dX10_stageInParts_143 : decode cX10_stageInParts 143 = .ok (.if_icmp .ge 35, 3) := by decide +kernel
theorem dX10_stageInParts_146 : decode cX10_stageInParts 146 = .ok (.aload_n 0, 1) := by decide +kernel
theorem dX10_stageInParts_147 : decode cX10_stageInParts 147 = .ok (.getfield 13, 3) := by decide +kernel
theorem dX10_stageInParts_150 : decode cX10_stageInParts 150 = .ok (.iload_n 1, 1) := by decide +kernel
theorem dX10_stageInParts_151 : decode cX10_stageInParts 151 = .ok (.iaload, 1) := by decide +kernel
theorem dX10_stageInParts_152 : decode cX10_stageInParts 152 = .ok (.iconst 4, 1) := by decide +kernel
theorem dX10_stageInParts_153 : decode cX10_stageInParts 153 = .ok (.if_icmp .ne 25, 3) := by decide +kernel
theorem dX10_stageInParts_156 : decode cX10_stageInParts 156 = .ok (.aload_n 0, 1) := by decide +kernel
theorem dX10_stageInParts_157 : decode cX10_stageInParts 157 = .ok (.aload_n 0, 1) := by decide +kernel
theorem dX10_stageInParts_158 : decode cX10_stageInParts 158 = .ok (.getfield 32, 3) := by decide +kernel
theorem dX10_stageInParts_161 : decode cX10_stageInParts 161 = .ok (.sipush 600, 3) := by decide +kernel
theorem dX10_stageInParts_164 : decode cX10_stageInParts 164 = .ok (.iload_n 1, 1) := by decide +kernel
theorem dX10_stageInParts_165 : decode cX10_stageInParts 165 = .ok (.imul, 1) := by decide +kernel
theorem dX10_stageInParts_166 : decode cX10_stageInParts 166 = .ok (.iload_n 2, 1) := by decide +kernel
theorem dX10_stageInParts_167 : decode cX10_stageInParts 167 = .ok (.iadd, 1) := by decide +kernel
theorem dX10_stageInParts_168 : decode cX10_stageInParts 168 = .ok (.iaload, 1) := by decide +kernel
theorem dX10_stageInParts_169 : decode cX10_stageInParts 169 = .ok (.invokevirtual 221, 3) := by decide +kernel
theorem dX10_stageInParts_172 : decode cX10_stageInParts 172 = .ok (.iinc 2 1, 3) := by decide +kernel
theorem dX10_stageInParts_175 : decode cX10_stageInParts 175 = .ok (.goto (-39), 3) := by decide +kernel
theorem dX10_stageInParts_178 : decode cX10_stageInParts 178 = .ok (.aload_n 0, 1) := by decide +kernel
theorem dX10_stageInParts_179 : decode cX10_stageInParts 179 = .ok (.aload_n 0, 1) := by decide +kernel
theorem dX10_stageInParts_180 : decode cX10_stageInParts 180 = .ok (.getfield 215, 3) := by decide +kernel
theorem dX10_stageInParts_183 : decode cX10_stageInParts 183 = .ok (.putfield 218, 3) := by decide +kernel
theorem dX10_stageInParts_186 : decode cX10_stageInParts 186 = .ok (.iconst 0, 1) := by decide +kernel
theorem dX10_stageInParts_187 : decode cX10_stageInParts 187 = .ok (.istore_n 2, 1) := by decide +kernel
theorem dX10_stageInParts_188 : decode cX10_stageInParts 188 = .ok (.iload_n 2, 1) := by decide +kernel
theorem dX10_stageInParts_189 : decode cX10_stageInParts 189 = .ok (.aload_n 0, 1) := by decide +kernel
theorem dX10_stageInParts_190 : decode cX10_stageInParts 190 = .ok (.getfield 218, 3) := by decide +kernel
theorem dX10_stageInParts_193 : decode cX10_stageInParts 193 = .ok (.if_icmp .ge 21, 3) := by decide +kernel
theorem dX10_stageInParts_196 : decode cX10_stageInParts 196 = .ok (.aload_n 0, 1) := by decide +kernel
theorem dX10_stageInParts_197 : decode cX10_stageInParts 197 = .ok (.getfield 50, 3) := by decide +kernel
theorem dX10_stageInParts_200 : decode cX10_stageInParts 200 = .ok (.iload_n 2, 1) := by decide +kernel
theorem dX10_stageInParts_201 : decode cX10_stageInParts 201 = .ok (.aload_n 0, 1) := by decide +kernel
theorem dX10_stageInParts_202 : decode cX10_stageInParts 202 = .ok (.getfield 53, 3) := by decide +kernel
theorem dX10_stageInParts_205 : decode cX10_stageInParts 205 = .ok (.iload_n 2, 1) := by decide +kernel
theorem dX10_stageInParts_206 : decode cX10_stageInParts 206 = .ok (.iaload, 1) := by decide +kernel
theorem dX10_stageInParts_207 : decode cX10_stageInParts 207 = .ok (.iastore, 1) := by decide +kernel
theorem dX10_stageInParts_208 : decode cX10_stageInParts 208 = .ok (.iinc 2 1, 3) := by decide +kernel
theorem dX10_stageInParts_211 : decode cX10_stageInParts 211 = .ok (.goto (-23), 3) := by decide +kernel
theorem dX10_stageInParts_214 : decode cX10_stageInParts 214 = .ok (.return_, 1) := by decide +kernel
theorem dX10_flatInParts_0 : decode cX10_flatInParts 0 = .ok (.iconst 0, 1) := by decide +kernel
theorem dX10_flatInParts_1 : decode cX10_flatInParts 1 = .ok (.istore_n 3, 1) := by decide +kernel
theorem dX10_flatInParts_2 : decode cX10_flatInParts 2 = .ok (.iload_n 3, 1) := by decide +kernel
theorem dX10_flatInParts_3 : decode cX10_flatInParts 3 = .ok (.iload_n 2, 1) := by decide +kernel
theorem dX10_flatInParts_4 : decode cX10_flatInParts 4 = .ok (.if_icmp .ge 16, 3) := by decide +kernel
theorem dX10_flatInParts_7 : decode cX10_flatInParts 7 = .ok (.aload_n 0, 1) := by decide +kernel
theorem dX10_flatInParts_8 : decode cX10_flatInParts 8 = .ok (.iload_n 1, 1) := by decide +kernel
theorem dX10_flatInParts_9 : decode cX10_flatInParts 9 = .ok (.iload_n 3, 1) := by decide +kernel
theorem dX10_flatInParts_10 : decode cX10_flatInParts 10 = .ok (.iadd, 1) := by decide +kernel
theorem dX10_flatInParts_11 : decode cX10_flatInParts 11 = .ok (.invokevirtual 221, 3) := by decide +kernel
theorem dX10_flatInParts_14 : decode cX10_flatInParts 14 = .ok (.iinc 3 1, 3) := by decide +kernel
theorem dX10_flatInParts_17 : decode cX10_flatInParts 17 = .ok (.goto (-15), 3) := by decide +kernel
theorem dX10_flatInParts_20 : decode cX10_flatInParts 20 = .ok (.return_, 1) := by decide +kernel
theorem dX10_parts_0 : decode cX10_parts 0 = .ok (.aload_n 0, 1) := by decide +kernel
theorem dX10_parts_1 : decode cX10_parts 1 = .ok (.iconst 0, 1) := by decide +kernel
theorem dX10_parts_2 : decode cX10_parts 2 = .ok (.putfield 78, 3) := by decide +kernel
theorem dX10_parts_5 : decode cX10_parts 5 = .ok (.aload_n 0, 1) := by decide +kernel
theorem dX10_parts_6 : decode cX10_parts 6 = .ok (.getfield 88, 3) := by decide +kernel
theorem dX10_parts_9 : decode cX10_parts 9 = .ok (.ifCond .eq 10, 3) := by decide +kernel
theorem dX10_parts_12 : decode cX10_parts 12 = .ok (.aload_n 0, 1) := by decide +kernel
theorem dX10_parts_13 : decode cX10_parts 13 = .ok (.getfield 92, 3) := by decide +kernel
theorem dX10_parts_16 : decode cX10_parts 16 = .ok (.ifCond .eq 9, 3) := by decide +kernel
theorem dX10_parts_19 : decode cX10_parts 19 = .ok (.aload_n 0, 1) := by decide +kernel
theorem dX10_parts_20 : decode cX10_parts 20 = .ok (.iconst 1, 1) := by decide +kernel
theorem dX10_parts_21 : decode cX10_parts 21 = .ok (.invokevirtual 84, 3) := by decide +kernel
theorem dX10_parts_24 : decode cX10_parts 24 = .ok (.ireturn, 1) := by decide +kernel
theorem dX10_parts_25 : decode cX10_parts 25 = .ok (.iload_n 1, 1) := by decide +kernel
theorem dX10_parts_26 : decode cX10_parts 26 = .ok (.iload_n 2, 1) := by decide +kernel
theorem dX10_parts_27 : decode cX10_parts 27 = .ok (.iload_n 3, 1) := by decide +kernel
theorem dX10_parts_28 : decode cX10_parts 28 = .ok (.invokestatic 192, 3) := by decide +kernel
theorem dX10_parts_31 : decode cX10_parts 31 = .ok (.ifCond .eq 11, 3) := by decide +kernel
theorem dX10_parts_34 : decode cX10_parts 34 = .ok (.aload_n 0, 1) := by decide +kernel
theorem dX10_parts_35 : decode cX10_parts 35 = .ok (.getfield 95, 3) := by decide +kernel
theorem dX10_parts_38 : decode cX10_parts 38 = .ok (.iconst 2, 1) := by decide +kernel
theorem dX10_parts_39 : decode cX10_parts 39 = .ok (.if_icmp .ne 9, 3) := by decide +kernel
theorem dX10_parts_42 : decode cX10_parts 42 = .ok (.aload_n 0, 1) := by decide +kernel
theorem dX10_parts_43 : decode cX10_parts 43 = .ok (.iconst 2, 1) := by decide +kernel
theorem dX10_parts_44 : decode cX10_parts 44 = .ok (.invokevirtual 84, 3) := by decide +kernel
theorem dX10_parts_47 : decode cX10_parts 47 = .ok (.ireturn, 1) := by decide +kernel
theorem dX10_parts_48 : decode cX10_parts 48 = .ok (.aload_n 0, 1) := by decide +kernel
theorem dX10_parts_49 : decode cX10_parts 49 = .ok (.iload_n 1, 1) := by decide +kernel
theorem dX10_parts_50 : decode cX10_parts 50 = .ok (.iload_n 2, 1) := by decide +kernel
theorem dX10_parts_51 : decode cX10_parts 51 = .ok (.iload_n 3, 1) := by decide +kernel
theorem dX10_parts_52 : decode cX10_parts 52 = .ok (.invokevirtual 195, 3) := by decide +kernel
theorem dX10_parts_55 : decode cX10_parts 55 = .ok (.aload_n 0, 1) := by decide +kernel
theorem dX10_parts_56 : decode cX10_parts 56 = .ok (.aload_n 0, 1) := by decide +kernel
theorem dX10_parts_57 : decode cX10_parts 57 = .ok (.getfield 95, 3) := by decide +kernel
theorem dX10_parts_60 : decode cX10_parts 60 = .ok (.ifCond .ne 10, 3) := by decide +kernel
theorem dX10_parts_63 : decode cX10_parts 63 = .ok (.aload_n 0, 1) := by decide +kernel
theorem dX10_parts_64 : decode cX10_parts 64 = .ok (.getfield 81, 3) := by decide +kernel
theorem dX10_parts_67 : decode cX10_parts 67 = .ok (.goto 7, 3) := by decide +kernel
theorem dX10_parts_70 : decode cX10_parts 70 = .ok (.aload_n 0, 1) := by decide +kernel
theorem dX10_parts_71 : decode cX10_parts 71 = .ok (.getfield 101, 3) := by decide +kernel
theorem dX10_parts_74 : decode cX10_parts 74 = .ok (.putfield 218, 3) := by decide +kernel
theorem dX10_parts_77 : decode cX10_parts 77 = .ok (.iconst 0, 1) := by decide +kernel
theorem dX10_parts_78 : decode cX10_parts 78 = .ok (.istore 4, 2) := by decide +kernel
theorem dX10_parts_80 : decode cX10_parts 80 = .ok (.iload 4, 2) := by decide +kernel
theorem dX10_parts_82 : decode cX10_parts 82 = .ok (.aload_n 0, 1) := by decide +kernel
theorem dX10_parts_83 : decode cX10_parts 83 = .ok (.getfield 218, 3) := by decide +kernel
theorem dX10_parts_86 : decode cX10_parts 86 = .ok (.if_icmp .ge 40, 3) := by decide +kernel
theorem dX10_parts_89 : decode cX10_parts 89 = .ok (.aload_n 0, 1) := by decide +kernel
theorem dX10_parts_90 : decode cX10_parts 90 = .ok (.getfield 50, 3) := by decide +kernel
theorem dX10_parts_93 : decode cX10_parts 93 = .ok (.iload 4, 2) := by decide +kernel
theorem dX10_parts_95 : decode cX10_parts 95 = .ok (.aload_n 0, 1) := by decide +kernel
theorem dX10_parts_96 : decode cX10_parts 96 = .ok (.getfield 95, 3) := by decide +kernel
theorem dX10_parts_99 : decode cX10_parts 99 = .ok (.ifCond .ne 13, 3) := by decide +kernel
theorem dX10_parts_102 : decode cX10_parts 102 = .ok (.aload_n 0, 1) := by decide +kernel
theorem dX10_parts_103 : decode cX10_parts 103 = .ok (.getfield 7, 3) := by decide +kernel
theorem dX10_parts_106 : decode cX10_parts 106 = .ok (.iload 4, 2) := by decide +kernel
theorem dX10_parts_108 : decode cX10_parts 108 = .ok (.iaload, 1) := by decide +kernel
theorem dX10_parts_109 : decode cX10_parts 109 = .ok (.goto 10, 3) := by decide +kernel
theorem dX10_parts_112 : decode cX10_parts 112 = .ok (.aload_n 0, 1) := by decide +kernel
theorem dX10_parts_113 : decode cX10_parts 113 = .ok (.getfield 98, 3) := by decide +kernel
theorem dX10_parts_116 : decode cX10_parts 116 = .ok (.iload 4, 2) := by decide +kernel
theorem dX10_parts_118 : decode cX10_parts 118 = .ok (.iadd, 1) := by decide +kernel
theorem dX10_parts_119 : decode cX10_parts 119 = .ok (.iastore, 1) := by decide +kernel
theorem dX10_parts_120 : decode cX10_parts 120 = .ok (.iinc 4 1, 3) := by decide +kernel
theorem dX10_parts_123 : decode cX10_parts 123 = .ok (.goto (-43), 3) := by decide +kernel
theorem dX10_parts_126 : decode cX10_parts 126 = .ok (.aload_n 0, 1) := by decide +kernel
theorem dX10_parts_127 : decode cX10_parts 127 = .ok (.aload_n 0, 1) := by decide +kernel
theorem dX10_parts_128 : decode cX10_parts 128 = .ok (.getfield 218, 3) := by decide +kernel
theorem dX10_parts_131 : decode cX10_parts 131 = .ok (.invokevirtual 227, 3) := by decide +kernel
theorem dX10_parts_134 : decode cX10_parts 134 = .ok (.iconst 0, 1) := by decide +kernel
theorem dX10_parts_135 : decode cX10_parts 135 = .ok (.istore 4, 2) := by decide +kernel
theorem dX10_parts_137 : decode cX10_parts 137 = .ok (.iload 4, 2) := by decide +kernel
theorem dX10_parts_139 : decode cX10_parts 139 = .ok (.aload_n 0, 1) := by decide +kernel
theorem dX10_parts_140 : decode cX10_parts 140 = .ok (.getfield 107, 3) := by decide +kernel
theorem dX10_parts_143 : decode cX10_parts 143 = .ok (.if_icmp .ge 22, 3) := by decide +kernel
theorem dX10_parts_146 : decode cX10_parts 146 = .ok (.aload_n 0, 1) := by decide +kernel
theorem dX10_parts_147 : decode cX10_parts 147 = .ok (.getfield 143, 3) := by decide +kernel
theorem dX10_parts_150 : decode cX10_parts 150 = .ok (.ifCond .ne 15, 3) := by decide +kernel
theorem dX10_parts_153 : decode cX10_parts 153 = .ok (.aload_n 0, 1) := by decide +kernel
theorem dX10_parts_154 : decode cX10_parts 154 = .ok (.iload 4, 2) := by decide +kernel
theorem dX10_parts_156 : decode cX10_parts 156 = .ok (.invokevirtual 230, 3) := by decide +kernel
theorem dX10_parts_159 : decode cX10_parts 159 = .ok (.iinc 4 1, 3) := by decide +kernel
theorem dX10_parts_162 : decode cX10_parts 162 = .ok (.goto (-25), 3) := by decide +kernel
theorem dX10_parts_165 : decode cX10_parts 165 = .ok (.iconst 0, 1) := by decide +kernel
theorem dX10_parts_166 : decode cX10_parts 166 = .ok (.istore 4, 2) := by decide +kernel
theorem dX10_parts_168 : decode cX10_parts 168 = .ok (.iload 4, 2) := by decide +kernel
theorem dX10_parts_170 : decode cX10_parts 170 = .ok (.aload_n 0, 1) := by decide +kernel
theorem dX10_parts_171 : decode cX10_parts 171 = .ok (.getfield 218, 3) := by decide +kernel
theorem dX10_parts_174 : decode cX10_parts 174 = .ok (.if_icmp .ge 27, 3) := by decide +kernel
theorem dX10_parts_177 : decode cX10_parts 177 = .ok (.aload_n 0, 1) := by decide +kernel
theorem dX10_parts_178 : decode cX10_parts 178 = .ok (.getfield 143, 3) := by decide +kernel
theorem dX10_parts_181 : decode cX10_parts 181 = .ok (.ifCond .ne 20, 3) := by decide +kernel
theorem dX10_parts_184 : decode cX10_parts 184 = .ok (.aload_n 0, 1) := by decide +kernel
theorem dX10_parts_185 : decode cX10_parts 185 = .ok (.aload_n 0, 1) := by decide +kernel
theorem dX10_parts_186 : decode cX10_parts 186 = .ok (.getfield 50, 3) := by decide +kernel
theorem dX10_parts_189 : decode cX10_parts 189 = .ok (.iload 4, 2) := by decide +kernel
theorem dX10_parts_191 : decode cX10_parts 191 = .ok (.iaload, 1) := by decide +kernel
theorem dX10_parts_192 : decode cX10_parts 192 = .ok (.invokevirtual 176, 3) := by decide +kernel
theorem dX10_parts_195 : decode cX10_parts 195 = .ok (.iinc 4 1, 3) := by decide +kernel
theorem dX10_parts_198 : decode cX10_parts 198 = .ok (.goto (-30), 3) := by decide +kernel
theorem dX10_parts_201 : decode cX10_parts 201 = .ok (.aload_n 0, 1) := by decide +kernel
theorem dX10_parts_202 : decode cX10_parts 202 = .ok (.invokevirtual 201, 3) := by decide +kernel
theorem dX10_parts_205 : decode cX10_parts 205 = .ok (.ireturn, 1) := by decide +kernel
theorem dX10_seen_0 : decode cX10_seen 0 = .ok (.aload_n 0, 1) := by decide +kernel
theorem dX10_seen_1 : decode cX10_seen 1 = .ok (.iconst 0, 1) := by decide +kernel
theorem dX10_seen_2 : decode cX10_seen 2 = .ok (.putfield 78, 3) := by decide +kernel
theorem dX10_seen_5 : decode cX10_seen 5 = .ok (.aload_n 0, 1) := by decide +kernel
theorem dX10_seen_6 : decode cX10_seen 6 = .ok (.getfield 88, 3) := by decide +kernel
theorem dX10_seen_9 : decode cX10_seen 9 = .ok (.ifCond .eq 24, 3) := by decide +kernel
theorem dX10_seen_12 : decode cX10_seen 12 = .ok (.iload_n 1, 1) := by decide +kernel
theorem dX10_seen_13 : decode cX10_seen 13 = .ok (.ifCond .lt 20, 3) := by decide +kernel
theorem dX10_seen_16 : decode cX10_seen 16 = .ok (.iload_n 1, 1) := by decide +kernel
theorem dX10_seen_17 : decode cX10_seen 17 = .ok (.aload_n 0, 1) := by decide +kernel
theorem dX10_seen_18 : decode cX10_seen 18 = .ok (.getfield 107, 3) := by decide +kernel
theorem dX10_seen_21 : decode cX10_seen 21 = .ok (.if_icmp .ge 12, 3) := by decide +kernel
theorem dX10_seen_24 : decode cX10_seen 24 = .ok (.aload_n 0, 1) := by decide +kernel
theorem dX10_seen_25 : decode cX10_seen 25 = .ok (.getfield 22, 3) := by decide +kernel
theorem dX10_seen_28 : decode cX10_seen 28 = .ok (.iload_n 1, 1) := by decide +kernel
theorem dX10_seen_29 : decode cX10_seen 29 = .ok (.iaload, 1) := by decide +kernel
theorem dX10_seen_30 : decode cX10_seen 30 = .ok (.goto 4, 3) := by decide +kernel
theorem dX10_seen_33 : decode cX10_seen 33 = .ok (.iconst (-1), 1) := by decide +kernel
theorem dX10_seen_34 : decode cX10_seen 34 = .ok (.ireturn, 1) := by decide +kernel
theorem dX10_kept_0 : decode cX10_kept 0 = .ok (.aload_n 0, 1) := by decide +kernel
theorem dX10_kept_1 : decode cX10_kept 1 = .ok (.iload_n 1, 1) := by decide +kernel
theorem dX10_kept_2 : decode cX10_kept 2 = .ok (.ifCond .lt 15, 3) := by decide +kernel
theorem dX10_kept_5 : decode cX10_kept 5 = .ok (.iload_n 1, 1) := by decide +kernel
theorem dX10_kept_6 : decode cX10_kept 6 = .ok (.aload_n 0, 1) := by decide +kernel
theorem dX10_kept_7 : decode cX10_kept 7 = .ok (.getfield 156, 3) := by decide +kernel
theorem dX10_kept_10 : decode cX10_kept 10 = .ok (.if_icmp .ge 7, 3) := by decide +kernel
theorem dX10_kept_13 : decode cX10_kept 13 = .ok (.iconst 0, 1) := by decide +kernel
theorem dX10_kept_14 : decode cX10_kept 14 = .ok (.goto 4, 3) := by decide +kernel
theorem dX10_kept_17 : decode cX10_kept 17 = .ok (.iconst 1, 1) := by decide +kernel
theorem dX10_kept_18 : decode cX10_kept 18 = .ok (.putfield 78, 3) := by decide +kernel
theorem dX10_kept_21 : decode cX10_kept 21 = .ok (.aload_n 0, 1) := by decide +kernel
theorem dX10_kept_22 : decode cX10_kept 22 = .ok (.getfield 78, 3) := by decide +kernel
theorem dX10_kept_25 : decode cX10_kept 25 = .ok (.ifCond .ne 12, 3) := by decide +kernel
theorem dX10_kept_28 : decode cX10_kept 28 = .ok (.aload_n 0, 1) := by decide +kernel
theorem dX10_kept_29 : decode cX10_kept 29 = .ok (.getfield 47, 3) := by decide +kernel
theorem dX10_kept_32 : decode cX10_kept 32 = .ok (.iload_n 1, 1) := by decide +kernel
theorem dX10_kept_33 : decode cX10_kept 33 = .ok (.iaload, 1) := by decide +kernel
theorem dX10_kept_34 : decode cX10_kept 34 = .ok (.goto 4, 3) := by decide +kernel
theorem dX10_kept_37 : decode cX10_kept 37 = .ok (.iconst 0, 1) := by decide +kernel
theorem dX10_kept_38 : decode cX10_kept 38 = .ok (.ireturn, 1) := by decide +kernel
theorem dX10_pooled_0 : decode cX10_pooled 0 = .ok (.aload_n 0, 1) := by decide +kernel
theorem dX10_pooled_1 : decode cX10_pooled 1 = .ok (.iconst 0, 1) := by decide +kernel
theorem dX10_pooled_2 : decode cX10_pooled 2 = .ok (.putfield 78, 3) := by decide +kernel
theorem dX10_pooled_5 : decode cX10_pooled 5 = .ok (.iload_n 1, 1) := by decide +kernel
theorem dX10_pooled_6 : decode cX10_pooled 6 = .ok (.ifCond .lt 18, 3) := by decide +kernel
theorem dX10_pooled_9 : decode cX10_pooled 9 = .ok (.iload_n 1, 1) := by decide +kernel
theorem dX10_pooled_10 : decode cX10_pooled 10 = .ok (.bipush 7, 2) := by decide +kernel
theorem dX10_pooled_12 : decode cX10_pooled 12 = .ok (.if_icmp .ge 12, 3) := by decide +kernel
theorem dX10_pooled_15 : decode cX10_pooled 15 = .ok (.aload_n 0, 1) := by decide +kernel
theorem dX10_pooled_16 : decode cX10_pooled 16 = .ok (.getfield 75, 3) := by decide +kernel
theorem dX10_pooled_19 : decode cX10_pooled 19 = .ok (.iload_n 1, 1) := by decide +kernel
theorem dX10_pooled_20 : decode cX10_pooled 20 = .ok (.iaload, 1) := by decide +kernel
theorem dX10_pooled_21 : decode cX10_pooled 21 = .ok (.goto 4, 3) := by decide +kernel
theorem dX10_pooled_24 : decode cX10_pooled 24 = .ok (.iconst (-1), 1) := by decide +kernel
theorem dX10_pooled_25 : decode cX10_pooled 25 = .ok (.ireturn, 1) := by decide +kernel
theorem dJ9_floorMod_7cf53_0 : decode cJ9_floorMod_7cf53 0 = .ok (.iload_n 0, 1) := by decide +kernel
theorem dJ9_floorMod_7cf53_1 : decode cJ9_floorMod_7cf53 1 = .ok (.iload_n 1, 1) := by decide +kernel
theorem dJ9_floorMod_7cf53_2 : decode cJ9_floorMod_7cf53 2 = .ok (.irem, 1) := by decide +kernel
theorem dJ9_floorMod_7cf53_3 : decode cJ9_floorMod_7cf53 3 = .ok (.istore_n 2, 1) := by decide +kernel
theorem dJ9_floorMod_7cf53_4 : decode cJ9_floorMod_7cf53 4 = .ok (.iload_n 0, 1) := by decide +kernel
theorem dJ9_floorMod_7cf53_5 : decode cJ9_floorMod_7cf53 5 = .ok (.iload_n 1, 1) := by decide +kernel
theorem dJ9_floorMod_7cf53_6 : decode cJ9_floorMod_7cf53 6 = .ok (.ixor, 1) := by decide +kernel
theorem dJ9_floorMod_7cf53_7 : decode cJ9_floorMod_7cf53 7 = .ok (.ifCond .ge 11, 3) := by decide +kernel
theorem dJ9_floorMod_7cf53_10 : decode cJ9_floorMod_7cf53 10 = .ok (.iload_n 2, 1) := by decide +kernel
theorem dJ9_floorMod_7cf53_11 : decode cJ9_floorMod_7cf53 11 = .ok (.ifCond .eq 7, 3) := by decide +kernel
theorem dJ9_floorMod_7cf53_14 : decode cJ9_floorMod_7cf53 14 = .ok (.iload_n 2, 1) := by decide +kernel
theorem dJ9_floorMod_7cf53_15 : decode cJ9_floorMod_7cf53 15 = .ok (.iload_n 1, 1) := by decide +kernel
theorem dJ9_floorMod_7cf53_16 : decode cJ9_floorMod_7cf53 16 = .ok (.iadd, 1) := by decide +kernel
theorem dJ9_floorMod_7cf53_17 : decode cJ9_floorMod_7cf53 17 = .ok (.ireturn, 1) := by decide +kernel
theorem dJ9_floorMod_7cf53_18 : decode cJ9_floorMod_7cf53 18 = .ok (.iload_n 2, 1) := by decide +kernel
theorem dJ9_floorMod_7cf53_19 : decode cJ9_floorMod_7cf53 19 = .ok (.ireturn, 1) := by decide +kernel
theorem dJ9_max_7cf53_0 : decode cJ9_max_7cf53 0 = .ok (.iload_n 0, 1) := by decide +kernel
theorem dJ9_max_7cf53_1 : decode cJ9_max_7cf53 1 = .ok (.iload_n 1, 1) := by decide +kernel
theorem dJ9_max_7cf53_2 : decode cJ9_max_7cf53 2 = .ok (.if_icmp .lt 7, 3) := by decide +kernel
theorem dJ9_max_7cf53_5 : decode cJ9_max_7cf53 5 = .ok (.iload_n 0, 1) := by decide +kernel
theorem dJ9_max_7cf53_6 : decode cJ9_max_7cf53 6 = .ok (.goto 4, 3) := by decide +kernel
theorem dJ9_max_7cf53_9 : decode cJ9_max_7cf53 9 = .ok (.iload_n 1, 1) := by decide +kernel
theorem dJ9_max_7cf53_10 : decode cJ9_max_7cf53 10 = .ok (.ireturn, 1) := by decide +kernel
theorem dJ9_min_7cf53_0 : decode cJ9_min_7cf53 0 = .ok (.iload_n 0, 1) := by decide +kernel
theorem dJ9_min_7cf53_1 : decode cJ9_min_7cf53 1 = .ok (.iload_n 1, 1) := by decide +kernel
theorem dJ9_min_7cf53_2 : decode cJ9_min_7cf53 2 = .ok (.if_icmp .gt 7, 3) := by decide +kernel
theorem dJ9_min_7cf53_5 : decode cJ9_min_7cf53 5 = .ok (.iload_n 0, 1) := by decide +kernel
theorem dJ9_min_7cf53_6 : decode cJ9_min_7cf53 6 = .ok (.goto 4, 3) := by decide +kernel
theorem dJ9_min_7cf53_9 : decode cJ9_min_7cf53 9 = .ok (.iload_n 1, 1) := by decide +kernel
theorem dJ9_min_7cf53_10 : decode cJ9_min_7cf53 10 = .ok (.ireturn, 1) := by decide +kernel
theorem dL_put_0 : decode cL_put 0 = .ok (.aload_n 2, 1) := by decide +kernel
theorem dL_put_1 : decode cL_put 1 = .ok (.iconst 0, 1) := by decide +kernel
theorem dL_put_2 : decode cL_put 2 = .ok (.aload_n 0, 1) := by decide +kernel
theorem dL_put_3 : decode cL_put 3 = .ok (.iload_n 1, 1) := by decide +kernel
theorem dL_put_4 : decode cL_put 4 = .ok (.invokevirtual 7, 3) := by decide +kernel
theorem dL_put_7 : decode cL_put 7 = .ok (.i2l, 1) := by decide +kernel
theorem dL_put_8 : decode cL_put 8 = .ok (.lastore, 1) := by decide +kernel
theorem dL_put_9 : decode cL_put 9 = .ok (.goto 6, 3) := by decide +kernel
theorem dL_put_12 : decode cL_put 12 = .ok (.astore_n 3, 1) := by decide +kernel
theorem dL_put_13 : decode cL_put 13 = .ok (.iconst 1, 1) := by decide +kernel
theorem dL_put_14 : decode cL_put 14 = .ok (.ireturn, 1) := by decide +kernel
theorem dL_put_15 : decode cL_put 15 = .ok (.iconst 0, 1) := by decide +kernel
theorem dL_put_16 : decode cL_put 16 = .ok (.ireturn, 1) := by decide +kernel
theorem dL_source_0 : decode cL_source 0 = .ok (.aload_n 0, 1) := by decide +kernel
theorem dL_source_1 : decode cL_source 1 = .ok (.iload_n 1, 1) := by decide +kernel
theorem dL_source_2 : decode cL_source 2 = .ok (.iload_n 2, 1) := by decide +kernel
theorem dL_source_3 : decode cL_source 3 = .ok (.iload_n 3, 1) := by decide +kernel
theorem dL_source_4 : decode cL_source 4 = .ok (.iload 4, 2) := by decide +kernel
theorem dL_source_6 : decode cL_source 6 = .ok (.invokevirtual 15, 3) := by decide +kernel
theorem dL_source_9 : decode cL_source 9 = .ok (.goto 7, 3) := by decide +kernel
theorem dL_source_12 : decode cL_source 12 = .ok (.astore 5, 2) := by decide +kernel
theorem dL_source_14 : decode cL_source 14 = .ok (.iconst 1, 1) := by decide +kernel
theorem dL_source_15 : decode cL_source 15 = .ok (.ireturn, 1) := by decide +kernel
theorem dL_source_16 : decode cL_source 16 = .ok (.iconst 0, 1) := by decide +kernel
theorem dL_source_17 : decode cL_source 17 = .ok (.ireturn, 1) := by decide +kernel
theorem dL_stage_0 : decode cL_stage 0 = .ok (.aload 4, 2) := by decide +kernel
theorem dL_stage_2 : decode cL_stage 2 = .ok (.iconst 0, 1) := by decide +kernel
theorem dL_stage_3 : decode cL_stage 3 = .ok (.aload_n 0, 1) := by decide +kernel
theorem dL_stage_4 : decode cL_stage 4 = .ok (.iload_n 1, 1) := by decide +kernel
theorem dL_stage_5 : decode cL_stage 5 = .ok (.iload_n 2, 1) := by decide +kernel
theorem dL_stage_6 : decode cL_stage 6 = .ok (.iload_n 3, 1) := by decide +kernel
theorem dL_stage_7 : decode cL_stage 7 = .ok (.invokevirtual 19, 3) := by decide +kernel
theorem dL_stage_10 : decode cL_stage 10 = .ok (.i2l, 1) := by decide +kernel
theorem dL_stage_11 : decode cL_stage 11 = .ok (.lastore, 1) := by decide +kernel
theorem dL_stage_12 : decode cL_stage 12 = .ok (.goto 11, 3) := by decide +kernel
theorem dL_stage_15 : decode cL_stage 15 = .ok (.astore 5, 2) := by decide +kernel
theorem dL_stage_17 : decode cL_stage 17 = .ok (.iconst 1, 1) := by decide +kernel
theorem dL_stage_18 : decode cL_stage 18 = .ok (.ireturn, 1) := by decide +kernel
theorem dL_stage_19 : decode cL_stage 19 = .ok (.astore 5, 2) := by decide +kernel
theorem dL_stage_21 : decode cL_stage 21 = .ok (.iconst 2, 1) := by decide +kernel
theorem dL_stage_22 : decode cL_stage 22 = .ok (.ireturn, 1) := by decide +kernel
theorem dL_stage_23 : decode cL_stage 23 = .ok (.iconst 0, 1) := by decide +kernel
theorem dL_stage_24 : decode cL_stage 24 = .ok (.ireturn, 1) := by decide +kernel
theorem dL_flags_0 : decode cL_flags 0 = .ok (.aload_n 1, 1) := by decide +kernel
theorem dL_flags_1 : decode cL_flags 1 = .ok (.iconst 0, 1) := by decide +kernel
theorem dL_flags_2 : decode cL_flags 2 = .ok (.aload_n 0, 1) := by decide +kernel
theorem dL_flags_3 : decode cL_flags 3 = .ok (.invokevirtual 25, 3) := by decide +kernel
theorem dL_flags_6 : decode cL_flags 6 = .ok (.i2l, 1) := by decide +kernel
theorem dL_flags_7 : decode cL_flags 7 = .ok (.lastore, 1) := by decide +kernel
theorem dL_flags_8 : decode cL_flags 8 = .ok (.goto 6, 3) := by decide +kernel
theorem dL_flags_11 : decode cL_flags 11 = .ok (.astore_n 2, 1) := by decide +kernel
theorem dL_flags_12 : decode cL_flags 12 = .ok (.iconst 1, 1) := by decide +kernel
theorem dL_flags_13 : decode cL_flags 13 = .ok (.ireturn, 1) := by decide +kernel
theorem dL_flags_14 : decode cL_flags 14 = .ok (.iconst 0, 1) := by decide +kernel
theorem dL_flags_15 : decode cL_flags 15 = .ok (.ireturn, 1) := by decide +kernel
theorem dL_run_0 : decode cL_run 0 = .ok (.aload 4, 2) := by decide +kernel
theorem dL_run_2 : decode cL_run 2 = .ok (.iconst 0, 1) := by decide +kernel
theorem dL_run_3 : decode cL_run 3 = .ok (.aload_n 0, 1) := by decide +kernel
theorem dL_run_4 : decode cL_run 4 = .ok (.iload_n 1, 1) := by decide +kernel
theorem dL_run_5 : decode cL_run 5 = .ok (.iload_n 2, 1) := by decide +kernel
theorem dL_run_6 : decode cL_run 6 = .ok (.iload_n 3, 1) := by decide +kernel
theorem dL_run_7 : decode cL_run 7 = .ok (.invokevirtual 29, 3) := by decide +kernel
theorem dL_run_10 : decode cL_run 10 = .ok (.i2l, 1) := by decide +kernel
theorem dL_run_11 : decode cL_run 11 = .ok (.lastore, 1) := by decide +kernel
theorem dL_run_12 : decode cL_run 12 = .ok (.goto 19, 3) := by decide +kernel
theorem dL_run_15 : decode cL_run 15 = .ok (.astore 5, 2) := by decide +kernel
theorem dL_run_17 : decode cL_run 17 = .ok (.iconst 1, 1) := by decide +kernel
theorem dL_run_18 : decode cL_run 18 = .ok (.ireturn, 1) := by decide +kernel
theorem dL_run_19 : decode cL_run 19 = .ok (.astore 5, 2) := by decide +kernel
theorem dL_run_21 : decode cL_run 21 = .ok (.iconst 2, 1) := by decide +kernel
theorem dL_run_22 : decode cL_run 22 = .ok (.ireturn, 1) := by decide +kernel
theorem dL_run_23 : decode cL_run 23 = .ok (.astore 5, 2) := by decide +kernel
theorem dL_run_25 : decode cL_run 25 = .ok (.iconst 3, 1) := by decide +kernel
theorem dL_run_26 : decode cL_run 26 = .ok (.ireturn, 1) := by decide +kernel
theorem dL_run_27 : decode cL_run 27 = .ok (.astore 5, 2) := by decide +kernel
theorem dL_run_29 : decode cL_run 29 = .ok (.iconst 4, 1) := by decide +kernel
theorem dL_run_30 : decode cL_run 30 = .ok (.ireturn, 1) := by decide +kernel
theorem dL_run_31 : decode cL_run 31 = .ok (.iconst 0, 1) := by decide +kernel
theorem dL_run_32 : decode cL_run 32 = .ok (.ireturn, 1) := by decide +kernel
theorem dL_pool_0 : decode cL_pool 0 = .ok (.aload_n 0, 1) := by decide +kernel
theorem dL_pool_1 : decode cL_pool 1 = .ok (.iload_n 1, 1) := by decide +kernel
theorem dL_pool_2 : decode cL_pool 2 = .ok (.iload_n 2, 1) := by decide +kernel
theorem dL_pool_3 : decode cL_pool 3 = .ok (.iload_n 3, 1) := by decide +kernel
theorem dL_pool_4 : decode cL_pool 4 = .ok (.invokevirtual 36, 3) := by decide +kernel
theorem dL_pool_7 : decode cL_pool 7 = .ok (.goto 7, 3) := by decide +kernel
theorem dL_pool_10 : decode cL_pool 10 = .ok (.astore 4, 2) := by decide +kernel
theorem dL_pool_12 : decode cL_pool 12 = .ok (.iconst 1, 1) := by decide +kernel
theorem dL_pool_13 : decode cL_pool 13 = .ok (.ireturn, 1) := by decide +kernel
theorem dL_pool_14 : decode cL_pool 14 = .ok (.iconst 0, 1) := by decide +kernel
theorem dL_pool_15 : decode cL_pool 15 = .ok (.ireturn, 1) := by decide +kernel
theorem dL_parts_0 : decode cL_parts 0 = .ok (.aload 4, 2) := by decide +kernel
theorem dL_parts_2 : decode cL_parts 2 = .ok (.iconst 0, 1) := by decide +kernel
theorem dL_parts_3 : decode cL_parts 3 = .ok (.aload_n 0, 1) := by decide +kernel
theorem dL_parts_4 : decode cL_parts 4 = .ok (.iload_n 1, 1) := by decide +kernel
theorem dL_parts_5 : decode cL_parts 5 = .ok (.iload_n 2, 1) := by decide +kernel
theorem dL_parts_6 : decode cL_parts 6 = .ok (.iload_n 3, 1) := by decide +kernel
theorem dL_parts_7 : decode cL_parts 7 = .ok (.invokevirtual 40, 3) := by decide +kernel
theorem dL_parts_10 : decode cL_parts 10 = .ok (.i2l, 1) := by decide +kernel
theorem dL_parts_11 : decode cL_parts 11 = .ok (.lastore, 1) := by decide +kernel
theorem dL_parts_12 : decode cL_parts 12 = .ok (.goto 19, 3) := by decide +kernel
theorem dL_parts_15 : decode cL_parts 15 = .ok (.astore 5, 2) := by decide +kernel
theorem dL_parts_17 : decode cL_parts 17 = .ok (.iconst 1, 1) := by decide +kernel
theorem dL_parts_18 : decode cL_parts 18 = .ok (.ireturn, 1) := by decide +kernel
theorem dL_parts_19 : decode cL_parts 19 = .ok (.astore 5, 2) := by decide +kernel
theorem dL_parts_21 : decode cL_parts 21 = .ok (.iconst 2, 1) := by decide +kernel
theorem dL_parts_22 : decode cL_parts 22 = .ok (.ireturn, 1) := by decide +kernel
theorem dL_parts_23 : decode cL_parts 23 = .ok (.astore 5, 2) := by decide +kernel
theorem dL_parts_25 : decode cL_parts 25 = .ok (.iconst 3, 1) := by decide +kernel
theorem dL_parts_26 : decode cL_parts 26 = .ok (.ireturn, 1) := by decide +kernel
theorem dL_parts_27 : decode cL_parts 27 = .ok (.astore 5, 2) := by decide +kernel
theorem dL_parts_29 : decode cL_parts 29 = .ok (.iconst 4, 1) := by decide +kernel
theorem dL_parts_30 : decode cL_parts 30 = .ok (.ireturn, 1) := by decide +kernel
theorem dL_parts_31 : decode cL_parts 31 = .ok (.iconst 0, 1) := by decide +kernel
theorem dL_parts_32 : decode cL_parts 32 = .ok (.ireturn, 1) := by decide +kernel
theorem dL_kept_0 : decode cL_kept 0 = .ok (.aload_n 2, 1) := by decide +kernel
theorem dL_kept_1 : decode cL_kept 1 = .ok (.iconst 0, 1) := by decide +kernel
theorem dL_kept_2 : decode cL_kept 2 = .ok (.aload_n 0, 1) := by decide +kernel
theorem dL_kept_3 : decode cL_kept 3 = .ok (.iload_n 1, 1) := by decide +kernel
theorem dL_kept_4 : decode cL_kept 4 = .ok (.invokevirtual 43, 3) := by decide +kernel
theorem dL_kept_7 : decode cL_kept 7 = .ok (.i2l, 1) := by decide +kernel
theorem dL_kept_8 : decode cL_kept 8 = .ok (.lastore, 1) := by decide +kernel
theorem dL_kept_9 : decode cL_kept 9 = .ok (.goto 6, 3) := by decide +kernel
theorem dL_kept_12 : decode cL_kept 12 = .ok (.astore_n 3, 1) := by decide +kernel
theorem dL_kept_13 : decode cL_kept 13 = .ok (.iconst 1, 1) := by decide +kernel
theorem dL_kept_14 : decode cL_kept 14 = .ok (.ireturn, 1) := by decide +kernel
theorem dL_kept_15 : decode cL_kept 15 = .ok (.iconst 0, 1) := by decide +kernel
theorem dL_kept_16 : decode cL_kept 16 = .ok (.ireturn, 1) := by decide +kernel
theorem dL_law_0 : decode cL_law 0 = .ok (.new 8, 3) := by decide +kernel
theorem dL_law_3 : decode cL_law 3 = .ok (.dup, 1) := by decide +kernel
theorem dL_law_4 : decode cL_law 4 = .ok (.invokespecial 46, 3) := by decide +kernel
theorem dL_law_7 : decode cL_law 7 = .ok (.astore_n 1, 1) := by decide +kernel
theorem dL_law_8 : decode cL_law 8 = .ok (.new 47, 3) := by decide +kernel
theorem dL_law_11 : decode cL_law 11 = .ok (.dup, 1) := by decide +kernel
theorem dL_law_12 : decode cL_law 12 = .ok (.invokespecial 49, 3) := by decide +kernel
theorem dL_law_15 : decode cL_law 15 = .ok (.astore_n 2, 1) := by decide +kernel
theorem dL_law_16 : decode cL_law 16 = .ok (.iconst 1, 1) := by decide +kernel
theorem dL_law_17 : decode cL_law 17 = .ok (.newarray .long, 2) := by decide +kernel
theorem dL_law_19 : decode cL_law 19 = .ok (.astore_n 3, 1) := by decide +kernel
theorem dL_law_20 : decode cL_law 20 = .ok (.iconst 0, 1) := by decide +kernel
theorem dL_law_21 : decode cL_law 21 = .ok (.istore 4, 2) := by decide +kernel
theorem dL_law_23 : decode cL_law 23 = .ok (.iload 4, 2) := by decide +kernel
theorem dL_law_25 : decode cL_law 25 = .ok (.aload_n 0, 1) := by decide +kernel
theorem dL_law_26 : decode cL_law 26 = .ok (.arraylength, 1) := by decide +kernel
theorem dL_law_27 : decode cL_law 27 = .ok (.iconst 5, 1) := by decide +kernel
theorem dL_law_28 : decode cL_law 28 = .ok (.isub, 1) := by decide +kernel
theorem dL_law_29 : decode cL_law 29 = .ok (.if_icmp .gt 664, 3) := by decide +kernel
theorem dL_law_32 : decode cL_law 32 = .ok (.aload_n 0, 1) := by decide +kernel
theorem dL_law_33 : decode cL_law 33 = .ok (.iload 4, 2) := by decide +kernel
theorem dL_law_35 : decode cL_law 35 = .ok (.iaload, 1) := by decide +kernel
theorem dL_law_36 : decode cL_law 36 = .ok (.bipush 15, 2) := by decide +kernel
theorem dL_law_38 : decode cL_law 38 = .ok (.iand, 1) := by decide +kernel
theorem dL_law_39 : decode cL_law 39 = .ok (.tableswitch 648 0 10 #[57, 113, 126, 198, 278, 322, 402, 462, 542, 567, 623], 57) := by decide +kernel
theorem dL_law_96 : decode cL_law 96 = .ok (.aload_n 1, 1) := by decide +kernel
theorem dL_law_97 : decode cL_law 97 = .ok (.aload_n 0, 1) := by decide +kernel
theorem dL_law_98 : decode cL_law 98 = .ok (.iload 4, 2) := by decide +kernel
theorem dL_law_100 : decode cL_law 100 = .ok (.iconst 1, 1) := by decide +kernel
theorem dL_law_101 : decode cL_law 101 = .ok (.iadd, 1) := by decide +kernel
theorem dL_law_102 : decode cL_law 102 = .ok (.iaload, 1) := by decide +kernel
theorem dL_law_103 : decode cL_law 103 = .ok (.aload_n 3, 1) := by decide +kernel
theorem dL_law_104 : decode cL_law 104 = .ok (.invokestatic 50, 3) := by decide +kernel
theorem dL_law_107 : decode cL_law 107 = .ok (.istore 5, 2) := by decide +kernel
theorem dL_law_109 : decode cL_law 109 = .ok (.aload_n 2, 1) := by decide +kernel
theorem dL_law_110 : decode cL_law 110 = .ok (.aload_n 0, 1) := by decide +kernel
theorem dL_law_111 : decode cL_law 111 = .ok (.iload 4, 2) := by decide +kernel
theorem dL_law_113 : decode cL_law 113 = .ok (.iconst 1, 1) := by decide +kernel
theorem dL_law_114 : decode cL_law 114 = .ok (.iadd, 1) := by decide +kernel
theorem dL_law_115 : decode cL_law 115 = .ok (.iaload, 1) := by decide +kernel
theorem dL_law_116 : decode cL_law 116 = .ok (.invokevirtual 55, 3) := by decide +kernel
theorem dL_law_119 : decode cL_law 119 = .ok (.istore 6, 2) := by decide +kernel
theorem dL_law_121 : decode cL_law 121 = .ok (.aload_n 2, 1) := by decide +kernel
theorem dL_law_122 : decode cL_law 122 = .ok (.invokevirtual 56, 3) := by decide +kernel
theorem dL_law_125 : decode cL_law 125 = .ok (.iload 5, 2) := by decide +kernel
theorem dL_law_127 : decode cL_law 127 = .ok (.if_icmp .eq 5, 3) := by decide +kernel
theorem dL_law_130 : decode cL_law 130 = .ok (.iconst 0, 1) := by decide +kernel
theorem dL_law_131 : decode cL_law 131 = .ok (.ireturn, 1) := by decide +kernel
theorem dL_law_132 : decode cL_law 132 = .ok (.iload 5, 2) := by decide +kernel
theorem dL_law_134 : decode cL_law 134 = .ok (.ifCond .ne 15, 3) := by decide +kernel
theorem dL_law_137 : decode cL_law 137 = .ok (.aload_n 3, 1) := by decide +kernel
theorem dL_law_138 : decode cL_law 138 = .ok (.iconst 0, 1) := by decide +kernel
theorem dL_law_139 : decode cL_law 139 = .ok (.laload, 1) := by decide +kernel
theorem dL_law_140 : decode cL_law 140 = .ok (.iload 6, 2) := by decide +kernel
theorem dL_law_142 : decode cL_law 142 = .ok (.i2l, 1) := by decide +kernel
theorem dL_law_143 : decode cL_law 143 = .ok (.lcmp, 1) := by decide +kernel
theorem dL_law_144 : decode cL_law 144 = .ok (.ifCond .eq 5, 3) := by decide +kernel
theorem dL_law_147 : decode cL_law 147 = .ok (.iconst 0, 1) := by decide +kernel
theorem dL_law_148 : decode cL_law 148 = .ok (.ireturn, 1) := by decide +kernel
theorem dL_law_149 : decode cL_law 149 = .ok (.goto 538, 3) := by decide +kernel
theorem dL_law_152 : decode cL_law 152 = .ok (.aload_n 1, 1) := by decide +kernel
theorem dL_law_153 : decode cL_law 153 = .ok (.invokevirtual 59, 3) := by decide +kernel
theorem dL_law_156 : decode cL_law 156 = .ok (.aload_n 2, 1) := by decide +kernel
theorem dL_law_157 : decode cL_law 157 = .ok (.invokevirtual 62, 3) := by decide +kernel
theorem dL_law_160 : decode cL_law 160 = .ok (.if_icmp .eq 527, 3) := by decide +kernel
theorem dL_law_163 : decode cL_law 163 = .ok (.iconst 0, 1) := by decide +kernel
theorem dL_law_164 : decode cL_law 164 = .ok (.ireturn, 1) := by decide +kernel
theorem dL_law_165 : decode cL_law 165 = .ok (.aload_n 1, 1) := by decide +kernel
theorem dL_law_166 : decode cL_law 166 = .ok (.aload_n 0, 1) := by decide +kernel
theorem dL_law_167 : decode cL_law 167 = .ok (.iload 4, 2) := by decide +kernel
theorem dL_law_169 : decode cL_law 169 = .ok (.iconst 1, 1) := by decide +kernel
theorem dL_law_170 : decode cL_law 170 = .ok (.iadd, 1) := by decide +kernel
theorem dL_law_171 : decode cL_law 171 = .ok (.iaload, 1) := by decide +kernel
theorem dL_law_172 : decode cL_law 172 = .ok (.aload_n 0, 1) := by decide +kernel
theorem dL_law_173 : decode cL_law 173 = .ok (.iload 4, 2) := by decide +kernel
theorem dL_law_175 : decode cL_law 175 = .ok (.iconst 2, 1) := by decide +kernel
theorem dL_law_176 : decode cL_law 176 = .ok (.iadd, 1) := by decide +kernel
theorem dL_law_177 : decode cL_law 177 = .ok (.iaload, 1) := by decide +kernel
theorem dL_law_178 : decode cL_law 178 = .ok (.aload_n 0, 1) := by decide +kernel
theorem dL_law_179 : decode cL_law 179 = .ok (.iload 4, 2) := by decide +kernel
theorem dL_law_181 : decode cL_law 181 = .ok (.iconst 3, 1) := by decide +kernel
theorem dL_law_182 : decode cL_law 182 = .ok (.iadd, 1) := by decide +kernel
theorem dL_law_183 : decode cL_law 183 = .ok (.iaload, 1) := by decide +kernel
theorem dL_law_184 : decode cL_law 184 = .ok (.aload_n 0, 1) := by decide +kernel
theorem dL_law_185 : decode cL_law 185 = .ok (.iload 4, 2) := by decide +kernel
theorem dL_law_187 : decode cL_law 187 = .ok (.iconst 4, 1) := by decide +kernel
theorem dL_law_188 : decode cL_law 188 = .ok (.iadd, 1) := by decide +kernel
