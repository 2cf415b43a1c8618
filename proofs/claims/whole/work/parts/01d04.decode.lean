theorem dX10_hold_1 : decode cX10_hold 1 = .ok (.getfield 32, 3) := by decide +kernel
theorem dX10_hold_4 : decode cX10_hold 4 = .ok (.sipush 600, 3) := by decide +kernel
theorem dX10_hold_7 : decode cX10_hold 7 = .ok (.iload_n 1, 1) := by decide +kernel
theorem dX10_hold_8 : decode cX10_hold 8 = .ok (.imul, 1) := by decide +kernel
theorem dX10_hold_9 : decode cX10_hold 9 = .ok (.aload_n 0, 1) := by decide +kernel
theorem dX10_hold_10 : decode cX10_hold 10 = .ok (.getfield 25, 3) := by decide +kernel
theorem dX10_hold_13 : decode cX10_hold 13 = .ok (.iload_n 1, 1) := by decide +kernel
theorem dX10_hold_14 : decode cX10_hold 14 = .ok (.iaload, 1) := by decide +kernel
theorem dX10_hold_15 : decode cX10_hold 15 = .ok (.iadd, 1) := by decide +kernel
theorem dX10_hold_16 : decode cX10_hold 16 = .ok (.iload_n 2, 1) := by decide +kernel
theorem dX10_hold_17 : decode cX10_hold 17 = .ok (.iastore, 1) := by decide +kernel
theorem dX10_hold_18 : decode cX10_hold 18 = .ok (.aload_n 0, 1) := by decide +kernel
theorem dX10_hold_19 : decode cX10_hold 19 = .ok (.getfield 25, 3) := by decide +kernel
theorem dX10_hold_22 : decode cX10_hold 22 = .ok (.iload_n 1, 1) := by decide +kernel
theorem dX10_hold_23 : decode cX10_hold 23 = .ok (.dup2, 1) := by decide +kernel
theorem dX10_hold_24 : decode cX10_hold 24 = .ok (.iaload, 1) := by decide +kernel
theorem dX10_hold_25 : decode cX10_hold 25 = .ok (.iconst 1, 1) := by decide +kernel
theorem dX10_hold_26 : decode cX10_hold 26 = .ok (.iadd, 1) := by decide +kernel
theorem dX10_hold_27 : decode cX10_hold 27 = .ok (.iastore, 1) := by decide +kernel
theorem dX10_hold_28 : decode cX10_hold 28 = .ok (.return_, 1) := by decide +kernel
theorem dX10_sortIn_0 : decode cX10_sortIn 0 = .ok (.sipush 600, 3) := by decide +kernel
theorem dX10_sortIn_3 : decode cX10_sortIn 3 = .ok (.iload_n 1, 1) := by decide +kernel
theorem dX10_sortIn_4 : decode cX10_sortIn 4 = .ok (.imul, 1) := by decide +kernel
theorem dX10_sortIn_5 : decode cX10_sortIn 5 = .ok (.aload_n 0, 1) := by decide +kernel
theorem dX10_sortIn_6 : decode cX10_sortIn 6 = .ok (.getfield 25, 3) := by decide +kernel
theorem dX10_sortIn_9 : decode cX10_sortIn 9 = .ok (.iload_n 1, 1) := by decide +kernel
theorem dX10_sortIn_10 : decode cX10_sortIn 10 = .ok (.iaload, 1) := by decide +kernel
theorem dX10_sortIn_11 : decode cX10_sortIn 11 = .ok (.iadd, 1) := by decide +kernel
theorem dX10_sortIn_12 : decode cX10_sortIn 12 = .ok (.istore_n 3, 1) := by decide +kernel
theorem dX10_sortIn_13 : decode cX10_sortIn 13 = .ok (.iload_n 3, 1) := by decide +kernel
theorem dX10_sortIn_14 : decode cX10_sortIn 14 = .ok (.sipush 600, 3) := by decide +kernel
theorem dX10_sortIn_17 : decode cX10_sortIn 17 = .ok (.iload_n 1, 1) := by decide +kernel
theorem dX10_sortIn_18 : decode cX10_sortIn 18 = .ok (.imul, 1) := by decide +kernel
theorem dX10_sortIn_19 : decode cX10_sortIn 19 = .ok (.if_icmp .le 35, 3) := by decide +kernel
theorem dX10_sortIn_22 : decode cX10_sortIn 22 = .ok (.aload_n 0, 1) := by decide +kernel
theorem dX10_sortIn_23 : decode cX10_sortIn 23 = .ok (.getfield 32, 3) := by decide +kernel
theorem dX10_sortIn_26 : decode cX10_sortIn 26 = .ok (.iload_n 3, 1) := by decide +kernel
theorem dX10_sortIn_27 : decode cX10_sortIn 27 = .ok (.iconst 1, 1) := by decide +kernel
theorem dX10_sortIn_28 : decode cX10_sortIn 28 = .ok (.isub, 1) := by decide +kernel
theorem dX10_sortIn_29 : decode cX10_sortIn 29 = .ok (.iaload, 1) := by decide +kernel
theorem dX10_sortIn_30 : decode cX10_sortIn 30 = .ok (.iload_n 2, 1) := by decide +kernel
theorem dX10_sortIn_31 : decode cX10_sortIn 31 = .ok (.if_icmp .le 23, 3) := by decide +kernel
theorem dX10_sortIn_34 : decode cX10_sortIn 34 = .ok (.aload_n 0, 1) := by decide +kernel
theorem dX10_sortIn_35 : decode cX10_sortIn 35 = .ok (.getfield 32, 3) := by decide +kernel
theorem dX10_sortIn_38 : decode cX10_sortIn 38 = .ok (.iload_n 3, 1) := by decide +kernel
theorem dX10_sortIn_39 : decode cX10_sortIn 39 = .ok (.aload_n 0, 1) := by decide +kernel
theorem dX10_sortIn_40 : decode cX10_sortIn 40 = .ok (.getfield 32, 3) := by decide +kernel
theorem dX10_sortIn_43 : decode cX10_sortIn 43 = .ok (.iload_n 3, 1) := by decide +kernel
theorem dX10_sortIn_44 : decode cX10_sortIn 44 = .ok (.iconst 1, 1) := by decide +kernel
theorem dX10_sortIn_45 : decode cX10_sortIn 45 = .ok (.isub, 1) := by decide +kernel
theorem dX10_sortIn_46 : decode cX10_sortIn 46 = .ok (.iaload, 1) := by decide +kernel
theorem dX10_sortIn_47 : decode cX10_sortIn 47 = .ok (.iastore, 1) := by decide +kernel
theorem dX10_sortIn_48 : decode cX10_sortIn 48 = .ok (.iinc 3 (-1), 3) := by decide +kernel
theorem dX10_sortIn_51 : decode cX10_sortIn 51 = .ok (.goto (-38), 3) := by decide +kernel
theorem dX10_sortIn_54 : decode cX10_sortIn 54 = .ok (.aload_n 0, 1) := by decide +kernel
theorem dX10_sortIn_55 : decode cX10_sortIn 55 = .ok (.getfield 32, 3) := by decide +kernel
theorem dX10_sortIn_58 : decode cX10_sortIn 58 = .ok (.iload_n 3, 1) := by decide +kernel
theorem dX10_sortIn_59 : decode cX10_sortIn 59 = .ok (.iload_n 2, 1) := by decide +kernel
theorem dX10_sortIn_60 : decode cX10_sortIn 60 = .ok (.iastore, 1) := by decide +kernel
theorem dX10_sortIn_61 : decode cX10_sortIn 61 = .ok (.aload_n 0, 1) := by decide +kernel
theorem dX10_sortIn_62 : decode cX10_sortIn 62 = .ok (.getfield 25, 3) := by decide +kernel
theorem dX10_sortIn_65 : decode cX10_sortIn 65 = .ok (.iload_n 1, 1) := by decide +kernel
theorem dX10_sortIn_66 : decode cX10_sortIn 66 = .ok (.dup2, 1) := by decide +kernel
theorem dX10_sortIn_67 : decode cX10_sortIn 67 = .ok (.iaload, 1) := by decide +kernel
theorem dX10_sortIn_68 : decode cX10_sortIn 68 = .ok (.iconst 1, 1) := by decide +kernel
theorem dX10_sortIn_69 : decode cX10_sortIn 69 = .ok (.iadd, 1) := by decide +kernel
theorem dX10_sortIn_70 : decode cX10_sortIn 70 = .ok (.iastore, 1) := by decide +kernel
theorem dX10_sortIn_71 : decode cX10_sortIn 71 = .ok (.return_, 1) := by decide +kernel
theorem dX10_lets_0 : decode cX10_lets 0 = .ok (.iload_n 2, 1) := by decide +kernel
theorem dX10_lets_1 : decode cX10_lets 1 = .ok (.aload_n 0, 1) := by decide +kernel
theorem dX10_lets_2 : decode cX10_lets 2 = .ok (.getfield 16, 3) := by decide +kernel
theorem dX10_lets_5 : decode cX10_lets 5 = .ok (.iload_n 1, 1) := by decide +kernel
theorem dX10_lets_6 : decode cX10_lets 6 = .ok (.iaload, 1) := by decide +kernel
theorem dX10_lets_7 : decode cX10_lets 7 = .ok (.aload_n 0, 1) := by decide +kernel
theorem dX10_lets_8 : decode cX10_lets 8 = .ok (.getfield 19, 3) := by decide +kernel
theorem dX10_lets_11 : decode cX10_lets 11 = .ok (.iload_n 1, 1) := by decide +kernel
theorem dX10_lets_12 : decode cX10_lets 12 = .ok (.iaload, 1) := by decide +kernel
theorem dX10_lets_13 : decode cX10_lets 13 = .ok (.invokestatic 114, 3) := by decide +kernel
theorem dX10_lets_16 : decode cX10_lets 16 = .ok (.istore_n 3, 1) := by decide +kernel
theorem dX10_lets_17 : decode cX10_lets 17 = .ok (.aload_n 0, 1) := by decide +kernel
theorem dX10_lets_18 : decode cX10_lets 18 = .ok (.getfield 13, 3) := by decide +kernel
theorem dX10_lets_21 : decode cX10_lets 21 = .ok (.iload_n 1, 1) := by decide +kernel
theorem dX10_lets_22 : decode cX10_lets 22 = .ok (.iaload, 1) := by decide +kernel
theorem dX10_lets_23 : decode cX10_lets 23 = .ok (.tableswitch 202 1 9 #[49, 202, 51, 202, 70, 101, 202, 132, 171], 49) := by decide +kernel
theorem dX10_lets_72 : decode cX10_lets 72 = .ok (.iload_n 3, 1) := by decide +kernel
theorem dX10_lets_73 : decode cX10_lets 73 = .ok (.ireturn, 1) := by decide +kernel
theorem dX10_lets_74 : decode cX10_lets 74 = .ok (.aload_n 0, 1) := by decide +kernel
theorem dX10_lets_75 : decode cX10_lets 75 = .ok (.iload_n 1, 1) := by decide +kernel
theorem dX10_lets_76 : decode cX10_lets 76 = .ok (.iload_n 2, 1) := by decide +kernel
theorem dX10_lets_77 : decode cX10_lets 77 = .ok (.invokevirtual 117, 3) := by decide +kernel
theorem dX10_lets_80 : decode cX10_lets 80 = .ok (.ifCond .eq 5, 3) := by decide +kernel
theorem dX10_lets_83 : decode cX10_lets 83 = .ok (.iconst 0, 1) := by decide +kernel
theorem dX10_lets_84 : decode cX10_lets 84 = .ok (.ireturn, 1) := by decide +kernel
theorem dX10_lets_85 : decode cX10_lets 85 = .ok (.aload_n 0, 1) := by decide +kernel
theorem dX10_lets_86 : decode cX10_lets 86 = .ok (.iload_n 1, 1) := by decide +kernel
theorem dX10_lets_87 : decode cX10_lets 87 = .ok (.iload_n 2, 1) := by decide +kernel
theorem dX10_lets_88 : decode cX10_lets 88 = .ok (.invokevirtual 121, 3) := by decide +kernel
theorem dX10_lets_91 : decode cX10_lets 91 = .ok (.iconst 1, 1) := by decide +kernel
theorem dX10_lets_92 : decode cX10_lets 92 = .ok (.ireturn, 1) := by decide +kernel
theorem dX10_lets_93 : decode cX10_lets 93 = .ok (.aload_n 0, 1) := by decide +kernel
theorem dX10_lets_94 : decode cX10_lets 94 = .ok (.getfield 25, 3) := by decide +kernel
theorem dX10_lets_97 : decode cX10_lets 97 = .ok (.iload_n 1, 1) := by decide +kernel
theorem dX10_lets_98 : decode cX10_lets 98 = .ok (.dup2, 1) := by decide +kernel
theorem dX10_lets_99 : decode cX10_lets 99 = .ok (.iaload, 1) := by decide +kernel
theorem dX10_lets_100 : decode cX10_lets 100 = .ok (.iconst 1, 1) := by decide +kernel
theorem dX10_lets_101 : decode cX10_lets 101 = .ok (.iadd, 1) := by decide +kernel
theorem dX10_lets_102 : decode cX10_lets 102 = .ok (.iastore, 1) := by decide +kernel
theorem dX10_lets_103 : decode cX10_lets 103 = .ok (.aload_n 0, 1) := by decide +kernel
theorem dX10_lets_104 : decode cX10_lets 104 = .ok (.getfield 25, 3) := by decide +kernel
theorem dX10_lets_107 : decode cX10_lets 107 = .ok (.iload_n 1, 1) := by decide +kernel
theorem dX10_lets_108 : decode cX10_lets 108 = .ok (.iaload, 1) := by decide +kernel
theorem dX10_lets_109 : decode cX10_lets 109 = .ok (.aload_n 0, 1) := by decide +kernel
theorem dX10_lets_110 : decode cX10_lets 110 = .ok (.getfield 19, 3) := by decide +kernel
theorem dX10_lets_113 : decode cX10_lets 113 = .ok (.iload_n 1, 1) := by decide +kernel
theorem dX10_lets_114 : decode cX10_lets 114 = .ok (.iaload, 1) := by decide +kernel
theorem dX10_lets_115 : decode cX10_lets 115 = .ok (.if_icmp .gt 7, 3) := by decide +kernel
theorem dX10_lets_118 : decode cX10_lets 118 = .ok (.iconst 1, 1) := by decide +kernel
theorem dX10_lets_119 : decode cX10_lets 119 = .ok (.goto 4, 3) := by decide +kernel
theorem dX10_lets_122 : decode cX10_lets 122 = .ok (.iconst 0, 1) := by decide +kernel
theorem dX10_lets_123 : decode cX10_lets 123 = .ok (.ireturn, 1) := by decide +kernel
theorem dX10_lets_124 : decode cX10_lets 124 = .ok (.aload_n 0, 1) := by decide +kernel
theorem dX10_lets_125 : decode cX10_lets 125 = .ok (.getfield 25, 3) := by decide +kernel
theorem dX10_lets_128 : decode cX10_lets 128 = .ok (.iload_n 1, 1) := by decide +kernel
theorem dX10_lets_129 : decode cX10_lets 129 = .ok (.dup2, 1) := by decide +kernel
theorem dX10_lets_130 : decode cX10_lets 130 = .ok (.iaload, 1) := by decide +kernel
theorem dX10_lets_131 : decode cX10_lets 131 = .ok (.iconst 1, 1) := by decide +kernel
theorem dX10_lets_132 : decode cX10_lets 132 = .ok (.iadd, 1) := by decide +kernel
theorem dX10_lets_133 : decode cX10_lets 133 = .ok (.iastore, 1) := by decide +kernel
theorem dX10_lets_134 : decode cX10_lets 134 = .ok (.aload_n 0, 1) := by decide +kernel
theorem dX10_lets_135 : decode cX10_lets 135 = .ok (.getfield 25, 3) := by decide +kernel
theorem dX10_lets_138 : decode cX10_lets 138 = .ok (.iload_n 1, 1) := by decide +kernel
theorem dX10_lets_139 : decode cX10_lets 139 = .ok (.iaload, 1) := by decide +kernel
theorem dX10_lets_140 : decode cX10_lets 140 = .ok (.aload_n 0, 1) := by decide +kernel
theorem dX10_lets_141 : decode cX10_lets 141 = .ok (.getfield 19, 3) := by decide +kernel
theorem dX10_lets_144 : decode cX10_lets 144 = .ok (.iload_n 1, 1) := by decide +kernel
theorem dX10_lets_145 : decode cX10_lets 145 = .ok (.iaload, 1) := by decide +kernel
theorem dX10_lets_146 : decode cX10_lets 146 = .ok (.if_icmp .le 7, 3) := by decide +kernel
theorem dX10_lets_149 : decode cX10_lets 149 = .ok (.iconst 1, 1) := by decide +kernel
theorem dX10_lets_150 : decode cX10_lets 150 = .ok (.goto 4, 3) := by decide +kernel
theorem dX10_lets_153 : decode cX10_lets 153 = .ok (.iconst 0, 1) := by decide +kernel
theorem dX10_lets_154 : decode cX10_lets 154 = .ok (.ireturn, 1) := by decide +kernel
theorem dX10_lets_155 : decode cX10_lets 155 = .ok (.aload_n 0, 1) := by decide +kernel
theorem dX10_lets_156 : decode cX10_lets 156 = .ok (.getfield 28, 3) := by decide +kernel
theorem dX10_lets_159 : decode cX10_lets 159 = .ok (.iload_n 1, 1) := by decide +kernel
theorem dX10_lets_160 : decode cX10_lets 160 = .ok (.aload_n 0, 1) := by decide +kernel
theorem dX10_lets_161 : decode cX10_lets 161 = .ok (.getfield 28, 3) := by decide +kernel
theorem dX10_lets_164 : decode cX10_lets 164 = .ok (.iload_n 1, 1) := by decide +kernel
theorem dX10_lets_165 : decode cX10_lets 165 = .ok (.baload, 1) := by decide +kernel
theorem dX10_lets_166 : decode cX10_lets 166 = .ok (.ifCond .ne 7, 3) := by decide +kernel
theorem dX10_lets_169 : decode cX10_lets 169 = .ok (.iload_n 3, 1) := by decide +kernel
theorem dX10_lets_170 : decode cX10_lets 170 = .ok (.ifCond .ne 7, 3) := by decide +kernel
theorem dX10_lets_173 : decode cX10_lets 173 = .ok (.iconst 1, 1) := by decide +kernel
theorem dX10_lets_174 : decode cX10_lets 174 = .ok (.goto 4, 3) := by decide +kernel
theorem dX10_lets_177 : decode cX10_lets 177 = .ok (.iconst 0, 1) := by decide +kernel
theorem dX10_lets_178 : decode cX10_lets 178 = .ok (.bastore, 1) := by decide +kernel
theorem dX10_lets_179 : decode cX10_lets 179 = .ok (.aload_n 0, 1) := by decide +kernel
theorem dX10_lets_180 : decode cX10_lets 180 = .ok (.getfield 28, 3) := by decide +kernel
theorem dX10_lets_183 : decode cX10_lets 183 = .ok (.iload_n 1, 1) := by decide +kernel
theorem dX10_lets_184 : decode cX10_lets 184 = .ok (.baload, 1) := by decide +kernel
theorem dX10_lets_185 : decode cX10_lets 185 = .ok (.ifCond .ne 7, 3) := by decide +kernel
theorem dX10_lets_188 : decode cX10_lets 188 = .ok (.iconst 1, 1) := by decide +kernel
theorem dX10_lets_189 : decode cX10_lets 189 = .ok (.goto 4, 3) := by decide +kernel
theorem dX10_lets_192 : decode cX10_lets 192 = .ok (.iconst 0, 1) := by decide +kernel
theorem dX10_lets_193 : decode cX10_lets 193 = .ok (.ireturn, 1) := by decide +kernel
theorem dX10_lets_194 : decode cX10_lets 194 = .ok (.aload_n 0, 1) := by decide +kernel
theorem dX10_lets_195 : decode cX10_lets 195 = .ok (.getfield 28, 3) := by decide +kernel
theorem dX10_lets_198 : decode cX10_lets 198 = .ok (.iload_n 1, 1) := by decide +kernel
theorem dX10_lets_199 : decode cX10_lets 199 = .ok (.aload_n 0, 1) := by decide +kernel
theorem dX10_lets_200 : decode cX10_lets 200 = .ok (.getfield 28, 3) := by decide +kernel
theorem dX10_lets_203 : decode cX10_lets 203 = .ok (.iload_n 1, 1) := by decide +kernel
theorem dX10_lets_204 : decode cX10_lets 204 = .ok (.baload, 1) := by decide +kernel
theorem dX10_lets_205 : decode cX10_lets 205 = .ok (.ifCond .ne 7, 3) := by decide +kernel
theorem dX10_lets_208 : decode cX10_lets 208 = .ok (.iload_n 3, 1) := by decide +kernel
theorem dX10_lets_209 : decode cX10_lets 209 = .ok (.ifCond .ne 7, 3) := by decide +kernel
theorem dX10_lets_212 : decode cX10_lets 212 = .ok (.iconst 1, 1) := by decide +kernel
theorem dX10_lets_213 : decode cX10_lets 213 = .ok (.goto 4, 3) := by decide +kernel
theorem dX10_lets_216 : decode cX10_lets 216 = .ok (.iconst 0, 1) := by decide +kernel
theorem dX10_lets_217 : decode cX10_lets 217 = .ok (.bastore, 1) := by decide +kernel
theorem dX10_lets_218 : decode cX10_lets 218 = .ok (.aload_n 0, 1) := by decide +kernel
theorem dX10_lets_219 : decode cX10_lets 219 = .ok (.getfield 28, 3) := by decide +kernel
theorem dX10_lets_222 : decode cX10_lets 222 = .ok (.iload_n 1, 1) := by decide +kernel
theorem dX10_lets_223 : decode cX10_lets 223 = .ok (.baload, 1) := by decide +kernel
theorem dX10_lets_224 : decode cX10_lets 224 = .ok (.ireturn, 1) := by decide +kernel
theorem dX10_lets_225 : decode cX10_lets 225 = .ok (.iconst 1, 1) := by decide +kernel
theorem dX10_lets_226 : decode cX10_lets 226 = .ok (.ireturn, 1) := by decide +kernel
theorem dX10_isEnd_0 : decode cX10_isEnd 0 = .ok (.iload_n 0, 1) := by decide +kernel
theorem dX10_isEnd_1 : decode cX10_isEnd 1 = .ok (.ifCond .lt 9, 3) := by decide +kernel
theorem dX10_isEnd_4 : decode cX10_isEnd 4 = .ok (.iload_n 0, 1) := by decide +kernel
theorem dX10_isEnd_5 : decode cX10_isEnd 5 = .ok (.bipush 10, 2) := by decide +kernel
theorem dX10_isEnd_7 : decode cX10_isEnd 7 = .ok (.if_icmp .le 5, 3) := by decide +kernel
theorem dX10_isEnd_10 : decode cX10_isEnd 10 = .ok (.iconst 0, 1) := by decide +kernel
theorem dX10_isEnd_11 : decode cX10_isEnd 11 = .ok (.ireturn, 1) := by decide +kernel
theorem dX10_isEnd_12 : decode cX10_isEnd 12 = .ok (.iload_n 0, 1) := by decide +kernel
theorem dX10_isEnd_13 : decode cX10_isEnd 13 = .ok (.iconst 5, 1) := by decide +kernel
theorem dX10_isEnd_14 : decode cX10_isEnd 14 = .ok (.if_icmp .lt 26, 3) := by decide +kernel
theorem dX10_isEnd_17 : decode cX10_isEnd 17 = .ok (.iload_n 0, 1) := by decide +kernel
theorem dX10_isEnd_18 : decode cX10_isEnd 18 = .ok (.bipush 7, 2) := by decide +kernel
theorem dX10_isEnd_20 : decode cX10_isEnd 20 = .ok (.if_icmp .gt 20, 3) := by decide +kernel
theorem dX10_isEnd_23 : decode cX10_isEnd 23 = .ok (.iload_n 1, 1) := by decide +kernel
theorem dX10_isEnd_24 : decode cX10_isEnd 24 = .ok (.ifCond .lt 12, 3) := by decide +kernel
theorem dX10_isEnd_27 : decode cX10_isEnd 27 = .ok (.iload_n 1, 1) := by decide +kernel
theorem dX10_isEnd_28 : decode cX10_isEnd 28 = .ok (.iconst 4, 1) := by decide +kernel
theorem dX10_isEnd_29 : decode cX10_isEnd 29 = .ok (.if_icmp .gt 7, 3) := by decide +kernel
theorem dX10_isEnd_32 : decode cX10_isEnd 32 = .ok (.iconst 1, 1) := by decide +kernel
theorem dX10_isEnd_33 : decode cX10_isEnd 33 = .ok (.goto 52, 3) := by decide +kernel
theorem dX10_isEnd_36 : decode cX10_isEnd 36 = .ok (.iconst 0, 1) := by decide +kernel
theorem dX10_isEnd_37 : decode cX10_isEnd 37 = .ok (.goto 48, 3) := by decide +kernel
theorem dX10_isEnd_40 : decode cX10_isEnd 40 = .ok (.iload_n 0, 1) := by decide +kernel
theorem dX10_isEnd_41 : decode cX10_isEnd 41 = .ok (.bipush 8, 2) := by decide +kernel
theorem dX10_isEnd_43 : decode cX10_isEnd 43 = .ok (.if_icmp .ne 20, 3) := by decide +kernel
theorem dX10_isEnd_46 : decode cX10_isEnd 46 = .ok (.iload_n 1, 1) := by decide +kernel
theorem dX10_isEnd_47 : decode cX10_isEnd 47 = .ok (.ifCond .lt 12, 3) := by decide +kernel
theorem dX10_isEnd_50 : decode cX10_isEnd 50 = .ok (.iload_n 1, 1) := by decide +kernel
theorem dX10_isEnd_51 : decode cX10_isEnd 51 = .ok (.iconst 2, 1) := by decide +kernel
theorem dX10_isEnd_52 : decode cX10_isEnd 52 = .ok (.if_icmp .gt 7, 3) := by decide +kernel
theorem dX10_isEnd_55 : decode cX10_isEnd 55 = .ok (.iconst 1, 1) := by decide +kernel
theorem dX10_isEnd_56 : decode cX10_isEnd 56 = .ok (.goto 29, 3) := by decide +kernel
theorem dX10_isEnd_59 : decode cX10_isEnd 59 = .ok (.iconst 0, 1) := by decide +kernel
theorem dX10_isEnd_60 : decode cX10_isEnd 60 = .ok (.goto 25, 3) := by decide +kernel
theorem dX10_isEnd_63 : decode cX10_isEnd 63 = .ok (.iload_n 0, 1) := by decide +kernel
theorem dX10_isEnd_64 : decode cX10_isEnd 64 = .ok (.bipush 10, 2) := by decide +kernel
theorem dX10_isEnd_66 : decode cX10_isEnd 66 = .ok (.if_icmp .ne 14, 3) := by decide +kernel
theorem dX10_isEnd_69 : decode cX10_isEnd 69 = .ok (.iload_n 2, 1) := by decide +kernel
theorem dX10_isEnd_70 : decode cX10_isEnd 70 = .ok (.iconst 1, 1) := by decide +kernel
theorem dX10_isEnd_71 : decode cX10_isEnd 71 = .ok (.if_icmp .lt 13, 3) := by decide +kernel
theorem dX10_isEnd_74 : decode cX10_isEnd 74 = .ok (.iload_n 2, 1) := by decide +kernel
theorem dX10_isEnd_75 : decode cX10_isEnd 75 = .ok (.bipush 8, 2) := by decide +kernel
theorem dX10_isEnd_77 : decode cX10_isEnd 77 = .ok (.if_icmp .gt 7, 3) := by decide +kernel
theorem dX10_isEnd_80 : decode cX10_isEnd 80 = .ok (.iconst 1, 1) := by decide +kernel
theorem dX10_isEnd_81 : decode cX10_isEnd 81 = .ok (.goto 4, 3) := by decide +kernel
theorem dX10_isEnd_84 : decode cX10_isEnd 84 = .ok (.iconst 0, 1) := by decide +kernel
theorem dX10_isEnd_85 : decode cX10_isEnd 85 = .ok (.ireturn, 1) := by decide +kernel
theorem dX10_beginEnd_0 : decode cX10_beginEnd 0 = .ok (.aload_n 0, 1) := by decide +kernel
theorem dX10_beginEnd_1 : decode cX10_beginEnd 1 = .ok (.iload_n 1, 1) := by decide +kernel
theorem dX10_beginEnd_2 : decode cX10_beginEnd 2 = .ok (.putfield 125, 3) := by decide +kernel
theorem dX10_beginEnd_5 : decode cX10_beginEnd 5 = .ok (.aload_n 0, 1) := by decide +kernel
theorem dX10_beginEnd_6 : decode cX10_beginEnd 6 = .ok (.iload_n 2, 1) := by decide +kernel
theorem dX10_beginEnd_7 : decode cX10_beginEnd 7 = .ok (.putfield 128, 3) := by decide +kernel
theorem dX10_beginEnd_10 : decode cX10_beginEnd 10 = .ok (.aload_n 0, 1) := by decide +kernel
theorem dX10_beginEnd_11 : decode cX10_beginEnd 11 = .ok (.iload_n 3, 1) := by decide +kernel
theorem dX10_beginEnd_12 : decode cX10_beginEnd 12 = .ok (.putfield 131, 3) := by decide +kernel
theorem dX10_beginEnd_15 : decode cX10_beginEnd 15 = .ok (.aload_n 0, 1) := by decide +kernel
theorem dX10_beginEnd_16 : decode cX10_beginEnd 16 = .ok (.iconst 0, 1) := by decide +kernel
theorem dX10_beginEnd_17 : decode cX10_beginEnd 17 = .ok (.putfield 134, 3) := by decide +kernel
theorem dX10_beginEnd_20 : decode cX10_beginEnd 20 = .ok (.aload_n 0, 1) := by decide +kernel
theorem dX10_beginEnd_21 : decode cX10_beginEnd 21 = .ok (.iconst 0, 1) := by decide +kernel
theorem dX10_beginEnd_22 : decode cX10_beginEnd 22 = .ok (.putfield 137, 3) := by decide +kernel
theorem dX10_beginEnd_25 : decode cX10_beginEnd 25 = .ok (.aload_n 0, 1) := by decide +kernel
theorem dX10_beginEnd_26 : decode cX10_beginEnd 26 = .ok (.iload_n 1, 1) := by decide +kernel
theorem dX10_beginEnd_27 : decode cX10_beginEnd 27 = .ok (.bipush 8, 2) := by decide +kernel
theorem dX10_beginEnd_29 : decode cX10_beginEnd 29 = .ok (.if_icmp .ne 7, 3) := by decide +kernel
theorem dX10_beginEnd_32 : decode cX10_beginEnd 32 = .ok (.iload_n 3, 1) := by decide +kernel
theorem dX10_beginEnd_33 : decode cX10_beginEnd 33 = .ok (.goto 20, 3) := by decide +kernel
theorem dX10_beginEnd_36 : decode cX10_beginEnd 36 = .ok (.iload_n 1, 1) := by decide +kernel
theorem dX10_beginEnd_37 : decode cX10_beginEnd 37 = .ok (.bipush 6, 2) := by decide +kernel
theorem dX10_beginEnd_39 : decode cX10_beginEnd 39 = .ok (.if_icmp .eq 9, 3) := by decide +kernel
theorem dX10_beginEnd_42 : decode cX10_beginEnd 42 = .ok (.iload_n 1, 1) := by decide +kernel
theorem dX10_beginEnd_43 : decode cX10_beginEnd 43 = .ok (.bipush 7, 2) := by decide +kernel
theorem dX10_beginEnd_45 : decode cX10_beginEnd 45 = .ok (.if_icmp .ne 7, 3) := by decide +kernel
theorem dX10_beginEnd_48 : decode cX10_beginEnd 48 = .ok (.iconst 1, 1) := by decide +kernel
theorem dX10_beginEnd_49 : decode cX10_beginEnd 49 = .ok (.goto 4, 3) := by decide +kernel
theorem dX10_beginEnd_52 : decode cX10_beginEnd 52 = .ok (.iconst 0, 1) := by decide +kernel
theorem dX10_beginEnd_53 : decode cX10_beginEnd 53 = .ok (.putfield 140, 3) := by decide +kernel
theorem dX10_beginEnd_56 : decode cX10_beginEnd 56 = .ok (.iconst 0, 1) := by decide +kernel
theorem dX10_beginEnd_57 : decode cX10_beginEnd 57 = .ok (.istore 4, 2) := by decide +kernel
theorem dX10_beginEnd_59 : decode cX10_beginEnd 59 = .ok (.iload 4, 2) := by decide +kernel
theorem dX10_beginEnd_61 : decode cX10_beginEnd 61 = .ok (.aload_n 0, 1) := by decide +kernel
theorem dX10_beginEnd_62 : decode cX10_beginEnd 62 = .ok (.getfield 107, 3) := by decide +kernel
theorem dX10_beginEnd_65 : decode cX10_beginEnd 65 = .ok (.if_icmp .ge 33, 3) := by decide +kernel
theorem dX10_beginEnd_68 : decode cX10_beginEnd 68 = .ok (.aload_n 0, 1) := by decide +kernel
theorem dX10_beginEnd_69 : decode cX10_beginEnd 69 = .ok (.getfield 22, 3) := by decide +kernel
theorem dX10_beginEnd_72 : decode cX10_beginEnd 72 = .ok (.iload 4, 2) := by decide +kernel
theorem dX10_beginEnd_74 : decode cX10_beginEnd 74 = .ok (.iconst 0, 1) := by decide +kernel
theorem dX10_beginEnd_75 : decode cX10_beginEnd 75 = .ok (.iastore, 1) := by decide +kernel
theorem dX10_beginEnd_76 : decode cX10_beginEnd 76 = .ok (.aload_n 0, 1) := by decide +kernel
theorem dX10_beginEnd_77 : decode cX10_beginEnd 77 = .ok (.getfield 25, 3) := by decide +kernel
theorem dX10_beginEnd_80 : decode cX10_beginEnd 80 = .ok (.iload 4, 2) := by decide +kernel
theorem dX10_beginEnd_82 : decode cX10_beginEnd 82 = .ok (.iconst 0, 1) := by decide +kernel
theorem dX10_beginEnd_83 : decode cX10_beginEnd 83 = .ok (.iastore, 1) := by decide +kernel
theorem dX10_beginEnd_84 : decode cX10_beginEnd 84 = .ok (.aload_n 0, 1) := by decide +kernel
theorem dX10_beginEnd_85 : decode cX10_beginEnd 85 = .ok (.getfield 28, 3) := by decide +kernel
theorem dX10_beginEnd_88 : decode cX10_beginEnd 88 = .ok (.iload 4, 2) := by decide +kernel
theorem dX10_beginEnd_90 : decode cX10_beginEnd 90 = .ok (.iconst 0, 1) := by decide +kernel
theorem dX10_beginEnd_91 : decode cX10_beginEnd 91 = .ok (.bastore, 1) := by decide +kernel
theorem dX10_beginEnd_92 : decode cX10_beginEnd 92 = .ok (.iinc 4 1, 3) := by decide +kernel
theorem dX10_beginEnd_95 : decode cX10_beginEnd 95 = .ok (.goto (-36), 3) := by decide +kernel
theorem dX10_beginEnd_98 : decode cX10_beginEnd 98 = .ok (.iconst 0, 1) := by decide +kernel
theorem dX10_beginEnd_99 : decode cX10_beginEnd 99 = .ok (.istore 4, 2) := by decide +kernel
theorem dX10_beginEnd_101 : decode cX10_beginEnd 101 = .ok (.iload 4, 2) := by decide +kernel
theorem dX10_beginEnd_103 : decode cX10_beginEnd 103 = .ok (.bipush 8, 2) := by decide +kernel
theorem dX10_beginEnd_105 : decode cX10_beginEnd 105 = .ok (.if_icmp .ge 23, 3) := by decide +kernel
theorem dX10_beginEnd_108 : decode cX10_beginEnd 108 = .ok (.iload_n 1, 1) := by decide +kernel
theorem dX10_beginEnd_109 : decode cX10_beginEnd 109 = .ok (.bipush 10, 2) := by decide +kernel
theorem dX10_beginEnd_111 : decode cX10_beginEnd 111 = .ok (.if_icmp .ne 17, 3) := by decide +kernel
theorem dX10_beginEnd_114 : decode cX10_beginEnd 114 = .ok (.aload_n 0, 1) := by decide +kernel
theorem dX10_beginEnd_115 : decode cX10_beginEnd 115 = .ok (.getfield 44, 3) := by decide +kernel
theorem dX10_beginEnd_118 : decode cX10_beginEnd 118 = .ok (.iload 4, 2) := by decide +kernel
theorem dX10_beginEnd_120 : decode cX10_beginEnd 120 = .ok (.iconst 0, 1) := by decide +kernel
theorem dX10_beginEnd_121 : decode cX10_beginEnd 121 = .ok (.iastore, 1) := by decide +kernel
theorem dX10_beginEnd_122 : decode cX10_beginEnd 122 = .ok (.iinc 4 1, 3) := by decide +kernel
theorem dX10_beginEnd_125 : decode cX10_beginEnd 125 = .ok (.goto (-24), 3) := by decide +kernel
theorem dX10_beginEnd_128 : decode cX10_beginEnd 128 = .ok (.aload_n 0, 1) := by decide +kernel
theorem dX10_beginEnd_129 : decode cX10_beginEnd 129 = .ok (.iconst 1, 1) := by decide +kernel
theorem dX10_beginEnd_130 : decode cX10_beginEnd 130 = .ok (.putfield 92, 3) := by decide +kernel
theorem dX10_beginEnd_133 : decode cX10_beginEnd 133 = .ok (.aload_n 0, 1) := by decide +kernel
theorem dX10_beginEnd_134 : decode cX10_beginEnd 134 = .ok (.iconst 0, 1) := by decide +kernel
theorem dX10_beginEnd_135 : decode cX10_beginEnd 135 = .ok (.putfield 143, 3) := by decide +kernel
theorem dX10_beginEnd_138 : decode cX10_beginEnd 138 = .ok (.aload_n 0, 1) := by decide +kernel
theorem dX10_beginEnd_139 : decode cX10_beginEnd 139 = .ok (.iconst 0, 1) := by decide +kernel
theorem dX10_beginEnd_140 : decode cX10_beginEnd 140 = .ok (.putfield 146, 3) := by decide +kernel
theorem dX10_beginEnd_143 : decode cX10_beginEnd 143 = .ok (.return_, 1) := by decide +kernel
theorem dX10_asks_0 : decode cX10_asks 0 = .ok (.iload_n 1, 1) := by decide +kernel
theorem dX10_asks_1 : decode cX10_asks 1 = .ok (.aload_n 0, 1) := by decide +kernel
theorem dX10_asks_2 : decode cX10_asks 2 = .ok (.getfield 128, 3) := by decide +kernel
theorem dX10_asks_5 : decode cX10_asks 5 = .ok (.aload_n 0, 1) := by decide +kernel
theorem dX10_asks_6 : decode cX10_asks 6 = .ok (.getfield 131, 3) := by decide +kernel
theorem dX10_asks_9 : decode cX10_asks 9 = .ok (.invokestatic 114, 3) := by decide +kernel
theorem dX10_asks_12 : decode cX10_asks 12 = .ok (.istore_n 2, 1) := by decide +kernel
theorem dX10_asks_13 : decode cX10_asks 13 = .ok (.aload_n 0, 1) := by decide +kernel
theorem dX10_asks_14 : decode cX10_asks 14 = .ok (.getfield 125, 3) := by decide +kernel
theorem dX10_asks_17 : decode cX10_asks 17 = .ok (.bipush 6, 2) := by decide +kernel
theorem dX10_asks_19 : decode cX10_asks 19 = .ok (.if_icmp .ne 10, 3) := by decide +kernel
theorem dX10_asks_22 : decode cX10_asks 22 = .ok (.iload_n 2, 1) := by decide +kernel
theorem dX10_asks_23 : decode cX10_asks 23 = .ok (.ifCond .eq 11, 3) := by decide +kernel
theorem dX10_asks_26 : decode cX10_asks 26 = .ok (.goto 7, 3) := by decide +kernel
theorem dX10_asks_29 : decode cX10_asks 29 = .ok (.iload_n 2, 1) := by decide +kernel
theorem dX10_asks_30 : decode cX10_asks 30 = .ok (.ifCond .ne 4, 3) := by decide +kernel
theorem dX10_asks_33 : decode cX10_asks 33 = .ok (.return_, 1) := by decide +kernel
theorem dX10_asks_34 : decode cX10_asks 34 = .ok (.aload_n 0, 1) := by decide +kernel
theorem dX10_asks_35 : decode cX10_asks 35 = .ok (.iconst 1, 1) := by decide +kernel
theorem dX10_asks_36 : decode cX10_asks 36 = .ok (.putfield 137, 3) := by decide +kernel
theorem dX10_asks_39 : decode cX10_asks 39 = .ok (.aload_n 0, 1) := by decide +kernel
theorem dX10_asks_40 : decode cX10_asks 40 = .ok (.aload_n 0, 1) := by decide +kernel
theorem dX10_asks_41 : decode cX10_asks 41 = .ok (.getfield 125, 3) := by decide +kernel
theorem dX10_asks_44 : decode cX10_asks 44 = .ok (.iconst 5, 1) := by decide +kernel
theorem dX10_asks_45 : decode cX10_asks 45 = .ok (.if_icmp .ne 7, 3) := by decide +kernel
theorem dX10_asks_48 : decode cX10_asks 48 = .ok (.iconst 1, 1) := by decide +kernel
theorem dX10_asks_49 : decode cX10_asks 49 = .ok (.goto 4, 3) := by decide +kernel
theorem dX10_asks_52 : decode cX10_asks 52 = .ok (.iconst 0, 1) := by decide +kernel
theorem dX10_asks_53 : decode cX10_asks 53 = .ok (.putfield 140, 3) := by decide +kernel
theorem dX10_asks_56 : decode cX10_asks 56 = .ok (.return_, 1) := by decide +kernel
theorem dX10_tally_0 : decode cX10_tally 0 = .ok (.iload_n 1, 1) := by decide +kernel
theorem dX10_tally_1 : decode cX10_tally 1 = .ok (.aload_n 0, 1) := by decide +kernel
theorem dX10_tally_2 : decode cX10_tally 2 = .ok (.getfield 131, 3) := by decide +kernel
theorem dX10_tally_5 : decode cX10_tally 5 = .ok (.irem, 1) := by decide +kernel
theorem dX10_tally_6 : decode cX10_tally 6 = .ok (.istore_n 2, 1) := by decide +kernel
theorem dX10_tally_7 : decode cX10_tally 7 = .ok (.iload_n 2, 1) := by decide +kernel
theorem dX10_tally_8 : decode cX10_tally 8 = .ok (.ifCond .ge 12, 3) := by decide +kernel
theorem dX10_tally_11 : decode cX10_tally 11 = .ok (.iload_n 2, 1) := by decide +kernel
theorem dX10_tally_12 : decode cX10_tally 12 = .ok (.aload_n 0, 1) := by decide +kernel
theorem dX10_tally_13 : decode cX10_tally 13 = .ok (.getfield 131, 3) := by decide +kernel
theorem dX10_tally_16 : decode cX10_tally 16 = .ok (.iadd, 1) := by decide +kernel
theorem dX10_tally_17 : decode cX10_tally 17 = .ok (.goto 4, 3) := by decide +kernel
theorem dX10_tally_20 : decode cX10_tally 20 = .ok (.iload_n 2, 1) := by decide +kernel
theorem dX10_tally_21 : decode cX10_tally 21 = .ok (.istore_n 2, 1) := by decide +kernel
theorem dX10_tally_22 : decode cX10_tally 22 = .ok (.aload_n 0, 1) := by decide +kernel
theorem dX10_tally_23 : decode cX10_tally 23 = .ok (.dup, 1) := by decide +kernel
theorem dX10_tally_24 : decode cX10_tally 24 = .ok (.getfield 140, 3) := by decide +kernel
theorem dX10_tally_27 : decode cX10_tally 27 = .ok (.aload_n 0, 1) := by decide +kernel
theorem dX10_tally_28 : decode cX10_tally 28 = .ok (.getfield 44, 3) := by decide +kernel
theorem dX10_tally_31 : decode cX10_tally 31 = .ok (.iload_n 2, 1) := by decide +kernel
theorem dX10_tally_32 : decode cX10_tally 32 = .ok (.iaload, 1) := by decide +kernel
theorem dX10_tally_33 : decode cX10_tally 33 = .ok (.ifCond .ne 7, 3) := by decide +kernel
theorem dX10_tally_36 : decode cX10_tally 36 = .ok (.iconst 1, 1) := by decide +kernel
theorem dX10_tally_37 : decode cX10_tally 37 = .ok (.goto 4, 3) := by decide +kernel
theorem dX10_tally_40 : decode cX10_tally 40 = .ok (.iconst 0, 1) := by decide +kernel
theorem dX10_tally_41 : decode cX10_tally 41 = .ok (.iadd, 1) := by decide +kernel
theorem dX10_tally_42 : decode cX10_tally 42 = .ok (.putfield 140, 3) := by decide +kernel
theorem dX10_tally_45 : decode cX10_tally 45 = .ok (.aload_n 0, 1) := by decide +kernel
theorem dX10_tally_46 : decode cX10_tally 46 = .ok (.getfield 44, 3) := by decide +kernel
theorem dX10_tally_49 : decode cX10_tally 49 = .ok (.iload_n 2, 1) := by decide +kernel
theorem dX10_tally_50 : decode cX10_tally 50 = .ok (.dup2, 1) := by decide +kernel
theorem dX10_tally_51 : decode cX10_tally 51 = .ok (.iaload, 1) := by decide +kernel
theorem dX10_tally_52 : decode cX10_tally 52 = .ok (.iconst 1, 1) := by decide +kernel
theorem dX10_tally_53 : decode cX10_tally 53 = .ok (.iadd, 1) := by decide +kernel
theorem dX10_tally_54 : decode cX10_tally 54 = .ok (.iastore, 1) := by decide +kernel
theorem dX10_tally_55 : decode cX10_tally 55 = .ok (.return_, 1) := by decide +kernel
theorem dX10_reaches_0 : decode cX10_reaches 0 = .ok (.aload_n 0, 1) := by decide +kernel
theorem dX10_reaches_1 : decode cX10_reaches 1 = .ok (.getfield 134, 3) := by decide +kernel
theorem dX10_reaches_4 : decode cX10_reaches 4 = .ok (.ifCond .ne 7, 3) := by decide +kernel
theorem dX10_reaches_7 : decode cX10_reaches 7 = .ok (.iconst 1, 1) := by decide +kernel
theorem dX10_reaches_8 : decode cX10_reaches 8 = .ok (.goto 4, 3) := by decide +kernel
theorem dX10_reaches_11 : decode cX10_reaches 11 = .ok (.iconst 0, 1) := by decide +kernel
theorem dX10_reaches_12 : decode cX10_reaches 12 = .ok (.istore_n 2, 1) := by decide +kernel
theorem dX10_reaches_13 : decode cX10_reaches 13 = .ok (.aload_n 0, 1) := by decide +kernel
theorem dX10_reaches_14 : decode cX10_reaches 14 = .ok (.dup, 1) := by decide +kernel
theorem dX10_reaches_15 : decode cX10_reaches 15 = .ok (.getfield 134, 3) := by decide +kernel
theorem dX10_reaches_18 : decode cX10_reaches 18 = .ok (.iconst 1, 1) := by decide +kernel
theorem dX10_reaches_19 : decode cX10_reaches 19 = .ok (.iadd, 1) := by decide +kernel
theorem dX10_reaches_20 : decode cX10_reaches 20 = .ok (.putfield 134, 3) := by decide +kernel
theorem dX10_reaches_23 : decode cX10_reaches 23 = .ok (.aload_n 0, 1) := by decide +kernel
theorem dX10_reaches_24 : decode cX10_reaches 24 = .ok (.getfield 125, 3) := by decide +kernel
theorem dX10_reaches_27 : decode cX10_reaches 27 = .ok (.tableswitch 216 1 10 #[53, 66, 93, 120, 216, 216, 216, 144, 193, 208], 53) := by decide +kernel
theorem dX10_reaches_80 : decode cX10_reaches 80 = .ok (.aload_n 0, 1) := by decide +kernel
theorem dX10_reaches_81 : decode cX10_reaches 81 = .ok (.dup, 1) := by decide +kernel
theorem dX10_reaches_82 : decode cX10_reaches 82 = .ok (.getfield 140, 3) := by decide +kernel
theorem dX10_reaches_85 : decode cX10_reaches 85 = .ok (.iload_n 1, 1) := by decide +kernel
theorem dX10_reaches_86 : decode cX10_reaches 86 = .ok (.iadd, 1) := by decide +kernel
theorem dX10_reaches_87 : decode cX10_reaches 87 = .ok (.putfield 140, 3) := by decide +kernel
theorem dX10_reaches_90 : decode cX10_reaches 90 = .ok (.goto 182, 3) := by decide +kernel
theorem dX10_reaches_93 : decode cX10_reaches 93 = .ok (.aload_n 0, 1) := by decide +kernel
theorem dX10_reaches_94 : decode cX10_reaches 94 = .ok (.iload_n 2, 1) := by decide +kernel
theorem dX10_reaches_95 : decode cX10_reaches 95 = .ok (.ifCond .ne 11, 3) := by decide +kernel
theorem dX10_reaches_98 : decode cX10_reaches 98 = .ok (.iload_n 1, 1) := by decide +kernel
theorem dX10_reaches_99 : decode cX10_reaches 99 = .ok (.aload_n 0, 1) := by decide +kernel
theorem dX10_reaches_100 : decode cX10_reaches 100 = .ok (.getfield 140, 3) := by decide +kernel
theorem dX10_reaches_103 : decode cX10_reaches 103 = .ok (.if_icmp .ge 7, 3) := by decide +kernel
theorem dX10_reaches_106 : decode cX10_reaches 106 = .ok (.iload_n 1, 1) := by decide +kernel
theorem dX10_reaches_107 : decode cX10_reaches 107 = .ok (.goto 7, 3) := by decide +kernel
theorem dX10_reaches_110 : decode cX10_reaches 110 = .ok (.aload_n 0, 1) := by decide +kernel
theorem dX10_reaches_111 : decode cX10_reaches 111 = .ok (.getfield 140, 3) := by decide +kernel
theorem dX10_reaches_114 : decode cX10_reaches 114 = .ok (.putfield 140, 3) := by decide +kernel
theorem dX10_reaches_117 : decode cX10_reaches 117 = .ok (.goto 155, 3) := by decide +kernel
theorem dX10_reaches_120 : decode cX10_reaches 120 = .ok (.aload_n 0, 1) := by decide +kernel
theorem dX10_reaches_121 : decode cX10_reaches 121 = .ok (.iload_n 2, 1) := by decide +kernel
theorem dX10_reaches_122 : decode cX10_reaches 122 = .ok (.ifCond .ne 11, 3) := by decide +kernel
theorem dX10_reaches_125 : decode cX10_reaches 125 = .ok (.iload_n 1, 1) := by decide +kernel
theorem dX10_reaches_126 : decode cX10_reaches 126 = .ok (.aload_n 0, 1) := by decide +kernel
theorem dX10_reaches_127 : decode cX10_reaches 127 = .ok (.getfield 140, 3) := by decide +kernel
theorem dX10_reaches_130 : decode cX10_reaches 130 = .ok (.if_icmp .le 7, 3) := by decide +kernel
theorem dX10_reaches_133 : decode cX10_reaches 133 = .ok (.iload_n 1, 1) := by decide +kernel
theorem dX10_reaches_134 : decode cX10_reaches 134 = .ok (.goto 7, 3) := by decide +kernel
theorem dX10_reaches_137 : decode cX10_reaches 137 = .ok (.aload_n 0, 1) := by decide +kernel
theorem dX10_reaches_138 : decode cX10_reaches 138 = .ok (.getfield 140, 3) := by decide +kernel
theorem dX10_reaches_141 : decode cX10_reaches 141 = .ok (.putfield 140, 3) := by decide +kernel
theorem dX10_reaches_144 : decode cX10_reaches 144 = .ok (.goto 128, 3) := by decide +kernel
theorem dX10_reaches_147 : decode cX10_reaches 147 = .ok (.aload_n 0, 1) := by decide +kernel
theorem dX10_reaches_148 : decode cX10_reaches 148 = .ok (.iload_n 2, 1) := by decide +kernel
theorem dX10_reaches_149 : decode cX10_reaches 149 = .ok (.ifCond .eq 7, 3) := by decide +kernel
theorem dX10_reaches_152 : decode cX10_reaches 152 = .ok (.iload_n 1, 1) := by decide +kernel
theorem dX10_reaches_153 : decode cX10_reaches 153 = .ok (.goto 7, 3) := by decide +kernel
theorem dX10_reaches_156 : decode cX10_reaches 156 = .ok (.aload_n 0, 1) := by decide +kernel
theorem dX10_reaches_157 : decode cX10_reaches 157 = .ok (.getfield 140, 3) := by decide +kernel
theorem dX10_reaches_160 : decode cX10_reaches 160 = .ok (.putfield 140, 3) := by decide +kernel
theorem dX10_reaches_163 : decode cX10_reaches 163 = .ok (.aload_n 0, 1) := by decide +kernel
theorem dX10_reaches_164 : decode cX10_reaches 164 = .ok (.iconst 1, 1) := by decide +kernel
theorem dX10_reaches_165 : decode cX10_reaches 165 = .ok (.putfield 137, 3) := by decide +kernel
theorem dX10_reaches_168 : decode cX10_reaches 168 = .ok (.goto 104, 3) := by decide +kernel
theorem dX10_reaches_171 : decode cX10_reaches 171 = .ok (.aload_n 0, 1) := by decide +kernel
theorem dX10_reaches_172 : decode cX10_reaches 172 = .ok (.aload_n 0, 1) := by decide +kernel
theorem dX10_reaches_173 : decode cX10_reaches 173 = .ok (.getfield 128, 3) := by decide +kernel
theorem dX10_reaches_176 : decode cX10_reaches 176 = .ok (.ifCond .ne 12, 3) := by decide +kernel
theorem dX10_reaches_179 : decode cX10_reaches 179 = .ok (.aload_n 0, 1) := by decide +kernel
theorem dX10_reaches_180 : decode cX10_reaches 180 = .ok (.getfield 140, 3) := by decide +kernel
theorem dX10_reaches_183 : decode cX10_reaches 183 = .ok (.iload_n 1, 1) := by decide +kernel
theorem dX10_reaches_184 : decode cX10_reaches 184 = .ok (.iadd, 1) := by decide +kernel
theorem dX10_reaches_185 : decode cX10_reaches 185 = .ok (.goto 29, 3) := by decide +kernel
theorem dX10_reaches_188 : decode cX10_reaches 188 = .ok (.aload_n 0, 1) := by decide +kernel
theorem dX10_reaches_189 : decode cX10_reaches 189 = .ok (.getfield 128, 3) := by decide +kernel
theorem dX10_reaches_192 : decode cX10_reaches 192 = .ok (.iconst 1, 1) := by decide +kernel
theorem dX10_reaches_193 : decode cX10_reaches 193 = .ok (.if_icmp .ne 12, 3) := by decide +kernel
theorem dX10_reaches_196 : decode cX10_reaches 196 = .ok (.aload_n 0, 1) := by decide +kernel
theorem dX10_reaches_197 : decode cX10_reaches 197 = .ok (.getfield 140, 3) := by decide +kernel
theorem dX10_reaches_200 : decode cX10_reaches 200 = .ok (.iload_n 1, 1) := by decide +kernel
theorem dX10_reaches_201 : decode cX10_reaches 201 = .ok (.imul, 1) := by decide +kernel
theorem dX10_reaches_202 : decode cX10_reaches 202 = .ok (.goto 12, 3) := by decide +kernel
theorem dX10_reaches_205 : decode cX10_reaches 205 = .ok (.aload_n 0, 1) := by decide +kernel
theorem dX10_reaches_206 : decode cX10_reaches 206 = .ok (.getfield 140, 3) := by decide +kernel
theorem dX10_reaches_209 : decode cX10_reaches 209 = .ok (.bipush 31, 2) := by decide +kernel
theorem dX10_reaches_211 : decode cX10_reaches 211 = .ok (.imul, 1) := by decide +kernel
theorem dX10_reaches_212 : decode cX10_reaches 212 = .ok (.iload_n 1, 1) := by decide +kernel
theorem dX10_reaches_213 : decode cX10_reaches 213 = .ok (.iadd, 1) := by decide +kernel
theorem dX10_reaches_214 : decode cX10_reaches 214 = .ok (.putfield 140, 3) := by decide +kernel
theorem dX10_reaches_217 : decode cX10_reaches 217 = .ok (.goto 55, 3) := by decide +kernel
theorem dX10_reaches_220 : decode cX10_reaches 220 = .ok (.aload_n 0, 1) := by decide +kernel
theorem dX10_reaches_221 : decode cX10_reaches 221 = .ok (.getfield 44, 3) := by decide +kernel
theorem dX10_reaches_224 : decode cX10_reaches 224 = .ok (.aload_n 0, 1) := by decide +kernel
theorem dX10_reaches_225 : decode cX10_reaches 225 = .ok (.getfield 134, 3) := by decide +kernel
theorem dX10_reaches_228 : decode cX10_reaches 228 = .ok (.iconst 1, 1) := by decide +kernel
theorem dX10_reaches_229 : decode cX10_reaches 229 = .ok (.isub, 1) := by decide +kernel
theorem dX10_reaches_230 : decode cX10_reaches 230 = .ok (.iload_n 1, 1) := by decide +kernel
theorem dX10_reaches_231 : decode cX10_reaches 231 = .ok (.iastore, 1) := by decide +kernel
theorem dX10_reaches_232 : decode cX10_reaches 232 = .ok (.goto 40, 3) := by decide +kernel
theorem dX10_reaches_235 : decode cX10_reaches 235 = .ok (.aload_n 0, 1) := by decide +kernel
theorem dX10_reaches_236 : decode cX10_reaches 236 = .ok (.iload_n 1, 1) := by decide +kernel
theorem dX10_reaches_237 : decode cX10_reaches 237 = .ok (.invokevirtual 149, 3) := by decide +kernel
theorem dX10_reaches_240 : decode cX10_reaches 240 = .ok (.goto 32, 3) := by decide +kernel
theorem dX10_reaches_243 : decode cX10_reaches 243 = .ok (.aload_n 0, 1) := by decide +kernel
theorem dX10_reaches_244 : decode cX10_reaches 244 = .ok (.getfield 125, 3) := by decide +kernel
theorem dX10_reaches_247 : decode cX10_reaches 247 = .ok (.iconst 5, 1) := by decide +kernel
theorem dX10_reaches_248 : decode cX10_reaches 248 = .ok (.if_icmp .lt 24, 3) := by decide +kernel
theorem dX10_reaches_251 : decode cX10_reaches 251 = .ok (.aload_n 0, 1) := by decide +kernel
theorem dX10_reaches_252 : decode cX10_reaches 252 = .ok (.getfield 125, 3) := by decide +kernel
theorem dX10_reaches_255 : decode cX10_reaches 255 = .ok (.bipush 7, 2) := by decide +kernel
theorem dX10_reaches_257 : decode cX10_reaches 257 = .ok (.if_icmp .gt 15, 3) := by decide +kernel
theorem dX10_reaches_260 : decode cX10_reaches 260 = .ok (.aload_n 0, 1) := by decide +kernel
theorem dX10_reaches_261 : decode cX10_reaches 261 = .ok (.getfield 137, 3) := by decide +kernel
theorem dX10_reaches_264 : decode cX10_reaches 264 = .ok (.ifCond .ne 8, 3) := by decide +kernel
theorem dX10_reaches_267 : decode cX10_reaches 267 = .ok (.aload_n 0, 1) := by decide +kernel
theorem dX10_reaches_268 : decode cX10_reaches 268 = .ok (.iload_n 1, 1) := by decide +kernel
theorem dX10_reaches_269 : decode cX10_reaches 269 = .ok (.invokevirtual 153, 3) := by decide +kernel
theorem dX10_reaches_272 : decode cX10_reaches 272 = .ok (.return_, 1) := by decide +kernel
theorem dX10_answer_0 : decode cX10_answer 0 = .ok (.aload_n 0, 1) := by decide +kernel
theorem dX10_answer_1 : decode cX10_answer 1 = .ok (.getfield 143, 3) := by decide +kernel
theorem dX10_answer_4 : decode cX10_answer 4 = .ok (.ifCond .eq 9, 3) := by decide +kernel
theorem dX10_answer_7 : decode cX10_answer 7 = .ok (.aload_n 0, 1) := by decide +kernel
theorem dX10_answer_8 : decode cX10_answer 8 = .ok (.iconst 3, 1) := by decide +kernel
theorem dX10_answer_9 : decode cX10_answer 9 = .ok (.invokevirtual 84, 3) := by decide +kernel
theorem dX10_answer_12 : decode cX10_answer 12 = .ok (.ireturn, 1) := by decide +kernel
theorem dX10_answer_13 : decode cX10_answer 13 = .ok (.aload_n 0, 1) := by decide +kernel
theorem dX10_answer_14 : decode cX10_answer 14 = .ok (.getfield 125, 3) := by decide +kernel
theorem dX10_answer_17 : decode cX10_answer 17 = .ok (.iconst 2, 1) := by decide +kernel
theorem dX10_answer_18 : decode cX10_answer 18 = .ok (.if_icmp .lt 24, 3) := by decide +kernel
theorem dX10_answer_21 : decode cX10_answer 21 = .ok (.aload_n 0, 1) := by decide +kernel
theorem dX10_answer_22 : decode cX10_answer 22 = .ok (.getfield 125, 3) := by decide +kernel
theorem dX10_answer_25 : decode cX10_answer 25 = .ok (.iconst 4, 1) := by decide +kernel
theorem dX10_answer_26 : decode cX10_answer 26 = .ok (.if_icmp .gt 16, 3) := by decide +kernel
theorem dX10_answer_29 : decode cX10_answer 29 = .ok (.aload_n 0, 1) := by decide +kernel
theorem dX10_answer_30 : decode cX10_answer 30 = .ok (.getfield 134, 3) := by decide +kernel
theorem dX10_answer_33 : decode cX10_answer 33 = .ok (.ifCond .ne 9, 3) := by decide +kernel
theorem dX10_answer_36 : decode cX10_answer 36 = .ok (.aload_n 0, 1) := by decide +kernel
theorem dX10_answer_37 : decode cX10_answer 37 = .ok (.iconst 4, 1) := by decide +kernel
theorem dX10_answer_38 : decode cX10_answer 38 = .ok (.invokevirtual 84, 3) := by decide +kernel
theorem dX10_answer_41 : decode cX10_answer 41 = .ok (.ireturn, 1) := by decide +kernel
theorem dX10_answer_42 : decode cX10_answer 42 = .ok (.aload_n 0, 1) := by decide +kernel
theorem dX10_answer_43 : decode cX10_answer 43 = .ok (.getfield 125, 3) := by decide +kernel
theorem dX10_answer_46 : decode cX10_answer 46 = .ok (.bipush 9, 2) := by decide +kernel
theorem dX10_answer_48 : decode cX10_answer 48 = .ok (.if_icmp .eq 12, 3) := by decide +kernel
theorem dX10_answer_51 : decode cX10_answer 51 = .ok (.aload_n 0, 1) := by decide +kernel
theorem dX10_answer_52 : decode cX10_answer 52 = .ok (.getfield 125, 3) := by decide +kernel
theorem dX10_answer_55 : decode cX10_answer 55 = .ok (.bipush 10, 2) := by decide +kernel
theorem dX10_answer_57 : decode cX10_answer 57 = .ok (.if_icmp .ne 55, 3) := by decide +kernel
theorem dX10_answer_60 : decode cX10_answer 60 = .ok (.aload_n 0, 1) := by decide +kernel
theorem dX10_answer_61 : decode cX10_answer 61 = .ok (.aload_n 0, 1) := by decide +kernel
theorem dX10_answer_62 : decode cX10_answer 62 = .ok (.getfield 125, 3) := by decide +kernel
theorem dX10_answer_65 : decode cX10_answer 65 = .ok (.bipush 9, 2) := by decide +kernel
theorem dX10_answer_67 : decode cX10_answer 67 = .ok (.if_icmp .ne 10, 3) := by decide +kernel
theorem dX10_answer_70 : decode cX10_answer 70 = .ok (.aload_n 0, 1) := by decide +kernel
theorem dX10_answer_71 : decode cX10_answer 71 = .ok (.getfield 134, 3) := by decide +kernel
theorem dX10_answer_74 : decode cX10_answer 74 = .ok (.goto 7, 3) := by decide +kernel
theorem dX10_answer_77 : decode cX10_answer 77 = .ok (.aload_n 0, 1) := by decide +kernel
theorem dX10_answer_78 : decode cX10_answer 78 = .ok (.getfield 131, 3) := by decide +kernel
theorem dX10_answer_81 : decode cX10_answer 81 = .ok (.putfield 156, 3) := by decide +kernel
theorem dX10_answer_84 : decode cX10_answer 84 = .ok (.iconst 0, 1) := by decide +kernel
theorem dX10_answer_85 : decode cX10_answer 85 = .ok (.istore_n 1, 1) := by decide +kernel
theorem dX10_answer_86 : decode cX10_answer 86 = .ok (.iload_n 1, 1) := by decide +kernel
theorem dX10_answer_87 : decode cX10_answer 87 = .ok (.aload_n 0, 1) := by decide +kernel
theorem dX10_answer_88 : decode cX10_answer 88 = .ok (.getfield 156, 3) := by decide +kernel
theorem dX10_answer_91 : decode cX10_answer 91 = .ok (.if_icmp .ge 21, 3) := by decide +kernel
theorem dX10_answer_94 : decode cX10_answer 94 = .ok (.aload_n 0, 1) := by decide +kernel
theorem dX10_answer_95 : decode cX10_answer 95 = .ok (.getfield 47, 3) := by decide +kernel
theorem dX10_answer_98 : decode cX10_answer 98 = .ok (.iload_n 1, 1) := by decide +kernel
theorem dX10_answer_99 : decode cX10_answer 99 = .ok (.aload_n 0, 1) := by decide +kernel
theorem dX10_answer_100 : decode cX10_answer 100 = .ok (.getfield 44, 3) := by decide +kernel
theorem dX10_answer_103 : decode cX10_answer 103 = .ok (.iload_n 1, 1) := by decide +kernel
theorem dX10_answer_104 : decode cX10_answer 104 = .ok (.iaload, 1) := by decide +kernel
theorem dX10_answer_105 : decode cX10_answer 105 = .ok (.iastore, 1) := by decide +kernel
theorem dX10_answer_106 : decode cX10_answer 106 = .ok (.iinc 1 1, 3) := by decide +kernel
theorem dX10_answer_109 : decode cX10_answer 109 = .ok (.goto (-23), 3) := by decide +kernel
theorem dX10_answer_112 : decode cX10_answer 112 = .ok (.aload_n 0, 1) := by decide +kernel
theorem dX10_answer_113 : decode cX10_answer 113 = .ok (.getfield 125, 3) := by decide +kernel
theorem dX10_answer_116 : decode cX10_answer 116 = .ok (.ifCond .eq 12, 3) := by decide +kernel
theorem dX10_answer_119 : decode cX10_answer 119 = .ok (.aload_n 0, 1) := by decide +kernel
theorem dX10_answer_120 : decode cX10_answer 120 = .ok (.getfield 125, 3) := by decide +kernel
theorem dX10_answer_123 : decode cX10_answer 123 = .ok (.bipush 9, 2) := by decide +kernel
theorem dX10_answer_125 : decode cX10_answer 125 = .ok (.if_icmp .ne 10, 3) := by decide +kernel
theorem dX10_answer_128 : decode cX10_answer 128 = .ok (.aload_n 0, 1) := by decide +kernel
theorem dX10_answer_129 : decode cX10_answer 129 = .ok (.getfield 134, 3) := by decide +kernel
theorem dX10_answer_132 : decode cX10_answer 132 = .ok (.goto 7, 3) := by decide +kernel
theorem dX10_answer_135 : decode cX10_answer 135 = .ok (.aload_n 0, 1) := by decide +kernel
theorem dX10_answer_136 : decode cX10_answer 136 = .ok (.getfield 140, 3) := by decide +kernel
theorem dX10_answer_139 : decode cX10_answer 139 = .ok (.ireturn, 1) := by decide +kernel
theorem dX10_wants_0 : decode cX10_wants 0 = .ok (.iload_n 1, 1) := by decide +kernel
theorem dX10_wants_1 : decode cX10_wants 1 = .ok (.istore_n 2, 1) := by decide +kernel
theorem dX10_wants_2 : decode cX10_wants 2 = .ok (.iload_n 2, 1) := by decide +kernel
theorem dX10_wants_3 : decode cX10_wants 3 = .ok (.aload_n 0, 1) := by decide +kernel
theorem dX10_wants_4 : decode cX10_wants 4 = .ok (.getfield 107, 3) := by decide +kernel
theorem dX10_wants_7 : decode cX10_wants 7 = .ok (.if_icmp .ge 77, 3) := by decide +kernel
theorem dX10_wants_10 : decode cX10_wants 10 = .ok (.aload_n 0, 1) := by decide +kernel
theorem dX10_wants_11 : decode cX10_wants 11 = .ok (.getfield 13, 3) := by decide +kernel
theorem dX10_wants_14 : decode cX10_wants 14 = .ok (.iload_n 2, 1) := by decide +kernel
theorem dX10_wants_15 : decode cX10_wants 15 = .ok (.iaload, 1) := by decide +kernel
theorem dX10_wants_16 : decode cX10_wants 16 = .ok (.iconst 4, 1) := by decide +kernel
theorem dX10_wants_17 : decode cX10_wants 17 = .ok (.if_icmp .ne 14, 3) := by decide +kernel
theorem dX10_wants_20 : decode cX10_wants 20 = .ok (.aload_n 0, 1) := by decide +kernel
theorem dX10_wants_21 : decode cX10_wants 21 = .ok (.getfield 28, 3) := by decide +kernel
theorem dX10_wants_24 : decode cX10_wants 24 = .ok (.iload_n 2, 1) := by decide +kernel
theorem dX10_wants_25 : decode cX10_wants 25 = .ok (.baload, 1) := by decide +kernel
theorem dX10_wants_26 : decode cX10_wants 26 = .ok (.ifCond .ne 5, 3) := by decide +kernel
theorem dX10_wants_29 : decode cX10_wants 29 = .ok (.iconst 1, 1) := by decide +kernel
theorem dX10_wants_30 : decode cX10_wants 30 = .ok (.ireturn, 1) := by decide +kernel
theorem dX10_wants_31 : decode cX10_wants 31 = .ok (.aload_n 0, 1) := by decide +kernel
theorem dX10_wants_32 : decode cX10_wants 32 = .ok (.getfield 13, 3) := by decide +kernel
theorem dX10_wants_35 : decode cX10_wants 35 = .ok (.iload_n 2, 1) := by decide +kernel
theorem dX10_wants_36 : decode cX10_wants 36 = .ok (.iaload, 1) := by decide +kernel
theorem dX10_wants_37 : decode cX10_wants 37 = .ok (.iconst 5, 1) := by decide +kernel
theorem dX10_wants_38 : decode cX10_wants 38 = .ok (.if_icmp .ne 18, 3) := by decide +kernel
theorem dX10_wants_41 : decode cX10_wants 41 = .ok (.aload_n 0, 1) := by decide +kernel
theorem dX10_wants_42 : decode cX10_wants 42 = .ok (.getfield 25, 3) := by decide +kernel
theorem dX10_wants_45 : decode cX10_wants 45 = .ok (.iload_n 2, 1) := by decide +kernel
theorem dX10_wants_46 : decode cX10_wants 46 = .ok (.iaload, 1) := by decide +kernel
theorem dX10_wants_47 : decode cX10_wants 47 = .ok (.aload_n 0, 1) := by decide +kernel
theorem dX10_wants_48 : decode cX10_wants 48 = .ok (.getfield 19, 3) := by decide +kernel
theorem dX10_wants_51 : decode cX10_wants 51 = .ok (.iload_n 2, 1) := by decide +kernel
theorem dX10_wants_52 : decode cX10_wants 52 = .ok (.iaload, 1) := by decide +kernel
theorem dX10_wants_53 : decode cX10_wants 53 = .ok (.if_icmp .ge 23, 3) := by decide +kernel
theorem dX10_wants_56 : decode cX10_wants 56 = .ok (.aload_n 0, 1) := by decide +kernel
theorem dX10_wants_57 : decode cX10_wants 57 = .ok (.getfield 13, 3) := by decide +kernel
theorem dX10_wants_60 : decode cX10_wants 60 = .ok (.iload_n 2, 1) := by decide +kernel
theorem dX10_wants_61 : decode cX10_wants 61 = .ok (.iaload, 1) := by decide +kernel
