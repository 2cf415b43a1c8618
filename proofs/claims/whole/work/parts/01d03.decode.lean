theorem dX9_outcome_13 : decode cX9_outcome 13 = .ok (.athrow, 1) := by decide +kernel
theorem dX9_outcome_14 : decode cX9_outcome 14 = .ok (.aload_n 0, 1) := by decide +kernel
theorem dX9_outcome_15 : decode cX9_outcome 15 = .ok (.getfield 35, 3) := by decide +kernel
theorem dX9_outcome_18 : decode cX9_outcome 18 = .ok (.invokevirtual 213, 3) := by decide +kernel
theorem dX9_outcome_21 : decode cX9_outcome 21 = .ok (.ifCond .ne 13, 3) := by decide +kernel
theorem dX9_outcome_24 : decode cX9_outcome 24 = .ok (.new 169, 3) := by decide +kernel
theorem dX9_outcome_27 : decode cX9_outcome 27 = .ok (.dup, 1) := by decide +kernel
theorem dX9_outcome_28 : decode cX9_outcome 28 = .ok (.ldc 216, 2) := by decide +kernel
theorem dX9_outcome_30 : decode cX9_outcome 30 = .ok (.invokespecial 173, 3) := by decide +kernel
theorem dX9_outcome_33 : decode cX9_outcome 33 = .ok (.athrow, 1) := by decide +kernel
theorem dX9_outcome_34 : decode cX9_outcome 34 = .ok (.aload_n 0, 1) := by decide +kernel
theorem dX9_outcome_35 : decode cX9_outcome 35 = .ok (.getfield 35, 3) := by decide +kernel
theorem dX9_outcome_38 : decode cX9_outcome 38 = .ok (.invokevirtual 218, 3) := by decide +kernel
theorem dX9_outcome_41 : decode cX9_outcome 41 = .ok (.istore_n 2, 1) := by decide +kernel
theorem dX9_outcome_42 : decode cX9_outcome 42 = .ok (.aload_n 0, 1) := by decide +kernel
theorem dX9_outcome_43 : decode cX9_outcome 43 = .ok (.getfield 35, 3) := by decide +kernel
theorem dX9_outcome_46 : decode cX9_outcome 46 = .ok (.invokevirtual 221, 3) := by decide +kernel
theorem dX9_outcome_49 : decode cX9_outcome 49 = .ok (.iload_n 2, 1) := by decide +kernel
theorem dX9_outcome_50 : decode cX9_outcome 50 = .ok (.ireturn, 1) := by decide +kernel
theorem dX9_within_0 : decode cX9_within 0 = .ok (.iload_n 0, 1) := by decide +kernel
theorem dX9_within_1 : decode cX9_within 1 = .ok (.iload_n 1, 1) := by decide +kernel
theorem dX9_within_2 : decode cX9_within 2 = .ok (.if_icmp .lt 12, 3) := by decide +kernel
theorem dX9_within_5 : decode cX9_within 5 = .ok (.iload_n 0, 1) := by decide +kernel
theorem dX9_within_6 : decode cX9_within 6 = .ok (.iload_n 2, 1) := by decide +kernel
theorem dX9_within_7 : decode cX9_within 7 = .ok (.if_icmp .gt 7, 3) := by decide +kernel
theorem dX9_within_10 : decode cX9_within 10 = .ok (.iconst 1, 1) := by decide +kernel
theorem dX9_within_11 : decode cX9_within 11 = .ok (.goto 4, 3) := by decide +kernel
theorem dX9_within_14 : decode cX9_within 14 = .ok (.iconst 0, 1) := by decide +kernel
theorem dX9_within_15 : decode cX9_within 15 = .ok (.ireturn, 1) := by decide +kernel
theorem dX9_isTest_0 : decode cX9_isTest 0 = .ok (.iload_n 0, 1) := by decide +kernel
theorem dX9_isTest_1 : decode cX9_isTest 1 = .ok (.iconst 0, 1) := by decide +kernel
theorem dX9_isTest_2 : decode cX9_isTest 2 = .ok (.iconst 4, 1) := by decide +kernel
theorem dX9_isTest_3 : decode cX9_isTest 3 = .ok (.invokestatic 83, 3) := by decide +kernel
theorem dX9_isTest_6 : decode cX9_isTest 6 = .ok (.ireturn, 1) := by decide +kernel
theorem dX9_isStage_0 : decode cX9_isStage 0 = .ok (.iload_n 0, 1) := by decide +kernel
theorem dX9_isStage_1 : decode cX9_isStage 1 = .ok (.tableswitch 82 0 9 #[55, 62, 67, 82, 82, 74, 74, 82, 62, 62], 55) := by decide +kernel
theorem dX9_isStage_56 : decode cX9_isStage 56 = .ok (.iload_n 1, 1) := by decide +kernel
theorem dX9_isStage_57 : decode cX9_isStage 57 = .ok (.iconst 0, 1) := by decide +kernel
theorem dX9_isStage_58 : decode cX9_isStage 58 = .ok (.iconst 3, 1) := by decide +kernel
theorem dX9_isStage_59 : decode cX9_isStage 59 = .ok (.invokestatic 83, 3) := by decide +kernel
theorem dX9_isStage_62 : decode cX9_isStage 62 = .ok (.ireturn, 1) := by decide +kernel
theorem dX9_isStage_63 : decode cX9_isStage 63 = .ok (.iload_n 1, 1) := by decide +kernel
theorem dX9_isStage_64 : decode cX9_isStage 64 = .ok (.invokestatic 224, 3) := by decide +kernel
theorem dX9_isStage_67 : decode cX9_isStage 67 = .ok (.ireturn, 1) := by decide +kernel
theorem dX9_isStage_68 : decode cX9_isStage 68 = .ok (.iload_n 2, 1) := by decide +kernel
theorem dX9_isStage_69 : decode cX9_isStage 69 = .ok (.iconst 0, 1) := by decide +kernel
theorem dX9_isStage_70 : decode cX9_isStage 70 = .ok (.iconst 4, 1) := by decide +kernel
theorem dX9_isStage_71 : decode cX9_isStage 71 = .ok (.invokestatic 83, 3) := by decide +kernel
theorem dX9_isStage_74 : decode cX9_isStage 74 = .ok (.ireturn, 1) := by decide +kernel
theorem dX9_isStage_75 : decode cX9_isStage 75 = .ok (.iload_n 2, 1) := by decide +kernel
theorem dX9_isStage_76 : decode cX9_isStage 76 = .ok (.iconst 0, 1) := by decide +kernel
theorem dX9_isStage_77 : decode cX9_isStage 77 = .ok (.bipush 100, 2) := by decide +kernel
theorem dX9_isStage_79 : decode cX9_isStage 79 = .ok (.invokestatic 83, 3) := by decide +kernel
theorem dX9_isStage_82 : decode cX9_isStage 82 = .ok (.ireturn, 1) := by decide +kernel
theorem dX9_isStage_83 : decode cX9_isStage 83 = .ok (.iload_n 0, 1) := by decide +kernel
theorem dX9_isStage_84 : decode cX9_isStage 84 = .ok (.iconst 0, 1) := by decide +kernel
theorem dX9_isStage_85 : decode cX9_isStage 85 = .ok (.bipush 9, 2) := by decide +kernel
theorem dX9_isStage_87 : decode cX9_isStage 87 = .ok (.invokestatic 83, 3) := by decide +kernel
theorem dX9_isStage_90 : decode cX9_isStage 90 = .ok (.ireturn, 1) := by decide +kernel
theorem dX9_isEnd_0 : decode cX9_isEnd 0 = .ok (.iload_n 0, 1) := by decide +kernel
theorem dX9_isEnd_1 : decode cX9_isEnd 1 = .ok (.tableswitch 59 5 10 #[39, 39, 39, 44, 59, 51], 39) := by decide +kernel
theorem dX9_isEnd_40 : decode cX9_isEnd 40 = .ok (.iload_n 1, 1) := by decide +kernel
theorem dX9_isEnd_41 : decode cX9_isEnd 41 = .ok (.invokestatic 224, 3) := by decide +kernel
theorem dX9_isEnd_44 : decode cX9_isEnd 44 = .ok (.ireturn, 1) := by decide +kernel
theorem dX9_isEnd_45 : decode cX9_isEnd 45 = .ok (.iload_n 1, 1) := by decide +kernel
theorem dX9_isEnd_46 : decode cX9_isEnd 46 = .ok (.iconst 0, 1) := by decide +kernel
theorem dX9_isEnd_47 : decode cX9_isEnd 47 = .ok (.iconst 2, 1) := by decide +kernel
theorem dX9_isEnd_48 : decode cX9_isEnd 48 = .ok (.invokestatic 83, 3) := by decide +kernel
theorem dX9_isEnd_51 : decode cX9_isEnd 51 = .ok (.ireturn, 1) := by decide +kernel
theorem dX9_isEnd_52 : decode cX9_isEnd 52 = .ok (.iload_n 2, 1) := by decide +kernel
theorem dX9_isEnd_53 : decode cX9_isEnd 53 = .ok (.iconst 1, 1) := by decide +kernel
theorem dX9_isEnd_54 : decode cX9_isEnd 54 = .ok (.bipush 8, 2) := by decide +kernel
theorem dX9_isEnd_56 : decode cX9_isEnd 56 = .ok (.invokestatic 83, 3) := by decide +kernel
theorem dX9_isEnd_59 : decode cX9_isEnd 59 = .ok (.ireturn, 1) := by decide +kernel
theorem dX9_isEnd_60 : decode cX9_isEnd 60 = .ok (.iload_n 0, 1) := by decide +kernel
theorem dX9_isEnd_61 : decode cX9_isEnd 61 = .ok (.iconst 0, 1) := by decide +kernel
theorem dX9_isEnd_62 : decode cX9_isEnd 62 = .ok (.bipush 10, 2) := by decide +kernel
theorem dX9_isEnd_64 : decode cX9_isEnd 64 = .ok (.invokestatic 83, 3) := by decide +kernel
theorem dX9_isEnd_67 : decode cX9_isEnd 67 = .ok (.ireturn, 1) := by decide +kernel
theorem dX9_passes_0 : decode cX9_passes 0 = .ok (.iload_n 1, 1) := by decide +kernel
theorem dX9_passes_1 : decode cX9_passes 1 = .ok (.tableswitch 75 0 3 #[31, 42, 53, 64], 31) := by decide +kernel
theorem dX9_passes_32 : decode cX9_passes 32 = .ok (.iload_n 0, 1) := by decide +kernel
theorem dX9_passes_33 : decode cX9_passes 33 = .ok (.iload_n 2, 1) := by decide +kernel
theorem dX9_passes_34 : decode cX9_passes 34 = .ok (.if_icmp .ne 7, 3) := by decide +kernel
theorem dX9_passes_37 : decode cX9_passes 37 = .ok (.iconst 1, 1) := by decide +kernel
theorem dX9_passes_38 : decode cX9_passes 38 = .ok (.goto 4, 3) := by decide +kernel
theorem dX9_passes_41 : decode cX9_passes 41 = .ok (.iconst 0, 1) := by decide +kernel
theorem dX9_passes_42 : decode cX9_passes 42 = .ok (.ireturn, 1) := by decide +kernel
theorem dX9_passes_43 : decode cX9_passes 43 = .ok (.iload_n 0, 1) := by decide +kernel
theorem dX9_passes_44 : decode cX9_passes 44 = .ok (.iload_n 2, 1) := by decide +kernel
theorem dX9_passes_45 : decode cX9_passes 45 = .ok (.if_icmp .eq 7, 3) := by decide +kernel
theorem dX9_passes_48 : decode cX9_passes 48 = .ok (.iconst 1, 1) := by decide +kernel
theorem dX9_passes_49 : decode cX9_passes 49 = .ok (.goto 4, 3) := by decide +kernel
theorem dX9_passes_52 : decode cX9_passes 52 = .ok (.iconst 0, 1) := by decide +kernel
theorem dX9_passes_53 : decode cX9_passes 53 = .ok (.ireturn, 1) := by decide +kernel
theorem dX9_passes_54 : decode cX9_passes 54 = .ok (.iload_n 0, 1) := by decide +kernel
theorem dX9_passes_55 : decode cX9_passes 55 = .ok (.iload_n 2, 1) := by decide +kernel
theorem dX9_passes_56 : decode cX9_passes 56 = .ok (.if_icmp .ge 7, 3) := by decide +kernel
theorem dX9_passes_59 : decode cX9_passes 59 = .ok (.iconst 1, 1) := by decide +kernel
theorem dX9_passes_60 : decode cX9_passes 60 = .ok (.goto 4, 3) := by decide +kernel
theorem dX9_passes_63 : decode cX9_passes 63 = .ok (.iconst 0, 1) := by decide +kernel
theorem dX9_passes_64 : decode cX9_passes 64 = .ok (.ireturn, 1) := by decide +kernel
theorem dX9_passes_65 : decode cX9_passes 65 = .ok (.iload_n 0, 1) := by decide +kernel
theorem dX9_passes_66 : decode cX9_passes 66 = .ok (.iload_n 2, 1) := by decide +kernel
theorem dX9_passes_67 : decode cX9_passes 67 = .ok (.if_icmp .le 7, 3) := by decide +kernel
theorem dX9_passes_70 : decode cX9_passes 70 = .ok (.iconst 1, 1) := by decide +kernel
theorem dX9_passes_71 : decode cX9_passes 71 = .ok (.goto 4, 3) := by decide +kernel
theorem dX9_passes_74 : decode cX9_passes 74 = .ok (.iconst 0, 1) := by decide +kernel
theorem dX9_passes_75 : decode cX9_passes 75 = .ok (.ireturn, 1) := by decide +kernel
theorem dX9_passes_76 : decode cX9_passes 76 = .ok (.iload_n 2, 1) := by decide +kernel
theorem dX9_passes_77 : decode cX9_passes 77 = .ok (.ifCond .ne 15, 3) := by decide +kernel
theorem dX9_passes_80 : decode cX9_passes 80 = .ok (.iload_n 0, 1) := by decide +kernel
theorem dX9_passes_81 : decode cX9_passes 81 = .ok (.ifCond .ne 7, 3) := by decide +kernel
theorem dX9_passes_84 : decode cX9_passes 84 = .ok (.iconst 1, 1) := by decide +kernel
theorem dX9_passes_85 : decode cX9_passes 85 = .ok (.goto 18, 3) := by decide +kernel
theorem dX9_passes_88 : decode cX9_passes 88 = .ok (.iconst 0, 1) := by decide +kernel
theorem dX9_passes_89 : decode cX9_passes 89 = .ok (.goto 14, 3) := by decide +kernel
theorem dX9_passes_92 : decode cX9_passes 92 = .ok (.iload_n 0, 1) := by decide +kernel
theorem dX9_passes_93 : decode cX9_passes 93 = .ok (.iload_n 2, 1) := by decide +kernel
theorem dX9_passes_94 : decode cX9_passes 94 = .ok (.irem, 1) := by decide +kernel
theorem dX9_passes_95 : decode cX9_passes 95 = .ok (.ifCond .ne 7, 3) := by decide +kernel
theorem dX9_passes_98 : decode cX9_passes 98 = .ok (.iconst 1, 1) := by decide +kernel
theorem dX9_passes_99 : decode cX9_passes 99 = .ok (.goto 4, 3) := by decide +kernel
theorem dX9_passes_102 : decode cX9_passes 102 = .ok (.iconst 0, 1) := by decide +kernel
theorem dX9_passes_103 : decode cX9_passes 103 = .ok (.ireturn, 1) := by decide +kernel
theorem dX10_init_0 : decode cX10_init 0 = .ok (.aload_n 0, 1) := by decide +kernel
theorem dX10_init_1 : decode cX10_init 1 = .ok (.invokespecial 1, 3) := by decide +kernel
theorem dX10_init_4 : decode cX10_init 4 = .ok (.aload_n 0, 1) := by decide +kernel
theorem dX10_init_5 : decode cX10_init 5 = .ok (.bipush 40, 2) := by decide +kernel
theorem dX10_init_7 : decode cX10_init 7 = .ok (.newarray .int, 2) := by decide +kernel
theorem dX10_init_9 : decode cX10_init 9 = .ok (.putfield 7, 3) := by decide +kernel
theorem dX10_init_12 : decode cX10_init 12 = .ok (.aload_n 0, 1) := by decide +kernel
theorem dX10_init_13 : decode cX10_init 13 = .ok (.bipush 6, 2) := by decide +kernel
theorem dX10_init_15 : decode cX10_init 15 = .ok (.newarray .int, 2) := by decide +kernel
theorem dX10_init_17 : decode cX10_init 17 = .ok (.putfield 13, 3) := by decide +kernel
theorem dX10_init_20 : decode cX10_init 20 = .ok (.aload_n 0, 1) := by decide +kernel
theorem dX10_init_21 : decode cX10_init 21 = .ok (.bipush 6, 2) := by decide +kernel
theorem dX10_init_23 : decode cX10_init 23 = .ok (.newarray .int, 2) := by decide +kernel
theorem dX10_init_25 : decode cX10_init 25 = .ok (.putfield 16, 3) := by decide +kernel
theorem dX10_init_28 : decode cX10_init 28 = .ok (.aload_n 0, 1) := by decide +kernel
theorem dX10_init_29 : decode cX10_init 29 = .ok (.bipush 6, 2) := by decide +kernel
theorem dX10_init_31 : decode cX10_init 31 = .ok (.newarray .int, 2) := by decide +kernel
theorem dX10_init_33 : decode cX10_init 33 = .ok (.putfield 19, 3) := by decide +kernel
theorem dX10_init_36 : decode cX10_init 36 = .ok (.aload_n 0, 1) := by decide +kernel
theorem dX10_init_37 : decode cX10_init 37 = .ok (.bipush 6, 2) := by decide +kernel
theorem dX10_init_39 : decode cX10_init 39 = .ok (.newarray .int, 2) := by decide +kernel
theorem dX10_init_41 : decode cX10_init 41 = .ok (.putfield 22, 3) := by decide +kernel
theorem dX10_init_44 : decode cX10_init 44 = .ok (.aload_n 0, 1) := by decide +kernel
theorem dX10_init_45 : decode cX10_init 45 = .ok (.bipush 6, 2) := by decide +kernel
theorem dX10_init_47 : decode cX10_init 47 = .ok (.newarray .int, 2) := by decide +kernel
theorem dX10_init_49 : decode cX10_init 49 = .ok (.putfield 25, 3) := by decide +kernel
theorem dX10_init_52 : decode cX10_init 52 = .ok (.aload_n 0, 1) := by decide +kernel
theorem dX10_init_53 : decode cX10_init 53 = .ok (.bipush 6, 2) := by decide +kernel
theorem dX10_init_55 : decode cX10_init 55 = .ok (.newarray .boolean, 2) := by decide +kernel
theorem dX10_init_57 : decode cX10_init 57 = .ok (.putfield 28, 3) := by decide +kernel
theorem dX10_init_60 : decode cX10_init 60 = .ok (.aload_n 0, 1) := by decide +kernel
theorem dX10_init_61 : decode cX10_init 61 = .ok (.sipush 3600, 3) := by decide +kernel
theorem dX10_init_64 : decode cX10_init 64 = .ok (.newarray .int, 2) := by decide +kernel
theorem dX10_init_66 : decode cX10_init 66 = .ok (.putfield 32, 3) := by decide +kernel
theorem dX10_init_69 : decode cX10_init 69 = .ok (.aload_n 0, 1) := by decide +kernel
theorem dX10_init_70 : decode cX10_init 70 = .ok (.bipush 8, 2) := by decide +kernel
theorem dX10_init_72 : decode cX10_init 72 = .ok (.newarray .int, 2) := by decide +kernel
theorem dX10_init_74 : decode cX10_init 74 = .ok (.putfield 35, 3) := by decide +kernel
theorem dX10_init_77 : decode cX10_init 77 = .ok (.aload_n 0, 1) := by decide +kernel
theorem dX10_init_78 : decode cX10_init 78 = .ok (.bipush 8, 2) := by decide +kernel
theorem dX10_init_80 : decode cX10_init 80 = .ok (.newarray .int, 2) := by decide +kernel
theorem dX10_init_82 : decode cX10_init 82 = .ok (.putfield 38, 3) := by decide +kernel
theorem dX10_init_85 : decode cX10_init 85 = .ok (.aload_n 0, 1) := by decide +kernel
theorem dX10_init_86 : decode cX10_init 86 = .ok (.bipush 8, 2) := by decide +kernel
theorem dX10_init_88 : decode cX10_init 88 = .ok (.newarray .int, 2) := by decide +kernel
theorem dX10_init_90 : decode cX10_init 90 = .ok (.putfield 41, 3) := by decide +kernel
theorem dX10_init_93 : decode cX10_init 93 = .ok (.aload_n 0, 1) := by decide +kernel
theorem dX10_init_94 : decode cX10_init 94 = .ok (.sipush 600, 3) := by decide +kernel
theorem dX10_init_97 : decode cX10_init 97 = .ok (.newarray .int, 2) := by decide +kernel
theorem dX10_init_99 : decode cX10_init 99 = .ok (.putfield 44, 3) := by decide +kernel
theorem dX10_init_102 : decode cX10_init 102 = .ok (.aload_n 0, 1) := by decide +kernel
theorem dX10_init_103 : decode cX10_init 103 = .ok (.sipush 600, 3) := by decide +kernel
theorem dX10_init_106 : decode cX10_init 106 = .ok (.newarray .int, 2) := by decide +kernel
theorem dX10_init_108 : decode cX10_init 108 = .ok (.putfield 47, 3) := by decide +kernel
theorem dX10_init_111 : decode cX10_init 111 = .ok (.aload_n 0, 1) := by decide +kernel
theorem dX10_init_112 : decode cX10_init 112 = .ok (.sipush 601, 3) := by decide +kernel
theorem dX10_init_115 : decode cX10_init 115 = .ok (.newarray .int, 2) := by decide +kernel
theorem dX10_init_117 : decode cX10_init 117 = .ok (.putfield 50, 3) := by decide +kernel
theorem dX10_init_120 : decode cX10_init 120 = .ok (.aload_n 0, 1) := by decide +kernel
theorem dX10_init_121 : decode cX10_init 121 = .ok (.sipush 601, 3) := by decide +kernel
theorem dX10_init_124 : decode cX10_init 124 = .ok (.newarray .int, 2) := by decide +kernel
theorem dX10_init_126 : decode cX10_init 126 = .ok (.putfield 53, 3) := by decide +kernel
theorem dX10_init_129 : decode cX10_init 129 = .ok (.aload_n 0, 1) := by decide +kernel
theorem dX10_init_130 : decode cX10_init 130 = .ok (.iconst 4, 1) := by decide +kernel
theorem dX10_init_131 : decode cX10_init 131 = .ok (.putfield 56, 3) := by decide +kernel
theorem dX10_init_134 : decode cX10_init 134 = .ok (.aload_n 0, 1) := by decide +kernel
theorem dX10_init_135 : decode cX10_init 135 = .ok (.iconst 2, 1) := by decide +kernel
theorem dX10_init_136 : decode cX10_init 136 = .ok (.putfield 60, 3) := by decide +kernel
theorem dX10_init_139 : decode cX10_init 139 = .ok (.aload_n 0, 1) := by decide +kernel
theorem dX10_init_140 : decode cX10_init 140 = .ok (.iconst 1, 1) := by decide +kernel
theorem dX10_init_141 : decode cX10_init 141 = .ok (.putfield 63, 3) := by decide +kernel
theorem dX10_init_144 : decode cX10_init 144 = .ok (.aload_n 0, 1) := by decide +kernel
theorem dX10_init_145 : decode cX10_init 145 = .ok (.sipush 192, 3) := by decide +kernel
theorem dX10_init_148 : decode cX10_init 148 = .ok (.newarray .int, 2) := by decide +kernel
theorem dX10_init_150 : decode cX10_init 150 = .ok (.putfield 66, 3) := by decide +kernel
theorem dX10_init_153 : decode cX10_init 153 = .ok (.aload_n 0, 1) := by decide +kernel
theorem dX10_init_154 : decode cX10_init 154 = .ok (.sipush 192, 3) := by decide +kernel
theorem dX10_init_157 : decode cX10_init 157 = .ok (.newarray .int, 2) := by decide +kernel
theorem dX10_init_159 : decode cX10_init 159 = .ok (.putfield 69, 3) := by decide +kernel
theorem dX10_init_162 : decode cX10_init 162 = .ok (.aload_n 0, 1) := by decide +kernel
theorem dX10_init_163 : decode cX10_init 163 = .ok (.iconst 4, 1) := by decide +kernel
theorem dX10_init_164 : decode cX10_init 164 = .ok (.newarray .int, 2) := by decide +kernel
theorem dX10_init_166 : decode cX10_init 166 = .ok (.putfield 72, 3) := by decide +kernel
theorem dX10_init_169 : decode cX10_init 169 = .ok (.aload_n 0, 1) := by decide +kernel
theorem dX10_init_170 : decode cX10_init 170 = .ok (.bipush 7, 2) := by decide +kernel
theorem dX10_init_172 : decode cX10_init 172 = .ok (.newarray .int, 2) := by decide +kernel
theorem dX10_init_174 : decode cX10_init 174 = .ok (.putfield 75, 3) := by decide +kernel
theorem dX10_init_177 : decode cX10_init 177 = .ok (.return_, 1) := by decide +kernel
theorem dX10_thrown_0 : decode cX10_thrown 0 = .ok (.aload_n 0, 1) := by decide +kernel
theorem dX10_thrown_1 : decode cX10_thrown 1 = .ok (.getfield 78, 3) := by decide +kernel
theorem dX10_thrown_4 : decode cX10_thrown 4 = .ok (.ireturn, 1) := by decide +kernel
theorem dX10_refuse_0 : decode cX10_refuse 0 = .ok (.aload_n 0, 1) := by decide +kernel
theorem dX10_refuse_1 : decode cX10_refuse 1 = .ok (.iload_n 1, 1) := by decide +kernel
theorem dX10_refuse_2 : decode cX10_refuse 2 = .ok (.putfield 78, 3) := by decide +kernel
theorem dX10_refuse_5 : decode cX10_refuse 5 = .ok (.iconst 0, 1) := by decide +kernel
theorem dX10_refuse_6 : decode cX10_refuse 6 = .ok (.ireturn, 1) := by decide +kernel
theorem dX10_put_0 : decode cX10_put 0 = .ok (.aload_n 0, 1) := by decide +kernel
theorem dX10_put_1 : decode cX10_put 1 = .ok (.iconst 0, 1) := by decide +kernel
theorem dX10_put_2 : decode cX10_put 2 = .ok (.putfield 78, 3) := by decide +kernel
theorem dX10_put_5 : decode cX10_put 5 = .ok (.aload_n 0, 1) := by decide +kernel
theorem dX10_put_6 : decode cX10_put 6 = .ok (.getfield 81, 3) := by decide +kernel
theorem dX10_put_9 : decode cX10_put 9 = .ok (.bipush 40, 2) := by decide +kernel
theorem dX10_put_11 : decode cX10_put 11 = .ok (.if_icmp .ne 9, 3) := by decide +kernel
theorem dX10_put_14 : decode cX10_put 14 = .ok (.aload_n 0, 1) := by decide +kernel
theorem dX10_put_15 : decode cX10_put 15 = .ok (.iconst 1, 1) := by decide +kernel
theorem dX10_put_16 : decode cX10_put 16 = .ok (.invokevirtual 84, 3) := by decide +kernel
theorem dX10_put_19 : decode cX10_put 19 = .ok (.ireturn, 1) := by decide +kernel
theorem dX10_put_20 : decode cX10_put 20 = .ok (.aload_n 0, 1) := by decide +kernel
theorem dX10_put_21 : decode cX10_put 21 = .ok (.getfield 7, 3) := by decide +kernel
theorem dX10_put_24 : decode cX10_put 24 = .ok (.aload_n 0, 1) := by decide +kernel
theorem dX10_put_25 : decode cX10_put 25 = .ok (.getfield 81, 3) := by decide +kernel
theorem dX10_put_28 : decode cX10_put 28 = .ok (.iload_n 1, 1) := by decide +kernel
theorem dX10_put_29 : decode cX10_put 29 = .ok (.iastore, 1) := by decide +kernel
theorem dX10_put_30 : decode cX10_put 30 = .ok (.aload_n 0, 1) := by decide +kernel
theorem dX10_put_31 : decode cX10_put 31 = .ok (.dup, 1) := by decide +kernel
theorem dX10_put_32 : decode cX10_put 32 = .ok (.getfield 81, 3) := by decide +kernel
theorem dX10_put_35 : decode cX10_put 35 = .ok (.iconst 1, 1) := by decide +kernel
theorem dX10_put_36 : decode cX10_put 36 = .ok (.iadd, 1) := by decide +kernel
theorem dX10_put_37 : decode cX10_put 37 = .ok (.putfield 81, 3) := by decide +kernel
theorem dX10_put_40 : decode cX10_put 40 = .ok (.aload_n 0, 1) := by decide +kernel
theorem dX10_put_41 : decode cX10_put 41 = .ok (.getfield 81, 3) := by decide +kernel
theorem dX10_put_44 : decode cX10_put 44 = .ok (.ireturn, 1) := by decide +kernel
theorem dX10_empty_0 : decode cX10_empty 0 = .ok (.aload_n 0, 1) := by decide +kernel
theorem dX10_empty_1 : decode cX10_empty 1 = .ok (.iconst 0, 1) := by decide +kernel
theorem dX10_empty_2 : decode cX10_empty 2 = .ok (.putfield 78, 3) := by decide +kernel
theorem dX10_empty_5 : decode cX10_empty 5 = .ok (.aload_n 0, 1) := by decide +kernel
theorem dX10_empty_6 : decode cX10_empty 6 = .ok (.getfield 81, 3) := by decide +kernel
theorem dX10_empty_9 : decode cX10_empty 9 = .ok (.istore_n 1, 1) := by decide +kernel
theorem dX10_empty_10 : decode cX10_empty 10 = .ok (.aload_n 0, 1) := by decide +kernel
theorem dX10_empty_11 : decode cX10_empty 11 = .ok (.iconst 0, 1) := by decide +kernel
theorem dX10_empty_12 : decode cX10_empty 12 = .ok (.putfield 81, 3) := by decide +kernel
theorem dX10_empty_15 : decode cX10_empty 15 = .ok (.iload_n 1, 1) := by decide +kernel
theorem dX10_empty_16 : decode cX10_empty 16 = .ok (.ireturn, 1) := by decide +kernel
theorem dX10_source_0 : decode cX10_source 0 = .ok (.aload_n 0, 1) := by decide +kernel
theorem dX10_source_1 : decode cX10_source 1 = .ok (.iload_n 1, 1) := by decide +kernel
theorem dX10_source_2 : decode cX10_source 2 = .ok (.ifCond .lt 23, 3) := by decide +kernel
theorem dX10_source_5 : decode cX10_source 5 = .ok (.iload_n 1, 1) := by decide +kernel
theorem dX10_source_6 : decode cX10_source 6 = .ok (.iconst 2, 1) := by decide +kernel
theorem dX10_source_7 : decode cX10_source 7 = .ok (.if_icmp .gt 18, 3) := by decide +kernel
theorem dX10_source_10 : decode cX10_source 10 = .ok (.iload_n 1, 1) := by decide +kernel
theorem dX10_source_11 : decode cX10_source 11 = .ok (.iconst 1, 1) := by decide +kernel
theorem dX10_source_12 : decode cX10_source 12 = .ok (.if_icmp .ne 17, 3) := by decide +kernel
theorem dX10_source_15 : decode cX10_source 15 = .ok (.iload_n 3, 1) := by decide +kernel
theorem dX10_source_16 : decode cX10_source 16 = .ok (.ifCond .lt 9, 3) := by decide +kernel
theorem dX10_source_19 : decode cX10_source 19 = .ok (.iload_n 3, 1) := by decide +kernel
theorem dX10_source_20 : decode cX10_source 20 = .ok (.bipush 40, 2) := by decide +kernel
theorem dX10_source_22 : decode cX10_source 22 = .ok (.if_icmp .le 7, 3) := by decide +kernel
theorem dX10_source_25 : decode cX10_source 25 = .ok (.iconst 1, 1) := by decide +kernel
theorem dX10_source_26 : decode cX10_source 26 = .ok (.goto 4, 3) := by decide +kernel
theorem dX10_source_29 : decode cX10_source 29 = .ok (.iconst 0, 1) := by decide +kernel
theorem dX10_source_30 : decode cX10_source 30 = .ok (.putfield 78, 3) := by decide +kernel
theorem dX10_source_33 : decode cX10_source 33 = .ok (.aload_n 0, 1) := by decide +kernel
theorem dX10_source_34 : decode cX10_source 34 = .ok (.getfield 78, 3) := by decide +kernel
theorem dX10_source_37 : decode cX10_source 37 = .ok (.ifCond .eq 4, 3) := by decide +kernel
theorem dX10_source_40 : decode cX10_source 40 = .ok (.return_, 1) := by decide +kernel
theorem dX10_source_41 : decode cX10_source 41 = .ok (.aload_n 0, 1) := by decide +kernel
theorem dX10_source_42 : decode cX10_source 42 = .ok (.iconst 1, 1) := by decide +kernel
theorem dX10_source_43 : decode cX10_source 43 = .ok (.putfield 88, 3) := by decide +kernel
theorem dX10_source_46 : decode cX10_source 46 = .ok (.aload_n 0, 1) := by decide +kernel
theorem dX10_source_47 : decode cX10_source 47 = .ok (.iconst 0, 1) := by decide +kernel
theorem dX10_source_48 : decode cX10_source 48 = .ok (.putfield 92, 3) := by decide +kernel
theorem dX10_source_51 : decode cX10_source 51 = .ok (.aload_n 0, 1) := by decide +kernel
theorem dX10_source_52 : decode cX10_source 52 = .ok (.iload_n 1, 1) := by decide +kernel
theorem dX10_source_53 : decode cX10_source 53 = .ok (.putfield 95, 3) := by decide +kernel
theorem dX10_source_56 : decode cX10_source 56 = .ok (.aload_n 0, 1) := by decide +kernel
theorem dX10_source_57 : decode cX10_source 57 = .ok (.iload_n 2, 1) := by decide +kernel
theorem dX10_source_58 : decode cX10_source 58 = .ok (.putfield 98, 3) := by decide +kernel
theorem dX10_source_61 : decode cX10_source 61 = .ok (.aload_n 0, 1) := by decide +kernel
theorem dX10_source_62 : decode cX10_source 62 = .ok (.iload_n 3, 1) := by decide +kernel
theorem dX10_source_63 : decode cX10_source 63 = .ok (.putfield 101, 3) := by decide +kernel
theorem dX10_source_66 : decode cX10_source 66 = .ok (.aload_n 0, 1) := by decide +kernel
theorem dX10_source_67 : decode cX10_source 67 = .ok (.iload 4, 2) := by decide +kernel
theorem dX10_source_69 : decode cX10_source 69 = .ok (.putfield 104, 3) := by decide +kernel
theorem dX10_source_72 : decode cX10_source 72 = .ok (.aload_n 0, 1) := by decide +kernel
theorem dX10_source_73 : decode cX10_source 73 = .ok (.iconst 0, 1) := by decide +kernel
theorem dX10_source_74 : decode cX10_source 74 = .ok (.putfield 107, 3) := by decide +kernel
theorem dX10_source_77 : decode cX10_source 77 = .ok (.return_, 1) := by decide +kernel
theorem dX10_isStage_0 : decode cX10_isStage 0 = .ok (.iload_n 0, 1) := by decide +kernel
theorem dX10_isStage_1 : decode cX10_isStage 1 = .ok (.tableswitch 115 0 7 #[47, 115, 62, 109, 111, 77, 93, 113], 47) := by decide +kernel
theorem dX10_isStage_48 : decode cX10_isStage 48 = .ok (.iload_n 1, 1) := by decide +kernel
theorem dX10_isStage_49 : decode cX10_isStage 49 = .ok (.ifCond .lt 12, 3) := by decide +kernel
theorem dX10_isStage_52 : decode cX10_isStage 52 = .ok (.iload_n 1, 1) := by decide +kernel
theorem dX10_isStage_53 : decode cX10_isStage 53 = .ok (.iconst 3, 1) := by decide +kernel
theorem dX10_isStage_54 : decode cX10_isStage 54 = .ok (.if_icmp .gt 7, 3) := by decide +kernel
theorem dX10_isStage_57 : decode cX10_isStage 57 = .ok (.iconst 1, 1) := by decide +kernel
theorem dX10_isStage_58 : decode cX10_isStage 58 = .ok (.goto 4, 3) := by decide +kernel
theorem dX10_isStage_61 : decode cX10_isStage 61 = .ok (.iconst 0, 1) := by decide +kernel
theorem dX10_isStage_62 : decode cX10_isStage 62 = .ok (.ireturn, 1) := by decide +kernel
theorem dX10_isStage_63 : decode cX10_isStage 63 = .ok (.iload_n 2, 1) := by decide +kernel
theorem dX10_isStage_64 : decode cX10_isStage 64 = .ok (.ifCond .lt 12, 3) := by decide +kernel
theorem dX10_isStage_67 : decode cX10_isStage 67 = .ok (.iload_n 2, 1) := by decide +kernel
theorem dX10_isStage_68 : decode cX10_isStage 68 = .ok (.iconst 4, 1) := by decide +kernel
theorem dX10_isStage_69 : decode cX10_isStage 69 = .ok (.if_icmp .gt 7, 3) := by decide +kernel
theorem dX10_isStage_72 : decode cX10_isStage 72 = .ok (.iconst 1, 1) := by decide +kernel
theorem dX10_isStage_73 : decode cX10_isStage 73 = .ok (.goto 4, 3) := by decide +kernel
theorem dX10_isStage_76 : decode cX10_isStage 76 = .ok (.iconst 0, 1) := by decide +kernel
theorem dX10_isStage_77 : decode cX10_isStage 77 = .ok (.ireturn, 1) := by decide +kernel
theorem dX10_isStage_78 : decode cX10_isStage 78 = .ok (.iload_n 2, 1) := by decide +kernel
theorem dX10_isStage_79 : decode cX10_isStage 79 = .ok (.ifCond .lt 13, 3) := by decide +kernel
theorem dX10_isStage_82 : decode cX10_isStage 82 = .ok (.iload_n 2, 1) := by decide +kernel
theorem dX10_isStage_83 : decode cX10_isStage 83 = .ok (.bipush 100, 2) := by decide +kernel
theorem dX10_isStage_85 : decode cX10_isStage 85 = .ok (.if_icmp .gt 7, 3) := by decide +kernel
theorem dX10_isStage_88 : decode cX10_isStage 88 = .ok (.iconst 1, 1) := by decide +kernel
theorem dX10_isStage_89 : decode cX10_isStage 89 = .ok (.goto 4, 3) := by decide +kernel
theorem dX10_isStage_92 : decode cX10_isStage 92 = .ok (.iconst 0, 1) := by decide +kernel
theorem dX10_isStage_93 : decode cX10_isStage 93 = .ok (.ireturn, 1) := by decide +kernel
theorem dX10_isStage_94 : decode cX10_isStage 94 = .ok (.iload_n 2, 1) := by decide +kernel
theorem dX10_isStage_95 : decode cX10_isStage 95 = .ok (.ifCond .lt 13, 3) := by decide +kernel
theorem dX10_isStage_98 : decode cX10_isStage 98 = .ok (.iload_n 2, 1) := by decide +kernel
theorem dX10_isStage_99 : decode cX10_isStage 99 = .ok (.bipush 100, 2) := by decide +kernel
theorem dX10_isStage_101 : decode cX10_isStage 101 = .ok (.if_icmp .gt 7, 3) := by decide +kernel
theorem dX10_isStage_104 : decode cX10_isStage 104 = .ok (.iconst 1, 1) := by decide +kernel
theorem dX10_isStage_105 : decode cX10_isStage 105 = .ok (.goto 4, 3) := by decide +kernel
theorem dX10_isStage_108 : decode cX10_isStage 108 = .ok (.iconst 0, 1) := by decide +kernel
theorem dX10_isStage_109 : decode cX10_isStage 109 = .ok (.ireturn, 1) := by decide +kernel
theorem dX10_isStage_110 : decode cX10_isStage 110 = .ok (.iconst 1, 1) := by decide +kernel
theorem dX10_isStage_111 : decode cX10_isStage 111 = .ok (.ireturn, 1) := by decide +kernel
theorem dX10_isStage_112 : decode cX10_isStage 112 = .ok (.iconst 1, 1) := by decide +kernel
theorem dX10_isStage_113 : decode cX10_isStage 113 = .ok (.ireturn, 1) := by decide +kernel
theorem dX10_isStage_114 : decode cX10_isStage 114 = .ok (.iconst 1, 1) := by decide +kernel
theorem dX10_isStage_115 : decode cX10_isStage 115 = .ok (.ireturn, 1) := by decide +kernel
theorem dX10_isStage_116 : decode cX10_isStage 116 = .ok (.iload_n 0, 1) := by decide +kernel
theorem dX10_isStage_117 : decode cX10_isStage 117 = .ok (.ifCond .le 22, 3) := by decide +kernel
theorem dX10_isStage_120 : decode cX10_isStage 120 = .ok (.iload_n 0, 1) := by decide +kernel
theorem dX10_isStage_121 : decode cX10_isStage 121 = .ok (.bipush 9, 2) := by decide +kernel
theorem dX10_isStage_123 : decode cX10_isStage 123 = .ok (.if_icmp .gt 16, 3) := by decide +kernel
theorem dX10_isStage_126 : decode cX10_isStage 126 = .ok (.iload_n 1, 1) := by decide +kernel
theorem dX10_isStage_127 : decode cX10_isStage 127 = .ok (.ifCond .lt 12, 3) := by decide +kernel
theorem dX10_isStage_130 : decode cX10_isStage 130 = .ok (.iload_n 1, 1) := by decide +kernel
theorem dX10_isStage_131 : decode cX10_isStage 131 = .ok (.iconst 4, 1) := by decide +kernel
theorem dX10_isStage_132 : decode cX10_isStage 132 = .ok (.if_icmp .gt 7, 3) := by decide +kernel
theorem dX10_isStage_135 : decode cX10_isStage 135 = .ok (.iconst 1, 1) := by decide +kernel
theorem dX10_isStage_136 : decode cX10_isStage 136 = .ok (.goto 4, 3) := by decide +kernel
theorem dX10_isStage_139 : decode cX10_isStage 139 = .ok (.iconst 0, 1) := by decide +kernel
theorem dX10_isStage_140 : decode cX10_isStage 140 = .ok (.ireturn, 1) := by decide +kernel
theorem dX10_stage_0 : decode cX10_stage 0 = .ok (.aload_n 0, 1) := by decide +kernel
theorem dX10_stage_1 : decode cX10_stage 1 = .ok (.iconst 0, 1) := by decide +kernel
theorem dX10_stage_2 : decode cX10_stage 2 = .ok (.putfield 78, 3) := by decide +kernel
theorem dX10_stage_5 : decode cX10_stage 5 = .ok (.aload_n 0, 1) := by decide +kernel
theorem dX10_stage_6 : decode cX10_stage 6 = .ok (.getfield 88, 3) := by decide +kernel
theorem dX10_stage_9 : decode cX10_stage 9 = .ok (.ifCond .eq 10, 3) := by decide +kernel
theorem dX10_stage_12 : decode cX10_stage 12 = .ok (.aload_n 0, 1) := by decide +kernel
theorem dX10_stage_13 : decode cX10_stage 13 = .ok (.getfield 92, 3) := by decide +kernel
theorem dX10_stage_16 : decode cX10_stage 16 = .ok (.ifCond .eq 9, 3) := by decide +kernel
theorem dX10_stage_19 : decode cX10_stage 19 = .ok (.aload_n 0, 1) := by decide +kernel
theorem dX10_stage_20 : decode cX10_stage 20 = .ok (.iconst 1, 1) := by decide +kernel
theorem dX10_stage_21 : decode cX10_stage 21 = .ok (.invokevirtual 84, 3) := by decide +kernel
theorem dX10_stage_24 : decode cX10_stage 24 = .ok (.ireturn, 1) := by decide +kernel
theorem dX10_stage_25 : decode cX10_stage 25 = .ok (.aload_n 0, 1) := by decide +kernel
theorem dX10_stage_26 : decode cX10_stage 26 = .ok (.getfield 107, 3) := by decide +kernel
theorem dX10_stage_29 : decode cX10_stage 29 = .ok (.bipush 6, 2) := by decide +kernel
theorem dX10_stage_31 : decode cX10_stage 31 = .ok (.if_icmp .eq 12, 3) := by decide +kernel
theorem dX10_stage_34 : decode cX10_stage 34 = .ok (.iload_n 1, 1) := by decide +kernel
theorem dX10_stage_35 : decode cX10_stage 35 = .ok (.iload_n 2, 1) := by decide +kernel
theorem dX10_stage_36 : decode cX10_stage 36 = .ok (.iload_n 3, 1) := by decide +kernel
theorem dX10_stage_37 : decode cX10_stage 37 = .ok (.invokestatic 110, 3) := by decide +kernel
theorem dX10_stage_40 : decode cX10_stage 40 = .ok (.ifCond .ne 9, 3) := by decide +kernel
theorem dX10_stage_43 : decode cX10_stage 43 = .ok (.aload_n 0, 1) := by decide +kernel
theorem dX10_stage_44 : decode cX10_stage 44 = .ok (.iconst 2, 1) := by decide +kernel
theorem dX10_stage_45 : decode cX10_stage 45 = .ok (.invokevirtual 84, 3) := by decide +kernel
theorem dX10_stage_48 : decode cX10_stage 48 = .ok (.ireturn, 1) := by decide +kernel
theorem dX10_stage_49 : decode cX10_stage 49 = .ok (.aload_n 0, 1) := by decide +kernel
theorem dX10_stage_50 : decode cX10_stage 50 = .ok (.getfield 13, 3) := by decide +kernel
theorem dX10_stage_53 : decode cX10_stage 53 = .ok (.aload_n 0, 1) := by decide +kernel
theorem dX10_stage_54 : decode cX10_stage 54 = .ok (.getfield 107, 3) := by decide +kernel
theorem dX10_stage_57 : decode cX10_stage 57 = .ok (.iload_n 1, 1) := by decide +kernel
theorem dX10_stage_58 : decode cX10_stage 58 = .ok (.iastore, 1) := by decide +kernel
theorem dX10_stage_59 : decode cX10_stage 59 = .ok (.aload_n 0, 1) := by decide +kernel
theorem dX10_stage_60 : decode cX10_stage 60 = .ok (.getfield 16, 3) := by decide +kernel
theorem dX10_stage_63 : decode cX10_stage 63 = .ok (.aload_n 0, 1) := by decide +kernel
theorem dX10_stage_64 : decode cX10_stage 64 = .ok (.getfield 107, 3) := by decide +kernel
theorem dX10_stage_67 : decode cX10_stage 67 = .ok (.iload_n 2, 1) := by decide +kernel
theorem dX10_stage_68 : decode cX10_stage 68 = .ok (.iastore, 1) := by decide +kernel
theorem dX10_stage_69 : decode cX10_stage 69 = .ok (.aload_n 0, 1) := by decide +kernel
theorem dX10_stage_70 : decode cX10_stage 70 = .ok (.getfield 19, 3) := by decide +kernel
theorem dX10_stage_73 : decode cX10_stage 73 = .ok (.aload_n 0, 1) := by decide +kernel
theorem dX10_stage_74 : decode cX10_stage 74 = .ok (.getfield 107, 3) := by decide +kernel
theorem dX10_stage_77 : decode cX10_stage 77 = .ok (.iload_n 3, 1) := by decide +kernel
theorem dX10_stage_78 : decode cX10_stage 78 = .ok (.iastore, 1) := by decide +kernel
theorem dX10_stage_79 : decode cX10_stage 79 = .ok (.aload_n 0, 1) := by decide +kernel
theorem dX10_stage_80 : decode cX10_stage 80 = .ok (.getfield 22, 3) := by decide +kernel
theorem dX10_stage_83 : decode cX10_stage 83 = .ok (.aload_n 0, 1) := by decide +kernel
theorem dX10_stage_84 : decode cX10_stage 84 = .ok (.getfield 107, 3) := by decide +kernel
theorem dX10_stage_87 : decode cX10_stage 87 = .ok (.iconst 0, 1) := by decide +kernel
theorem dX10_stage_88 : decode cX10_stage 88 = .ok (.iastore, 1) := by decide +kernel
theorem dX10_stage_89 : decode cX10_stage 89 = .ok (.aload_n 0, 1) := by decide +kernel
theorem dX10_stage_90 : decode cX10_stage 90 = .ok (.dup, 1) := by decide +kernel
theorem dX10_stage_91 : decode cX10_stage 91 = .ok (.getfield 107, 3) := by decide +kernel
theorem dX10_stage_94 : decode cX10_stage 94 = .ok (.iconst 1, 1) := by decide +kernel
theorem dX10_stage_95 : decode cX10_stage 95 = .ok (.iadd, 1) := by decide +kernel
theorem dX10_stage_96 : decode cX10_stage 96 = .ok (.putfield 107, 3) := by decide +kernel
theorem dX10_stage_99 : decode cX10_stage 99 = .ok (.aload_n 0, 1) := by decide +kernel
theorem dX10_stage_100 : decode cX10_stage 100 = .ok (.getfield 107, 3) := by decide +kernel
theorem dX10_stage_103 : decode cX10_stage 103 = .ok (.ireturn, 1) := by decide +kernel
theorem dX10_flags_0 : decode cX10_flags 0 = .ok (.aload_n 0, 1) := by decide +kernel
theorem dX10_flags_1 : decode cX10_flags 1 = .ok (.iconst 0, 1) := by decide +kernel
theorem dX10_flags_2 : decode cX10_flags 2 = .ok (.putfield 78, 3) := by decide +kernel
theorem dX10_flags_5 : decode cX10_flags 5 = .ok (.aload_n 0, 1) := by decide +kernel
theorem dX10_flags_6 : decode cX10_flags 6 = .ok (.getfield 88, 3) := by decide +kernel
theorem dX10_flags_9 : decode cX10_flags 9 = .ok (.ifCond .ne 9, 3) := by decide +kernel
theorem dX10_flags_12 : decode cX10_flags 12 = .ok (.aload_n 0, 1) := by decide +kernel
theorem dX10_flags_13 : decode cX10_flags 13 = .ok (.iconst 1, 1) := by decide +kernel
theorem dX10_flags_14 : decode cX10_flags 14 = .ok (.invokevirtual 84, 3) := by decide +kernel
theorem dX10_flags_17 : decode cX10_flags 17 = .ok (.ireturn, 1) := by decide +kernel
theorem dX10_flags_18 : decode cX10_flags 18 = .ok (.aload_n 0, 1) := by decide +kernel
theorem dX10_flags_19 : decode cX10_flags 19 = .ok (.getfield 95, 3) := by decide +kernel
theorem dX10_flags_22 : decode cX10_flags 22 = .ok (.ifCond .ne 7, 3) := by decide +kernel
theorem dX10_flags_25 : decode cX10_flags 25 = .ok (.iconst 1, 1) := by decide +kernel
theorem dX10_flags_26 : decode cX10_flags 26 = .ok (.goto 17, 3) := by decide +kernel
theorem dX10_flags_29 : decode cX10_flags 29 = .ok (.aload_n 0, 1) := by decide +kernel
theorem dX10_flags_30 : decode cX10_flags 30 = .ok (.getfield 95, 3) := by decide +kernel
theorem dX10_flags_33 : decode cX10_flags 33 = .ok (.iconst 1, 1) := by decide +kernel
theorem dX10_flags_34 : decode cX10_flags 34 = .ok (.if_icmp .ne 8, 3) := by decide +kernel
theorem dX10_flags_37 : decode cX10_flags 37 = .ok (.bipush 7, 2) := by decide +kernel
theorem dX10_flags_39 : decode cX10_flags 39 = .ok (.goto 4, 3) := by decide +kernel
theorem dX10_flags_42 : decode cX10_flags 42 = .ok (.iconst 0, 1) := by decide +kernel
theorem dX10_flags_43 : decode cX10_flags 43 = .ok (.istore_n 1, 1) := by decide +kernel
theorem dX10_flags_44 : decode cX10_flags 44 = .ok (.iconst 0, 1) := by decide +kernel
theorem dX10_flags_45 : decode cX10_flags 45 = .ok (.istore_n 2, 1) := by decide +kernel
theorem dX10_flags_46 : decode cX10_flags 46 = .ok (.iload_n 2, 1) := by decide +kernel
theorem dX10_flags_47 : decode cX10_flags 47 = .ok (.aload_n 0, 1) := by decide +kernel
theorem dX10_flags_48 : decode cX10_flags 48 = .ok (.getfield 107, 3) := by decide +kernel
theorem dX10_flags_51 : decode cX10_flags 51 = .ok (.if_icmp .ge 139, 3) := by decide +kernel
theorem dX10_flags_54 : decode cX10_flags 54 = .ok (.aload_n 0, 1) := by decide +kernel
theorem dX10_flags_55 : decode cX10_flags 55 = .ok (.getfield 13, 3) := by decide +kernel
theorem dX10_flags_58 : decode cX10_flags 58 = .ok (.iload_n 2, 1) := by decide +kernel
theorem dX10_flags_59 : decode cX10_flags 59 = .ok (.iaload, 1) := by decide +kernel
theorem dX10_flags_60 : decode cX10_flags 60 = .ok (.tableswitch 124 0 9 #[56, 108, 64, 72, 82, 89, 124, 124, 97, 116], 56) := by decide +kernel
theorem dX10_flags_116 : decode cX10_flags 116 = .ok (.iload_n 1, 1) := by decide +kernel
theorem dX10_flags_117 : decode cX10_flags 117 = .ok (.bipush 9, 2) := by decide +kernel
theorem dX10_flags_119 : decode cX10_flags 119 = .ok (.iand, 1) := by decide +kernel
theorem dX10_flags_120 : decode cX10_flags 120 = .ok (.istore_n 1, 1) := by decide +kernel
theorem dX10_flags_121 : decode cX10_flags 121 = .ok (.goto 63, 3) := by decide +kernel
theorem dX10_flags_124 : decode cX10_flags 124 = .ok (.iload_n 1, 1) := by decide +kernel
theorem dX10_flags_125 : decode cX10_flags 125 = .ok (.bipush 8, 2) := by decide +kernel
theorem dX10_flags_127 : decode cX10_flags 127 = .ok (.iand, 1) := by decide +kernel
theorem dX10_flags_128 : decode cX10_flags 128 = .ok (.istore_n 1, 1) := by decide +kernel
theorem dX10_flags_129 : decode cX10_flags 129 = .ok (.goto 55, 3) := by decide +kernel
theorem dX10_flags_132 : decode cX10_flags 132 = .ok (.iload_n 1, 1) := by decide +kernel
theorem dX10_flags_133 : decode cX10_flags 133 = .ok (.bipush 14, 2) := by decide +kernel
theorem dX10_flags_135 : decode cX10_flags 135 = .ok (.iand, 1) := by decide +kernel
theorem dX10_flags_136 : decode cX10_flags 136 = .ok (.iconst 4, 1) := by decide +kernel
theorem dX10_flags_137 : decode cX10_flags 137 = .ok (.ior, 1) := by decide +kernel
theorem dX10_flags_138 : decode cX10_flags 138 = .ok (.istore_n 1, 1) := by decide +kernel
theorem dX10_flags_139 : decode cX10_flags 139 = .ok (.goto 45, 3) := by decide +kernel
theorem dX10_flags_142 : decode cX10_flags 142 = .ok (.iload_n 1, 1) := by decide +kernel
theorem dX10_flags_143 : decode cX10_flags 143 = .ok (.iconst 2, 1) := by decide +kernel
theorem dX10_flags_144 : decode cX10_flags 144 = .ok (.ior, 1) := by decide +kernel
theorem dX10_flags_145 : decode cX10_flags 145 = .ok (.istore_n 1, 1) := by decide +kernel
theorem dX10_flags_146 : decode cX10_flags 146 = .ok (.goto 38, 3) := by decide +kernel
theorem dX10_flags_149 : decode cX10_flags 149 = .ok (.iload_n 1, 1) := by decide +kernel
theorem dX10_flags_150 : decode cX10_flags 150 = .ok (.bipush 8, 2) := by decide +kernel
theorem dX10_flags_152 : decode cX10_flags 152 = .ok (.ior, 1) := by decide +kernel
theorem dX10_flags_153 : decode cX10_flags 153 = .ok (.istore_n 1, 1) := by decide +kernel
theorem dX10_flags_154 : decode cX10_flags 154 = .ok (.goto 30, 3) := by decide +kernel
theorem dX10_flags_157 : decode cX10_flags 157 = .ok (.iload_n 1, 1) := by decide +kernel
theorem dX10_flags_158 : decode cX10_flags 158 = .ok (.bipush 14, 2) := by decide +kernel
theorem dX10_flags_160 : decode cX10_flags 160 = .ok (.iand, 1) := by decide +kernel
theorem dX10_flags_161 : decode cX10_flags 161 = .ok (.bipush 8, 2) := by decide +kernel
theorem dX10_flags_163 : decode cX10_flags 163 = .ok (.ior, 1) := by decide +kernel
theorem dX10_flags_164 : decode cX10_flags 164 = .ok (.istore_n 1, 1) := by decide +kernel
theorem dX10_flags_165 : decode cX10_flags 165 = .ok (.goto 19, 3) := by decide +kernel
theorem dX10_flags_168 : decode cX10_flags 168 = .ok (.iload_n 1, 1) := by decide +kernel
theorem dX10_flags_169 : decode cX10_flags 169 = .ok (.bipush 14, 2) := by decide +kernel
theorem dX10_flags_171 : decode cX10_flags 171 = .ok (.iand, 1) := by decide +kernel
theorem dX10_flags_172 : decode cX10_flags 172 = .ok (.istore_n 1, 1) := by decide +kernel
theorem dX10_flags_173 : decode cX10_flags 173 = .ok (.goto 11, 3) := by decide +kernel
theorem dX10_flags_176 : decode cX10_flags 176 = .ok (.iload_n 1, 1) := by decide +kernel
theorem dX10_flags_177 : decode cX10_flags 177 = .ok (.bipush 14, 2) := by decide +kernel
theorem dX10_flags_179 : decode cX10_flags 179 = .ok (.iand, 1) := by decide +kernel
theorem dX10_flags_180 : decode cX10_flags 180 = .ok (.istore_n 1, 1) := by decide +kernel
theorem dX10_flags_181 : decode cX10_flags 181 = .ok (.goto 3, 3) := by decide +kernel
theorem dX10_flags_184 : decode cX10_flags 184 = .ok (.iinc 2 1, 3) := by decide +kernel
theorem dX10_flags_187 : decode cX10_flags 187 = .ok (.goto (-141), 3) := by decide +kernel
theorem dX10_flags_190 : decode cX10_flags 190 = .ok (.iload_n 1, 1) := by decide +kernel
theorem dX10_flags_191 : decode cX10_flags 191 = .ok (.ireturn, 1) := by decide +kernel
theorem dX10_passes_0 : decode cX10_passes 0 = .ok (.iload_n 1, 1) := by decide +kernel
theorem dX10_passes_1 : decode cX10_passes 1 = .ok (.tableswitch 75 0 3 #[31, 42, 53, 64], 31) := by decide +kernel
theorem dX10_passes_32 : decode cX10_passes 32 = .ok (.iload_n 0, 1) := by decide +kernel
theorem dX10_passes_33 : decode cX10_passes 33 = .ok (.iload_n 2, 1) := by decide +kernel
theorem dX10_passes_34 : decode cX10_passes 34 = .ok (.if_icmp .ne 7, 3) := by decide +kernel
theorem dX10_passes_37 : decode cX10_passes 37 = .ok (.iconst 1, 1) := by decide +kernel
theorem dX10_passes_38 : decode cX10_passes 38 = .ok (.goto 4, 3) := by decide +kernel
theorem dX10_passes_41 : decode cX10_passes 41 = .ok (.iconst 0, 1) := by decide +kernel
theorem dX10_passes_42 : decode cX10_passes 42 = .ok (.ireturn, 1) := by decide +kernel
theorem dX10_passes_43 : decode cX10_passes 43 = .ok (.iload_n 0, 1) := by decide +kernel
theorem dX10_passes_44 : decode cX10_passes 44 = .ok (.iload_n 2, 1) := by decide +kernel
theorem dX10_passes_45 : decode cX10_passes 45 = .ok (.if_icmp .eq 7, 3) := by decide +kernel
theorem dX10_passes_48 : decode cX10_passes 48 = .ok (.iconst 1, 1) := by decide +kernel
theorem dX10_passes_49 : decode cX10_passes 49 = .ok (.goto 4, 3) := by decide +kernel
theorem dX10_passes_52 : decode cX10_passes 52 = .ok (.iconst 0, 1) := by decide +kernel
theorem dX10_passes_53 : decode cX10_passes 53 = .ok (.ireturn, 1) := by decide +kernel
theorem dX10_passes_54 : decode cX10_passes 54 = .ok (.iload_n 0, 1) := by decide +kernel
theorem dX10_passes_55 : decode cX10_passes 55 = .ok (.iload_n 2, 1) := by decide +kernel
theorem dX10_passes_56 : decode cX10_passes 56 = .ok (.if_icmp .ge 7, 3) := by decide +kernel
theorem dX10_passes_59 : decode cX10_passes 59 = .ok (.iconst 1, 1) := by decide +kernel
theorem dX10_passes_60 : decode cX10_passes 60 = .ok (.goto 4, 3) := by decide +kernel
theorem dX10_passes_63 : decode cX10_passes 63 = .ok (.iconst 0, 1) := by decide +kernel
theorem dX10_passes_64 : decode cX10_passes 64 = .ok (.ireturn, 1) := by decide +kernel
theorem dX10_passes_65 : decode cX10_passes 65 = .ok (.iload_n 0, 1) := by decide +kernel
theorem dX10_passes_66 : decode cX10_passes 66 = .ok (.iload_n 2, 1) := by decide +kernel
theorem dX10_passes_67 : decode cX10_passes 67 = .ok (.if_icmp .le 7, 3) := by decide +kernel
theorem dX10_passes_70 : decode cX10_passes 70 = .ok (.iconst 1, 1) := by decide +kernel
theorem dX10_passes_71 : decode cX10_passes 71 = .ok (.goto 4, 3) := by decide +kernel
theorem dX10_passes_74 : decode cX10_passes 74 = .ok (.iconst 0, 1) := by decide +kernel
theorem dX10_passes_75 : decode cX10_passes 75 = .ok (.ireturn, 1) := by decide +kernel
theorem dX10_passes_76 : decode cX10_passes 76 = .ok (.iload_n 2, 1) := by decide +kernel
theorem dX10_passes_77 : decode cX10_passes 77 = .ok (.ifCond .ne 15, 3) := by decide +kernel
theorem dX10_passes_80 : decode cX10_passes 80 = .ok (.iload_n 0, 1) := by decide +kernel
theorem dX10_passes_81 : decode cX10_passes 81 = .ok (.ifCond .ne 7, 3) := by decide +kernel
theorem dX10_passes_84 : decode cX10_passes 84 = .ok (.iconst 1, 1) := by decide +kernel
theorem dX10_passes_85 : decode cX10_passes 85 = .ok (.goto 18, 3) := by decide +kernel
theorem dX10_passes_88 : decode cX10_passes 88 = .ok (.iconst 0, 1) := by decide +kernel
theorem dX10_passes_89 : decode cX10_passes 89 = .ok (.goto 14, 3) := by decide +kernel
theorem dX10_passes_92 : decode cX10_passes 92 = .ok (.iload_n 0, 1) := by decide +kernel
theorem dX10_passes_93 : decode cX10_passes 93 = .ok (.iload_n 2, 1) := by decide +kernel
theorem dX10_passes_94 : decode cX10_passes 94 = .ok (.irem, 1) := by decide +kernel
theorem dX10_passes_95 : decode cX10_passes 95 = .ok (.ifCond .ne 7, 3) := by decide +kernel
theorem dX10_passes_98 : decode cX10_passes 98 = .ok (.iconst 1, 1) := by decide +kernel
theorem dX10_passes_99 : decode cX10_passes 99 = .ok (.goto 4, 3) := by decide +kernel
theorem dX10_passes_102 : decode cX10_passes 102 = .ok (.iconst 0, 1) := by decide +kernel
theorem dX10_passes_103 : decode cX10_passes 103 = .ok (.ireturn, 1) := by decide +kernel
theorem dX10_mapped_0 : decode cX10_mapped 0 = .ok (.iload_n 1, 1) := by decide +kernel
theorem dX10_mapped_1 : decode cX10_mapped 1 = .ok (.tableswitch 39 0 2 #[27, 31, 35], 27) := by decide +kernel
theorem dX10_mapped_28 : decode cX10_mapped 28 = .ok (.iload_n 0, 1) := by decide +kernel
theorem dX10_mapped_29 : decode cX10_mapped 29 = .ok (.iload_n 2, 1) := by decide +kernel
theorem dX10_mapped_30 : decode cX10_mapped 30 = .ok (.iadd, 1) := by decide +kernel
theorem dX10_mapped_31 : decode cX10_mapped 31 = .ok (.ireturn, 1) := by decide +kernel
theorem dX10_mapped_32 : decode cX10_mapped 32 = .ok (.iload_n 0, 1) := by decide +kernel
theorem dX10_mapped_33 : decode cX10_mapped 33 = .ok (.iload_n 2, 1) := by decide +kernel
theorem dX10_mapped_34 : decode cX10_mapped 34 = .ok (.imul, 1) := by decide +kernel
theorem dX10_mapped_35 : decode cX10_mapped 35 = .ok (.ireturn, 1) := by decide +kernel
theorem dX10_mapped_36 : decode cX10_mapped 36 = .ok (.iload_n 2, 1) := by decide +kernel
theorem dX10_mapped_37 : decode cX10_mapped 37 = .ok (.iload_n 0, 1) := by decide +kernel
theorem dX10_mapped_38 : decode cX10_mapped 38 = .ok (.isub, 1) := by decide +kernel
theorem dX10_mapped_39 : decode cX10_mapped 39 = .ok (.ireturn, 1) := by decide +kernel
theorem dX10_mapped_40 : decode cX10_mapped 40 = .ok (.iload_n 2, 1) := by decide +kernel
theorem dX10_mapped_41 : decode cX10_mapped 41 = .ok (.ifCond .ne 7, 3) := by decide +kernel
theorem dX10_mapped_44 : decode cX10_mapped 44 = .ok (.iconst 0, 1) := by decide +kernel
theorem dX10_mapped_45 : decode cX10_mapped 45 = .ok (.goto 6, 3) := by decide +kernel
theorem dX10_mapped_48 : decode cX10_mapped 48 = .ok (.iload_n 0, 1) := by decide +kernel
theorem dX10_mapped_49 : decode cX10_mapped 49 = .ok (.iload_n 2, 1) := by decide +kernel
theorem dX10_mapped_50 : decode cX10_mapped 50 = .ok (.irem, 1) := by decide +kernel
theorem dX10_mapped_51 : decode cX10_mapped 51 = .ok (.ireturn, 1) := by decide +kernel
theorem dX10_holds_0 : decode cX10_holds 0 = .ok (.iconst 0, 1) := by decide +kernel
theorem dX10_holds_1 : decode cX10_holds 1 = .ok (.istore_n 3, 1) := by decide +kernel
theorem dX10_holds_2 : decode cX10_holds 2 = .ok (.iconst 0, 1) := by decide +kernel
theorem dX10_holds_3 : decode cX10_holds 3 = .ok (.istore 4, 2) := by decide +kernel
theorem dX10_holds_5 : decode cX10_holds 5 = .ok (.iload 4, 2) := by decide +kernel
theorem dX10_holds_7 : decode cX10_holds 7 = .ok (.aload_n 0, 1) := by decide +kernel
theorem dX10_holds_8 : decode cX10_holds 8 = .ok (.getfield 25, 3) := by decide +kernel
theorem dX10_holds_11 : decode cX10_holds 11 = .ok (.iload_n 1, 1) := by decide +kernel
theorem dX10_holds_12 : decode cX10_holds 12 = .ok (.iaload, 1) := by decide +kernel
theorem dX10_holds_13 : decode cX10_holds 13 = .ok (.if_icmp .ge 36, 3) := by decide +kernel
theorem dX10_holds_16 : decode cX10_holds 16 = .ok (.iload_n 3, 1) := by decide +kernel
theorem dX10_holds_17 : decode cX10_holds 17 = .ok (.ifCond .ne 20, 3) := by decide +kernel
theorem dX10_holds_20 : decode cX10_holds 20 = .ok (.aload_n 0, 1) := by decide +kernel
theorem dX10_holds_21 : decode cX10_holds 21 = .ok (.getfield 32, 3) := by decide +kernel
theorem dX10_holds_24 : decode cX10_holds 24 = .ok (.sipush 600, 3) := by decide +kernel
theorem dX10_holds_27 : decode cX10_holds 27 = .ok (.iload_n 1, 1) := by decide +kernel
theorem dX10_holds_28 : decode cX10_holds 28 = .ok (.imul, 1) := by decide +kernel
theorem dX10_holds_29 : decode cX10_holds 29 = .ok (.iload 4, 2) := by decide +kernel
theorem dX10_holds_31 : decode cX10_holds 31 = .ok (.iadd, 1) := by decide +kernel
theorem dX10_holds_32 : decode cX10_holds 32 = .ok (.iaload, 1) := by decide +kernel
theorem dX10_holds_33 : decode cX10_holds 33 = .ok (.iload_n 2, 1) := by decide +kernel
theorem dX10_holds_34 : decode cX10_holds 34 = .ok (.if_icmp .ne 7, 3) := by decide +kernel
theorem dX10_holds_37 : decode cX10_holds 37 = .ok (.iconst 1, 1) := by decide +kernel
theorem dX10_holds_38 : decode cX10_holds 38 = .ok (.goto 4, 3) := by decide +kernel
theorem dX10_holds_41 : decode cX10_holds 41 = .ok (.iconst 0, 1) := by decide +kernel
theorem dX10_holds_42 : decode cX10_holds 42 = .ok (.istore_n 3, 1) := by decide +kernel
theorem dX10_holds_43 : decode cX10_holds 43 = .ok (.iinc 4 1, 3) := by decide +kernel
theorem dX10_holds_46 : decode cX10_holds 46 = .ok (.goto (-41), 3) := by decide +kernel
theorem dX10_holds_49 : decode cX10_holds 49 = .ok (.iload_n 3, 1) := by decide +kernel
theorem dX10_holds_50 : decode cX10_holds 50 = .ok (.ireturn, 1) := by decide +kernel
theorem dX10_hold_0 : decode cX10_hold 0 = .ok (.aload_n 0, 1) := by decide +kernel
