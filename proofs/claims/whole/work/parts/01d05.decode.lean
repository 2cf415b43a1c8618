theorem dX10_wants_62 : decode cX10_wants 62 = .ok (.bipush 8, 2) := by decide +kernel
theorem dX10_wants_64 : decode cX10_wants 64 = .ok (.if_icmp .ne 14, 3) := by decide +kernel
theorem dX10_wants_67 : decode cX10_wants 67 = .ok (.aload_n 0, 1) := by decide +kernel
theorem dX10_wants_68 : decode cX10_wants 68 = .ok (.getfield 28, 3) := by decide +kernel
theorem dX10_wants_71 : decode cX10_wants 71 = .ok (.iload_n 2, 1) := by decide +kernel
theorem dX10_wants_72 : decode cX10_wants 72 = .ok (.baload, 1) := by decide +kernel
theorem dX10_wants_73 : decode cX10_wants 73 = .ok (.ifCond .eq 5, 3) := by decide +kernel
theorem dX10_wants_76 : decode cX10_wants 76 = .ok (.iconst 0, 1) := by decide +kernel
theorem dX10_wants_77 : decode cX10_wants 77 = .ok (.ireturn, 1) := by decide +kernel
theorem dX10_wants_78 : decode cX10_wants 78 = .ok (.iinc 2 1, 3) := by decide +kernel
theorem dX10_wants_81 : decode cX10_wants 81 = .ok (.goto (-79), 3) := by decide +kernel
theorem dX10_wants_84 : decode cX10_wants 84 = .ok (.aload_n 0, 1) := by decide +kernel
theorem dX10_wants_85 : decode cX10_wants 85 = .ok (.getfield 137, 3) := by decide +kernel
theorem dX10_wants_88 : decode cX10_wants 88 = .ok (.ifCond .ne 7, 3) := by decide +kernel
theorem dX10_wants_91 : decode cX10_wants 91 = .ok (.iconst 1, 1) := by decide +kernel
theorem dX10_wants_92 : decode cX10_wants 92 = .ok (.goto 4, 3) := by decide +kernel
theorem dX10_wants_95 : decode cX10_wants 95 = .ok (.iconst 0, 1) := by decide +kernel
theorem dX10_wants_96 : decode cX10_wants 96 = .ok (.ireturn, 1) := by decide +kernel
theorem dX10_begin_0 : decode cX10_begin 0 = .ok (.aload_n 0, 1) := by decide +kernel
theorem dX10_begin_1 : decode cX10_begin 1 = .ok (.getfield 35, 3) := by decide +kernel
theorem dX10_begin_4 : decode cX10_begin 4 = .ok (.aload_n 0, 1) := by decide +kernel
theorem dX10_begin_5 : decode cX10_begin 5 = .ok (.getfield 159, 3) := by decide +kernel
theorem dX10_begin_8 : decode cX10_begin 8 = .ok (.iload_n 1, 1) := by decide +kernel
theorem dX10_begin_9 : decode cX10_begin 9 = .ok (.iastore, 1) := by decide +kernel
theorem dX10_begin_10 : decode cX10_begin 10 = .ok (.aload_n 0, 1) := by decide +kernel
theorem dX10_begin_11 : decode cX10_begin 11 = .ok (.getfield 38, 3) := by decide +kernel
theorem dX10_begin_14 : decode cX10_begin 14 = .ok (.aload_n 0, 1) := by decide +kernel
theorem dX10_begin_15 : decode cX10_begin 15 = .ok (.getfield 159, 3) := by decide +kernel
theorem dX10_begin_18 : decode cX10_begin 18 = .ok (.iload_n 2, 1) := by decide +kernel
theorem dX10_begin_19 : decode cX10_begin 19 = .ok (.iastore, 1) := by decide +kernel
theorem dX10_begin_20 : decode cX10_begin 20 = .ok (.aload_n 0, 1) := by decide +kernel
theorem dX10_begin_21 : decode cX10_begin 21 = .ok (.getfield 41, 3) := by decide +kernel
theorem dX10_begin_24 : decode cX10_begin 24 = .ok (.aload_n 0, 1) := by decide +kernel
theorem dX10_begin_25 : decode cX10_begin 25 = .ok (.getfield 159, 3) := by decide +kernel
theorem dX10_begin_28 : decode cX10_begin 28 = .ok (.iload_n 3, 1) := by decide +kernel
theorem dX10_begin_29 : decode cX10_begin 29 = .ok (.iastore, 1) := by decide +kernel
theorem dX10_begin_30 : decode cX10_begin 30 = .ok (.aload_n 0, 1) := by decide +kernel
theorem dX10_begin_31 : decode cX10_begin 31 = .ok (.dup, 1) := by decide +kernel
theorem dX10_begin_32 : decode cX10_begin 32 = .ok (.getfield 159, 3) := by decide +kernel
theorem dX10_begin_35 : decode cX10_begin 35 = .ok (.iconst 1, 1) := by decide +kernel
theorem dX10_begin_36 : decode cX10_begin 36 = .ok (.iadd, 1) := by decide +kernel
theorem dX10_begin_37 : decode cX10_begin 37 = .ok (.putfield 159, 3) := by decide +kernel
theorem dX10_begin_40 : decode cX10_begin 40 = .ok (.return_, 1) := by decide +kernel
theorem dX10_goesOn_0 : decode cX10_goesOn 0 = .ok (.iload_n 2, 1) := by decide +kernel
theorem dX10_goesOn_1 : decode cX10_goesOn 1 = .ok (.istore_n 3, 1) := by decide +kernel
theorem dX10_goesOn_2 : decode cX10_goesOn 2 = .ok (.iload_n 1, 1) := by decide +kernel
theorem dX10_goesOn_3 : decode cX10_goesOn 3 = .ok (.istore 4, 2) := by decide +kernel
theorem dX10_goesOn_5 : decode cX10_goesOn 5 = .ok (.iload 4, 2) := by decide +kernel
theorem dX10_goesOn_7 : decode cX10_goesOn 7 = .ok (.aload_n 0, 1) := by decide +kernel
theorem dX10_goesOn_8 : decode cX10_goesOn 8 = .ok (.getfield 107, 3) := by decide +kernel
theorem dX10_goesOn_11 : decode cX10_goesOn 11 = .ok (.if_icmp .ge 109, 3) := by decide +kernel
theorem dX10_goesOn_14 : decode cX10_goesOn 14 = .ok (.aload_n 0, 1) := by decide +kernel
theorem dX10_goesOn_15 : decode cX10_goesOn 15 = .ok (.getfield 22, 3) := by decide +kernel
theorem dX10_goesOn_18 : decode cX10_goesOn 18 = .ok (.iload 4, 2) := by decide +kernel
theorem dX10_goesOn_20 : decode cX10_goesOn 20 = .ok (.dup2, 1) := by decide +kernel
theorem dX10_goesOn_21 : decode cX10_goesOn 21 = .ok (.iaload, 1) := by decide +kernel
theorem dX10_goesOn_22 : decode cX10_goesOn 22 = .ok (.iconst 1, 1) := by decide +kernel
theorem dX10_goesOn_23 : decode cX10_goesOn 23 = .ok (.iadd, 1) := by decide +kernel
theorem dX10_goesOn_24 : decode cX10_goesOn 24 = .ok (.iastore, 1) := by decide +kernel
theorem dX10_goesOn_25 : decode cX10_goesOn 25 = .ok (.aload_n 0, 1) := by decide +kernel
theorem dX10_goesOn_26 : decode cX10_goesOn 26 = .ok (.getfield 13, 3) := by decide +kernel
theorem dX10_goesOn_29 : decode cX10_goesOn 29 = .ok (.iload 4, 2) := by decide +kernel
theorem dX10_goesOn_31 : decode cX10_goesOn 31 = .ok (.iaload, 1) := by decide +kernel
theorem dX10_goesOn_32 : decode cX10_goesOn 32 = .ok (.iconst 2, 1) := by decide +kernel
theorem dX10_goesOn_33 : decode cX10_goesOn 33 = .ok (.if_icmp .ne 18, 3) := by decide +kernel
theorem dX10_goesOn_36 : decode cX10_goesOn 36 = .ok (.aload_n 0, 1) := by decide +kernel
theorem dX10_goesOn_37 : decode cX10_goesOn 37 = .ok (.iload 4, 2) := by decide +kernel
theorem dX10_goesOn_39 : decode cX10_goesOn 39 = .ok (.iload_n 3, 1) := by decide +kernel
theorem dX10_goesOn_40 : decode cX10_goesOn 40 = .ok (.aload_n 0, 1) := by decide +kernel
theorem dX10_goesOn_41 : decode cX10_goesOn 41 = .ok (.getfield 19, 3) := by decide +kernel
theorem dX10_goesOn_44 : decode cX10_goesOn 44 = .ok (.iload 4, 2) := by decide +kernel
theorem dX10_goesOn_46 : decode cX10_goesOn 46 = .ok (.iaload, 1) := by decide +kernel
theorem dX10_goesOn_47 : decode cX10_goesOn 47 = .ok (.invokevirtual 162, 3) := by decide +kernel
theorem dX10_goesOn_50 : decode cX10_goesOn 50 = .ok (.return_, 1) := by decide +kernel
theorem dX10_goesOn_51 : decode cX10_goesOn 51 = .ok (.aload_n 0, 1) := by decide +kernel
theorem dX10_goesOn_52 : decode cX10_goesOn 52 = .ok (.getfield 13, 3) := by decide +kernel
theorem dX10_goesOn_55 : decode cX10_goesOn 55 = .ok (.iload 4, 2) := by decide +kernel
theorem dX10_goesOn_57 : decode cX10_goesOn 57 = .ok (.iaload, 1) := by decide +kernel
theorem dX10_goesOn_58 : decode cX10_goesOn 58 = .ok (.iconst 4, 1) := by decide +kernel
theorem dX10_goesOn_59 : decode cX10_goesOn 59 = .ok (.if_icmp .ne 11, 3) := by decide +kernel
theorem dX10_goesOn_62 : decode cX10_goesOn 62 = .ok (.aload_n 0, 1) := by decide +kernel
theorem dX10_goesOn_63 : decode cX10_goesOn 63 = .ok (.iload 4, 2) := by decide +kernel
theorem dX10_goesOn_65 : decode cX10_goesOn 65 = .ok (.iload_n 3, 1) := by decide +kernel
theorem dX10_goesOn_66 : decode cX10_goesOn 66 = .ok (.invokevirtual 166, 3) := by decide +kernel
theorem dX10_goesOn_69 : decode cX10_goesOn 69 = .ok (.return_, 1) := by decide +kernel
theorem dX10_goesOn_70 : decode cX10_goesOn 70 = .ok (.aload_n 0, 1) := by decide +kernel
theorem dX10_goesOn_71 : decode cX10_goesOn 71 = .ok (.iload 4, 2) := by decide +kernel
theorem dX10_goesOn_73 : decode cX10_goesOn 73 = .ok (.iload_n 3, 1) := by decide +kernel
theorem dX10_goesOn_74 : decode cX10_goesOn 74 = .ok (.invokevirtual 169, 3) := by decide +kernel
theorem dX10_goesOn_77 : decode cX10_goesOn 77 = .ok (.ifCond .ne 4, 3) := by decide +kernel
theorem dX10_goesOn_80 : decode cX10_goesOn 80 = .ok (.return_, 1) := by decide +kernel
theorem dX10_goesOn_81 : decode cX10_goesOn 81 = .ok (.aload_n 0, 1) := by decide +kernel
theorem dX10_goesOn_82 : decode cX10_goesOn 82 = .ok (.getfield 13, 3) := by decide +kernel
theorem dX10_goesOn_85 : decode cX10_goesOn 85 = .ok (.iload 4, 2) := by decide +kernel
theorem dX10_goesOn_87 : decode cX10_goesOn 87 = .ok (.iaload, 1) := by decide +kernel
theorem dX10_goesOn_88 : decode cX10_goesOn 88 = .ok (.ifCond .ne 24, 3) := by decide +kernel
theorem dX10_goesOn_91 : decode cX10_goesOn 91 = .ok (.iload_n 3, 1) := by decide +kernel
theorem dX10_goesOn_92 : decode cX10_goesOn 92 = .ok (.aload_n 0, 1) := by decide +kernel
theorem dX10_goesOn_93 : decode cX10_goesOn 93 = .ok (.getfield 16, 3) := by decide +kernel
theorem dX10_goesOn_96 : decode cX10_goesOn 96 = .ok (.iload 4, 2) := by decide +kernel
theorem dX10_goesOn_98 : decode cX10_goesOn 98 = .ok (.iaload, 1) := by decide +kernel
theorem dX10_goesOn_99 : decode cX10_goesOn 99 = .ok (.aload_n 0, 1) := by decide +kernel
theorem dX10_goesOn_100 : decode cX10_goesOn 100 = .ok (.getfield 19, 3) := by decide +kernel
theorem dX10_goesOn_103 : decode cX10_goesOn 103 = .ok (.iload 4, 2) := by decide +kernel
theorem dX10_goesOn_105 : decode cX10_goesOn 105 = .ok (.iaload, 1) := by decide +kernel
theorem dX10_goesOn_106 : decode cX10_goesOn 106 = .ok (.invokestatic 172, 3) := by decide +kernel
theorem dX10_goesOn_109 : decode cX10_goesOn 109 = .ok (.goto 4, 3) := by decide +kernel
theorem dX10_goesOn_112 : decode cX10_goesOn 112 = .ok (.iload_n 3, 1) := by decide +kernel
theorem dX10_goesOn_113 : decode cX10_goesOn 113 = .ok (.istore_n 3, 1) := by decide +kernel
theorem dX10_goesOn_114 : decode cX10_goesOn 114 = .ok (.iinc 4 1, 3) := by decide +kernel
theorem dX10_goesOn_117 : decode cX10_goesOn 117 = .ok (.goto (-112), 3) := by decide +kernel
theorem dX10_goesOn_120 : decode cX10_goesOn 120 = .ok (.aload_n 0, 1) := by decide +kernel
theorem dX10_goesOn_121 : decode cX10_goesOn 121 = .ok (.iload_n 3, 1) := by decide +kernel
theorem dX10_goesOn_122 : decode cX10_goesOn 122 = .ok (.invokevirtual 176, 3) := by decide +kernel
theorem dX10_goesOn_125 : decode cX10_goesOn 125 = .ok (.return_, 1) := by decide +kernel
theorem dX10_gives_0 : decode cX10_gives 0 = .ok (.aload_n 0, 1) := by decide +kernel
theorem dX10_gives_1 : decode cX10_gives 1 = .ok (.getfield 35, 3) := by decide +kernel
theorem dX10_gives_4 : decode cX10_gives 4 = .ok (.iload_n 1, 1) := by decide +kernel
theorem dX10_gives_5 : decode cX10_gives 5 = .ok (.iaload, 1) := by decide +kernel
theorem dX10_gives_6 : decode cX10_gives 6 = .ok (.istore_n 2, 1) := by decide +kernel
theorem dX10_gives_7 : decode cX10_gives 7 = .ok (.aload_n 0, 1) := by decide +kernel
theorem dX10_gives_8 : decode cX10_gives 8 = .ok (.getfield 38, 3) := by decide +kernel
theorem dX10_gives_11 : decode cX10_gives 11 = .ok (.iload_n 1, 1) := by decide +kernel
theorem dX10_gives_12 : decode cX10_gives 12 = .ok (.iaload, 1) := by decide +kernel
theorem dX10_gives_13 : decode cX10_gives 13 = .ok (.istore_n 3, 1) := by decide +kernel
theorem dX10_gives_14 : decode cX10_gives 14 = .ok (.iload_n 2, 1) := by decide +kernel
theorem dX10_gives_15 : decode cX10_gives 15 = .ok (.ifCond .lt 13, 3) := by decide +kernel
theorem dX10_gives_18 : decode cX10_gives 18 = .ok (.aload_n 0, 1) := by decide +kernel
theorem dX10_gives_19 : decode cX10_gives 19 = .ok (.getfield 13, 3) := by decide +kernel
theorem dX10_gives_22 : decode cX10_gives 22 = .ok (.iload_n 2, 1) := by decide +kernel
theorem dX10_gives_23 : decode cX10_gives 23 = .ok (.iaload, 1) := by decide +kernel
theorem dX10_gives_24 : decode cX10_gives 24 = .ok (.iconst 4, 1) := by decide +kernel
theorem dX10_gives_25 : decode cX10_gives 25 = .ok (.if_icmp .eq 14, 3) := by decide +kernel
theorem dX10_gives_28 : decode cX10_gives 28 = .ok (.iload_n 2, 1) := by decide +kernel
theorem dX10_gives_29 : decode cX10_gives 29 = .ok (.ifCond .ge 14, 3) := by decide +kernel
theorem dX10_gives_32 : decode cX10_gives 32 = .ok (.aload_n 0, 1) := by decide +kernel
theorem dX10_gives_33 : decode cX10_gives 33 = .ok (.getfield 95, 3) := by decide +kernel
theorem dX10_gives_36 : decode cX10_gives 36 = .ok (.ifCond .ne 7, 3) := by decide +kernel
theorem dX10_gives_39 : decode cX10_gives 39 = .ok (.iconst 1, 1) := by decide +kernel
theorem dX10_gives_40 : decode cX10_gives 40 = .ok (.goto 4, 3) := by decide +kernel
theorem dX10_gives_43 : decode cX10_gives 43 = .ok (.iconst 0, 1) := by decide +kernel
theorem dX10_gives_44 : decode cX10_gives 44 = .ok (.istore 4, 2) := by decide +kernel
theorem dX10_gives_46 : decode cX10_gives 46 = .ok (.aload_n 0, 1) := by decide +kernel
theorem dX10_gives_47 : decode cX10_gives 47 = .ok (.getfield 41, 3) := by decide +kernel
theorem dX10_gives_50 : decode cX10_gives 50 = .ok (.iload_n 1, 1) := by decide +kernel
theorem dX10_gives_51 : decode cX10_gives 51 = .ok (.dup2, 1) := by decide +kernel
theorem dX10_gives_52 : decode cX10_gives 52 = .ok (.iaload, 1) := by decide +kernel
theorem dX10_gives_53 : decode cX10_gives 53 = .ok (.aload_n 0, 1) := by decide +kernel
theorem dX10_gives_54 : decode cX10_gives 54 = .ok (.getfield 41, 3) := by decide +kernel
theorem dX10_gives_57 : decode cX10_gives 57 = .ok (.iload_n 1, 1) := by decide +kernel
theorem dX10_gives_58 : decode cX10_gives 58 = .ok (.iaload, 1) := by decide +kernel
theorem dX10_gives_59 : decode cX10_gives 59 = .ok (.ifCond .le 7, 3) := by decide +kernel
theorem dX10_gives_62 : decode cX10_gives 62 = .ok (.iconst 1, 1) := by decide +kernel
theorem dX10_gives_63 : decode cX10_gives 63 = .ok (.goto 4, 3) := by decide +kernel
theorem dX10_gives_66 : decode cX10_gives 66 = .ok (.iconst 0, 1) := by decide +kernel
theorem dX10_gives_67 : decode cX10_gives 67 = .ok (.isub, 1) := by decide +kernel
theorem dX10_gives_68 : decode cX10_gives 68 = .ok (.iastore, 1) := by decide +kernel
theorem dX10_gives_69 : decode cX10_gives 69 = .ok (.aload_n 0, 1) := by decide +kernel
theorem dX10_gives_70 : decode cX10_gives 70 = .ok (.getfield 38, 3) := by decide +kernel
theorem dX10_gives_73 : decode cX10_gives 73 = .ok (.iload_n 1, 1) := by decide +kernel
theorem dX10_gives_74 : decode cX10_gives 74 = .ok (.iload 4, 2) := by decide +kernel
theorem dX10_gives_76 : decode cX10_gives 76 = .ok (.ifCond .eq 9, 3) := by decide +kernel
theorem dX10_gives_79 : decode cX10_gives 79 = .ok (.iload_n 3, 1) := by decide +kernel
theorem dX10_gives_80 : decode cX10_gives 80 = .ok (.iconst 1, 1) := by decide +kernel
theorem dX10_gives_81 : decode cX10_gives 81 = .ok (.iadd, 1) := by decide +kernel
theorem dX10_gives_82 : decode cX10_gives 82 = .ok (.goto 32, 3) := by decide +kernel
theorem dX10_gives_85 : decode cX10_gives 85 = .ok (.iload_n 2, 1) := by decide +kernel
theorem dX10_gives_86 : decode cX10_gives 86 = .ok (.ifCond .ge 25, 3) := by decide +kernel
theorem dX10_gives_89 : decode cX10_gives 89 = .ok (.aload_n 0, 1) := by decide +kernel
theorem dX10_gives_90 : decode cX10_gives 90 = .ok (.getfield 95, 3) := by decide +kernel
theorem dX10_gives_93 : decode cX10_gives 93 = .ok (.iconst 2, 1) := by decide +kernel
theorem dX10_gives_94 : decode cX10_gives 94 = .ok (.if_icmp .ne 17, 3) := by decide +kernel
theorem dX10_gives_97 : decode cX10_gives 97 = .ok (.iload_n 3, 1) := by decide +kernel
theorem dX10_gives_98 : decode cX10_gives 98 = .ok (.aload_n 0, 1) := by decide +kernel
theorem dX10_gives_99 : decode cX10_gives 99 = .ok (.getfield 101, 3) := by decide +kernel
theorem dX10_gives_102 : decode cX10_gives 102 = .ok (.imul, 1) := by decide +kernel
theorem dX10_gives_103 : decode cX10_gives 103 = .ok (.aload_n 0, 1) := by decide +kernel
theorem dX10_gives_104 : decode cX10_gives 104 = .ok (.getfield 104, 3) := by decide +kernel
theorem dX10_gives_107 : decode cX10_gives 107 = .ok (.iadd, 1) := by decide +kernel
theorem dX10_gives_108 : decode cX10_gives 108 = .ok (.goto 6, 3) := by decide +kernel
theorem dX10_gives_111 : decode cX10_gives 111 = .ok (.iload_n 3, 1) := by decide +kernel
theorem dX10_gives_112 : decode cX10_gives 112 = .ok (.iconst 1, 1) := by decide +kernel
theorem dX10_gives_113 : decode cX10_gives 113 = .ok (.iadd, 1) := by decide +kernel
theorem dX10_gives_114 : decode cX10_gives 114 = .ok (.iastore, 1) := by decide +kernel
theorem dX10_gives_115 : decode cX10_gives 115 = .ok (.iload 4, 2) := by decide +kernel
theorem dX10_gives_117 : decode cX10_gives 117 = .ok (.ifCond .ne 7, 3) := by decide +kernel
theorem dX10_gives_120 : decode cX10_gives 120 = .ok (.iload_n 3, 1) := by decide +kernel
theorem dX10_gives_121 : decode cX10_gives 121 = .ok (.goto 28, 3) := by decide +kernel
theorem dX10_gives_124 : decode cX10_gives 124 = .ok (.iload_n 2, 1) := by decide +kernel
theorem dX10_gives_125 : decode cX10_gives 125 = .ok (.ifCond .ge 12, 3) := by decide +kernel
theorem dX10_gives_128 : decode cX10_gives 128 = .ok (.aload_n 0, 1) := by decide +kernel
theorem dX10_gives_129 : decode cX10_gives 129 = .ok (.getfield 7, 3) := by decide +kernel
theorem dX10_gives_132 : decode cX10_gives 132 = .ok (.iload_n 3, 1) := by decide +kernel
theorem dX10_gives_133 : decode cX10_gives 133 = .ok (.iaload, 1) := by decide +kernel
theorem dX10_gives_134 : decode cX10_gives 134 = .ok (.goto 15, 3) := by decide +kernel
theorem dX10_gives_137 : decode cX10_gives 137 = .ok (.aload_n 0, 1) := by decide +kernel
theorem dX10_gives_138 : decode cX10_gives 138 = .ok (.getfield 32, 3) := by decide +kernel
theorem dX10_gives_141 : decode cX10_gives 141 = .ok (.sipush 600, 3) := by decide +kernel
theorem dX10_gives_144 : decode cX10_gives 144 = .ok (.iload_n 2, 1) := by decide +kernel
theorem dX10_gives_145 : decode cX10_gives 145 = .ok (.imul, 1) := by decide +kernel
theorem dX10_gives_146 : decode cX10_gives 146 = .ok (.iload_n 3, 1) := by decide +kernel
theorem dX10_gives_147 : decode cX10_gives 147 = .ok (.iadd, 1) := by decide +kernel
theorem dX10_gives_148 : decode cX10_gives 148 = .ok (.iaload, 1) := by decide +kernel
theorem dX10_gives_149 : decode cX10_gives 149 = .ok (.ireturn, 1) := by decide +kernel
theorem dX10_giveOne_0 : decode cX10_giveOne 0 = .ok (.aload_n 0, 1) := by decide +kernel
theorem dX10_giveOne_1 : decode cX10_giveOne 1 = .ok (.getfield 159, 3) := by decide +kernel
theorem dX10_giveOne_4 : decode cX10_giveOne 4 = .ok (.iconst 1, 1) := by decide +kernel
theorem dX10_giveOne_5 : decode cX10_giveOne 5 = .ok (.isub, 1) := by decide +kernel
theorem dX10_giveOne_6 : decode cX10_giveOne 6 = .ok (.istore_n 1, 1) := by decide +kernel
theorem dX10_giveOne_7 : decode cX10_giveOne 7 = .ok (.aload_n 0, 1) := by decide +kernel
theorem dX10_giveOne_8 : decode cX10_giveOne 8 = .ok (.getfield 35, 3) := by decide +kernel
theorem dX10_giveOne_11 : decode cX10_giveOne 11 = .ok (.iload_n 1, 1) := by decide +kernel
theorem dX10_giveOne_12 : decode cX10_giveOne 12 = .ok (.iaload, 1) := by decide +kernel
theorem dX10_giveOne_13 : decode cX10_giveOne 13 = .ok (.istore_n 2, 1) := by decide +kernel
theorem dX10_giveOne_14 : decode cX10_giveOne 14 = .ok (.aload_n 0, 1) := by decide +kernel
theorem dX10_giveOne_15 : decode cX10_giveOne 15 = .ok (.getfield 41, 3) := by decide +kernel
theorem dX10_giveOne_18 : decode cX10_giveOne 18 = .ok (.iload_n 1, 1) := by decide +kernel
theorem dX10_giveOne_19 : decode cX10_giveOne 19 = .ok (.iaload, 1) := by decide +kernel
theorem dX10_giveOne_20 : decode cX10_giveOne 20 = .ok (.ifCond .eq 13, 3) := by decide +kernel
theorem dX10_giveOne_23 : decode cX10_giveOne 23 = .ok (.aload_n 0, 1) := by decide +kernel
theorem dX10_giveOne_24 : decode cX10_giveOne 24 = .ok (.iload_n 2, 1) := by decide +kernel
theorem dX10_giveOne_25 : decode cX10_giveOne 25 = .ok (.iconst 1, 1) := by decide +kernel
theorem dX10_giveOne_26 : decode cX10_giveOne 26 = .ok (.iadd, 1) := by decide +kernel
theorem dX10_giveOne_27 : decode cX10_giveOne 27 = .ok (.invokevirtual 179, 3) := by decide +kernel
theorem dX10_giveOne_30 : decode cX10_giveOne 30 = .ok (.ifCond .ne 14, 3) := by decide +kernel
theorem dX10_giveOne_33 : decode cX10_giveOne 33 = .ok (.aload_n 0, 1) := by decide +kernel
theorem dX10_giveOne_34 : decode cX10_giveOne 34 = .ok (.dup, 1) := by decide +kernel
theorem dX10_giveOne_35 : decode cX10_giveOne 35 = .ok (.getfield 159, 3) := by decide +kernel
theorem dX10_giveOne_38 : decode cX10_giveOne 38 = .ok (.iconst 1, 1) := by decide +kernel
theorem dX10_giveOne_39 : decode cX10_giveOne 39 = .ok (.isub, 1) := by decide +kernel
theorem dX10_giveOne_40 : decode cX10_giveOne 40 = .ok (.putfield 159, 3) := by decide +kernel
theorem dX10_giveOne_43 : decode cX10_giveOne 43 = .ok (.return_, 1) := by decide +kernel
theorem dX10_giveOne_44 : decode cX10_giveOne 44 = .ok (.aload_n 0, 1) := by decide +kernel
theorem dX10_giveOne_45 : decode cX10_giveOne 45 = .ok (.getfield 146, 3) := by decide +kernel
theorem dX10_giveOne_48 : decode cX10_giveOne 48 = .ok (.sipush 600, 3) := by decide +kernel
theorem dX10_giveOne_51 : decode cX10_giveOne 51 = .ok (.if_icmp .ne 9, 3) := by decide +kernel
theorem dX10_giveOne_54 : decode cX10_giveOne 54 = .ok (.aload_n 0, 1) := by decide +kernel
theorem dX10_giveOne_55 : decode cX10_giveOne 55 = .ok (.iconst 1, 1) := by decide +kernel
theorem dX10_giveOne_56 : decode cX10_giveOne 56 = .ok (.putfield 143, 3) := by decide +kernel
theorem dX10_giveOne_59 : decode cX10_giveOne 59 = .ok (.return_, 1) := by decide +kernel
theorem dX10_giveOne_60 : decode cX10_giveOne 60 = .ok (.aload_n 0, 1) := by decide +kernel
theorem dX10_giveOne_61 : decode cX10_giveOne 61 = .ok (.dup, 1) := by decide +kernel
theorem dX10_giveOne_62 : decode cX10_giveOne 62 = .ok (.getfield 146, 3) := by decide +kernel
theorem dX10_giveOne_65 : decode cX10_giveOne 65 = .ok (.iconst 1, 1) := by decide +kernel
theorem dX10_giveOne_66 : decode cX10_giveOne 66 = .ok (.iadd, 1) := by decide +kernel
theorem dX10_giveOne_67 : decode cX10_giveOne 67 = .ok (.putfield 146, 3) := by decide +kernel
theorem dX10_giveOne_70 : decode cX10_giveOne 70 = .ok (.aload_n 0, 1) := by decide +kernel
theorem dX10_giveOne_71 : decode cX10_giveOne 71 = .ok (.iload_n 1, 1) := by decide +kernel
theorem dX10_giveOne_72 : decode cX10_giveOne 72 = .ok (.invokevirtual 183, 3) := by decide +kernel
theorem dX10_giveOne_75 : decode cX10_giveOne 75 = .ok (.istore_n 3, 1) := by decide +kernel
theorem dX10_giveOne_76 : decode cX10_giveOne 76 = .ok (.aload_n 0, 1) := by decide +kernel
theorem dX10_giveOne_77 : decode cX10_giveOne 77 = .ok (.iload_n 2, 1) := by decide +kernel
theorem dX10_giveOne_78 : decode cX10_giveOne 78 = .ok (.iconst 1, 1) := by decide +kernel
theorem dX10_giveOne_79 : decode cX10_giveOne 79 = .ok (.iadd, 1) := by decide +kernel
theorem dX10_giveOne_80 : decode cX10_giveOne 80 = .ok (.iload_n 3, 1) := by decide +kernel
theorem dX10_giveOne_81 : decode cX10_giveOne 81 = .ok (.invokevirtual 186, 3) := by decide +kernel
theorem dX10_giveOne_84 : decode cX10_giveOne 84 = .ok (.return_, 1) := by decide +kernel
theorem dX10_flow_0 : decode cX10_flow 0 = .ok (.aload_n 0, 1) := by decide +kernel
theorem dX10_flow_1 : decode cX10_flow 1 = .ok (.iconst 0, 1) := by decide +kernel
theorem dX10_flow_2 : decode cX10_flow 2 = .ok (.putfield 159, 3) := by decide +kernel
theorem dX10_flow_5 : decode cX10_flow 5 = .ok (.aload_n 0, 1) := by decide +kernel
theorem dX10_flow_6 : decode cX10_flow 6 = .ok (.iconst (-1), 1) := by decide +kernel
theorem dX10_flow_7 : decode cX10_flow 7 = .ok (.aload_n 0, 1) := by decide +kernel
theorem dX10_flow_8 : decode cX10_flow 8 = .ok (.getfield 95, 3) := by decide +kernel
theorem dX10_flow_11 : decode cX10_flow 11 = .ok (.ifCond .ne 7, 3) := by decide +kernel
theorem dX10_flow_14 : decode cX10_flow 14 = .ok (.iconst 0, 1) := by decide +kernel
theorem dX10_flow_15 : decode cX10_flow 15 = .ok (.goto 7, 3) := by decide +kernel
theorem dX10_flow_18 : decode cX10_flow 18 = .ok (.aload_n 0, 1) := by decide +kernel
theorem dX10_flow_19 : decode cX10_flow 19 = .ok (.getfield 98, 3) := by decide +kernel
theorem dX10_flow_22 : decode cX10_flow 22 = .ok (.aload_n 0, 1) := by decide +kernel
theorem dX10_flow_23 : decode cX10_flow 23 = .ok (.getfield 95, 3) := by decide +kernel
theorem dX10_flow_26 : decode cX10_flow 26 = .ok (.ifCond .ne 10, 3) := by decide +kernel
theorem dX10_flow_29 : decode cX10_flow 29 = .ok (.aload_n 0, 1) := by decide +kernel
theorem dX10_flow_30 : decode cX10_flow 30 = .ok (.getfield 81, 3) := by decide +kernel
theorem dX10_flow_33 : decode cX10_flow 33 = .ok (.goto 19, 3) := by decide +kernel
theorem dX10_flow_36 : decode cX10_flow 36 = .ok (.aload_n 0, 1) := by decide +kernel
theorem dX10_flow_37 : decode cX10_flow 37 = .ok (.getfield 95, 3) := by decide +kernel
theorem dX10_flow_40 : decode cX10_flow 40 = .ok (.iconst 1, 1) := by decide +kernel
theorem dX10_flow_41 : decode cX10_flow 41 = .ok (.if_icmp .ne 10, 3) := by decide +kernel
theorem dX10_flow_44 : decode cX10_flow 44 = .ok (.aload_n 0, 1) := by decide +kernel
theorem dX10_flow_45 : decode cX10_flow 45 = .ok (.getfield 101, 3) := by decide +kernel
theorem dX10_flow_48 : decode cX10_flow 48 = .ok (.goto 4, 3) := by decide +kernel
theorem dX10_flow_51 : decode cX10_flow 51 = .ok (.iconst (-1), 1) := by decide +kernel
theorem dX10_flow_52 : decode cX10_flow 52 = .ok (.invokevirtual 162, 3) := by decide +kernel
theorem dX10_flow_55 : decode cX10_flow 55 = .ok (.iconst 0, 1) := by decide +kernel
theorem dX10_flow_56 : decode cX10_flow 56 = .ok (.istore_n 1, 1) := by decide +kernel
theorem dX10_flow_57 : decode cX10_flow 57 = .ok (.aload_n 0, 1) := by decide +kernel
theorem dX10_flow_58 : decode cX10_flow 58 = .ok (.getfield 143, 3) := by decide +kernel
theorem dX10_flow_61 : decode cX10_flow 61 = .ok (.ifCond .ne 67, 3) := by decide +kernel
theorem dX10_flow_64 : decode cX10_flow 64 = .ok (.aload_n 0, 1) := by decide +kernel
theorem dX10_flow_65 : decode cX10_flow 65 = .ok (.getfield 159, 3) := by decide +kernel
theorem dX10_flow_68 : decode cX10_flow 68 = .ok (.ifCond .gt 11, 3) := by decide +kernel
theorem dX10_flow_71 : decode cX10_flow 71 = .ok (.iload_n 1, 1) := by decide +kernel
theorem dX10_flow_72 : decode cX10_flow 72 = .ok (.aload_n 0, 1) := by decide +kernel
theorem dX10_flow_73 : decode cX10_flow 73 = .ok (.getfield 107, 3) := by decide +kernel
theorem dX10_flow_76 : decode cX10_flow 76 = .ok (.if_icmp .ge 52, 3) := by decide +kernel
theorem dX10_flow_79 : decode cX10_flow 79 = .ok (.aload_n 0, 1) := by decide +kernel
theorem dX10_flow_80 : decode cX10_flow 80 = .ok (.getfield 159, 3) := by decide +kernel
theorem dX10_flow_83 : decode cX10_flow 83 = .ok (.ifCond .le 10, 3) := by decide +kernel
theorem dX10_flow_86 : decode cX10_flow 86 = .ok (.aload_n 0, 1) := by decide +kernel
theorem dX10_flow_87 : decode cX10_flow 87 = .ok (.invokevirtual 189, 3) := by decide +kernel
theorem dX10_flow_90 : decode cX10_flow 90 = .ok (.goto (-33), 3) := by decide +kernel
theorem dX10_flow_93 : decode cX10_flow 93 = .ok (.aload_n 0, 1) := by decide +kernel
theorem dX10_flow_94 : decode cX10_flow 94 = .ok (.getfield 13, 3) := by decide +kernel
theorem dX10_flow_97 : decode cX10_flow 97 = .ok (.iload_n 1, 1) := by decide +kernel
theorem dX10_flow_98 : decode cX10_flow 98 = .ok (.iaload, 1) := by decide +kernel
theorem dX10_flow_99 : decode cX10_flow 99 = .ok (.iconst 4, 1) := by decide +kernel
theorem dX10_flow_100 : decode cX10_flow 100 = .ok (.if_icmp .ne 22, 3) := by decide +kernel
theorem dX10_flow_103 : decode cX10_flow 103 = .ok (.aload_n 0, 1) := by decide +kernel
theorem dX10_flow_104 : decode cX10_flow 104 = .ok (.getfield 28, 3) := by decide +kernel
theorem dX10_flow_107 : decode cX10_flow 107 = .ok (.iload_n 1, 1) := by decide +kernel
theorem dX10_flow_108 : decode cX10_flow 108 = .ok (.iconst 1, 1) := by decide +kernel
theorem dX10_flow_109 : decode cX10_flow 109 = .ok (.bastore, 1) := by decide +kernel
theorem dX10_flow_110 : decode cX10_flow 110 = .ok (.aload_n 0, 1) := by decide +kernel
theorem dX10_flow_111 : decode cX10_flow 111 = .ok (.iload_n 1, 1) := by decide +kernel
theorem dX10_flow_112 : decode cX10_flow 112 = .ok (.iconst 0, 1) := by decide +kernel
theorem dX10_flow_113 : decode cX10_flow 113 = .ok (.aload_n 0, 1) := by decide +kernel
theorem dX10_flow_114 : decode cX10_flow 114 = .ok (.getfield 25, 3) := by decide +kernel
theorem dX10_flow_117 : decode cX10_flow 117 = .ok (.iload_n 1, 1) := by decide +kernel
theorem dX10_flow_118 : decode cX10_flow 118 = .ok (.iaload, 1) := by decide +kernel
theorem dX10_flow_119 : decode cX10_flow 119 = .ok (.invokevirtual 162, 3) := by decide +kernel
theorem dX10_flow_122 : decode cX10_flow 122 = .ok (.iinc 1 1, 3) := by decide +kernel
theorem dX10_flow_125 : decode cX10_flow 125 = .ok (.goto (-68), 3) := by decide +kernel
theorem dX10_flow_128 : decode cX10_flow 128 = .ok (.return_, 1) := by decide +kernel
theorem dX10_run_0 : decode cX10_run 0 = .ok (.aload_n 0, 1) := by decide +kernel
theorem dX10_run_1 : decode cX10_run 1 = .ok (.iconst 0, 1) := by decide +kernel
theorem dX10_run_2 : decode cX10_run 2 = .ok (.putfield 78, 3) := by decide +kernel
theorem dX10_run_5 : decode cX10_run 5 = .ok (.aload_n 0, 1) := by decide +kernel
theorem dX10_run_6 : decode cX10_run 6 = .ok (.getfield 88, 3) := by decide +kernel
theorem dX10_run_9 : decode cX10_run 9 = .ok (.ifCond .eq 10, 3) := by decide +kernel
theorem dX10_run_12 : decode cX10_run 12 = .ok (.aload_n 0, 1) := by decide +kernel
theorem dX10_run_13 : decode cX10_run 13 = .ok (.getfield 92, 3) := by decide +kernel
theorem dX10_run_16 : decode cX10_run 16 = .ok (.ifCond .eq 9, 3) := by decide +kernel
theorem dX10_run_19 : decode cX10_run 19 = .ok (.aload_n 0, 1) := by decide +kernel
theorem dX10_run_20 : decode cX10_run 20 = .ok (.iconst 1, 1) := by decide +kernel
theorem dX10_run_21 : decode cX10_run 21 = .ok (.invokevirtual 84, 3) := by decide +kernel
theorem dX10_run_24 : decode cX10_run 24 = .ok (.ireturn, 1) := by decide +kernel
theorem dX10_run_25 : decode cX10_run 25 = .ok (.iload_n 1, 1) := by decide +kernel
theorem dX10_run_26 : decode cX10_run 26 = .ok (.iload_n 2, 1) := by decide +kernel
theorem dX10_run_27 : decode cX10_run 27 = .ok (.iload_n 3, 1) := by decide +kernel
theorem dX10_run_28 : decode cX10_run 28 = .ok (.invokestatic 192, 3) := by decide +kernel
theorem dX10_run_31 : decode cX10_run 31 = .ok (.ifCond .ne 9, 3) := by decide +kernel
theorem dX10_run_34 : decode cX10_run 34 = .ok (.aload_n 0, 1) := by decide +kernel
theorem dX10_run_35 : decode cX10_run 35 = .ok (.iconst 2, 1) := by decide +kernel
theorem dX10_run_36 : decode cX10_run 36 = .ok (.invokevirtual 84, 3) := by decide +kernel
theorem dX10_run_39 : decode cX10_run 39 = .ok (.ireturn, 1) := by decide +kernel
theorem dX10_run_40 : decode cX10_run 40 = .ok (.aload_n 0, 1) := by decide +kernel
theorem dX10_run_41 : decode cX10_run 41 = .ok (.iload_n 1, 1) := by decide +kernel
theorem dX10_run_42 : decode cX10_run 42 = .ok (.iload_n 2, 1) := by decide +kernel
theorem dX10_run_43 : decode cX10_run 43 = .ok (.iload_n 3, 1) := by decide +kernel
theorem dX10_run_44 : decode cX10_run 44 = .ok (.invokevirtual 195, 3) := by decide +kernel
theorem dX10_run_47 : decode cX10_run 47 = .ok (.aload_n 0, 1) := by decide +kernel
theorem dX10_run_48 : decode cX10_run 48 = .ok (.invokevirtual 198, 3) := by decide +kernel
theorem dX10_run_51 : decode cX10_run 51 = .ok (.aload_n 0, 1) := by decide +kernel
theorem dX10_run_52 : decode cX10_run 52 = .ok (.invokevirtual 201, 3) := by decide +kernel
theorem dX10_run_55 : decode cX10_run 55 = .ok (.ireturn, 1) := by decide +kernel
theorem dX10_pool_0 : decode cX10_pool 0 = .ok (.aload_n 0, 1) := by decide +kernel
theorem dX10_pool_1 : decode cX10_pool 1 = .ok (.iload_n 1, 1) := by decide +kernel
theorem dX10_pool_2 : decode cX10_pool 2 = .ok (.iconst 1, 1) := by decide +kernel
theorem dX10_pool_3 : decode cX10_pool 3 = .ok (.if_icmp .lt 19, 3) := by decide +kernel
theorem dX10_pool_6 : decode cX10_pool 6 = .ok (.iload_n 1, 1) := by decide +kernel
theorem dX10_pool_7 : decode cX10_pool 7 = .ok (.bipush 20, 2) := by decide +kernel
theorem dX10_pool_9 : decode cX10_pool 9 = .ok (.if_icmp .gt 13, 3) := by decide +kernel
theorem dX10_pool_12 : decode cX10_pool 12 = .ok (.iload_n 2, 1) := by decide +kernel
theorem dX10_pool_13 : decode cX10_pool 13 = .ok (.iconst 1, 1) := by decide +kernel
theorem dX10_pool_14 : decode cX10_pool 14 = .ok (.if_icmp .lt 8, 3) := by decide +kernel
theorem dX10_pool_17 : decode cX10_pool 17 = .ok (.iload_n 2, 1) := by decide +kernel
theorem dX10_pool_18 : decode cX10_pool 18 = .ok (.iconst 4, 1) := by decide +kernel
theorem dX10_pool_19 : decode cX10_pool 19 = .ok (.if_icmp .le 7, 3) := by decide +kernel
theorem dX10_pool_22 : decode cX10_pool 22 = .ok (.iconst 1, 1) := by decide +kernel
theorem dX10_pool_23 : decode cX10_pool 23 = .ok (.goto 4, 3) := by decide +kernel
theorem dX10_pool_26 : decode cX10_pool 26 = .ok (.iconst 0, 1) := by decide +kernel
theorem dX10_pool_27 : decode cX10_pool 27 = .ok (.putfield 78, 3) := by decide +kernel
theorem dX10_pool_30 : decode cX10_pool 30 = .ok (.aload_n 0, 1) := by decide +kernel
theorem dX10_pool_31 : decode cX10_pool 31 = .ok (.getfield 78, 3) := by decide +kernel
theorem dX10_pool_34 : decode cX10_pool 34 = .ok (.ifCond .eq 4, 3) := by decide +kernel
theorem dX10_pool_37 : decode cX10_pool 37 = .ok (.return_, 1) := by decide +kernel
theorem dX10_pool_38 : decode cX10_pool 38 = .ok (.aload_n 0, 1) := by decide +kernel
theorem dX10_pool_39 : decode cX10_pool 39 = .ok (.iload_n 1, 1) := by decide +kernel
theorem dX10_pool_40 : decode cX10_pool 40 = .ok (.putfield 56, 3) := by decide +kernel
theorem dX10_pool_43 : decode cX10_pool 43 = .ok (.aload_n 0, 1) := by decide +kernel
theorem dX10_pool_44 : decode cX10_pool 44 = .ok (.iload_n 2, 1) := by decide +kernel
theorem dX10_pool_45 : decode cX10_pool 45 = .ok (.putfield 60, 3) := by decide +kernel
theorem dX10_pool_48 : decode cX10_pool 48 = .ok (.aload_n 0, 1) := by decide +kernel
theorem dX10_pool_49 : decode cX10_pool 49 = .ok (.iload_n 3, 1) := by decide +kernel
theorem dX10_pool_50 : decode cX10_pool 50 = .ok (.putfield 63, 3) := by decide +kernel
theorem dX10_pool_53 : decode cX10_pool 53 = .ok (.return_, 1) := by decide +kernel
theorem dX10_addTask_0 : decode cX10_addTask 0 = .ok (.bipush 48, 2) := by decide +kernel
theorem dX10_addTask_2 : decode cX10_addTask 2 = .ok (.iload_n 1, 1) := by decide +kernel
theorem dX10_addTask_3 : decode cX10_addTask 3 = .ok (.imul, 1) := by decide +kernel
theorem dX10_addTask_4 : decode cX10_addTask 4 = .ok (.aload_n 0, 1) := by decide +kernel
theorem dX10_addTask_5 : decode cX10_addTask 5 = .ok (.getfield 72, 3) := by decide +kernel
theorem dX10_addTask_8 : decode cX10_addTask 8 = .ok (.iload_n 1, 1) := by decide +kernel
theorem dX10_addTask_9 : decode cX10_addTask 9 = .ok (.iaload, 1) := by decide +kernel
theorem dX10_addTask_10 : decode cX10_addTask 10 = .ok (.iadd, 1) := by decide +kernel
theorem dX10_addTask_11 : decode cX10_addTask 11 = .ok (.istore 4, 2) := by decide +kernel
theorem dX10_addTask_13 : decode cX10_addTask 13 = .ok (.aload_n 0, 1) := by decide +kernel
theorem dX10_addTask_14 : decode cX10_addTask 14 = .ok (.getfield 66, 3) := by decide +kernel
theorem dX10_addTask_17 : decode cX10_addTask 17 = .ok (.iload 4, 2) := by decide +kernel
theorem dX10_addTask_19 : decode cX10_addTask 19 = .ok (.iload_n 2, 1) := by decide +kernel
theorem dX10_addTask_20 : decode cX10_addTask 20 = .ok (.iastore, 1) := by decide +kernel
theorem dX10_addTask_21 : decode cX10_addTask 21 = .ok (.aload_n 0, 1) := by decide +kernel
theorem dX10_addTask_22 : decode cX10_addTask 22 = .ok (.getfield 69, 3) := by decide +kernel
theorem dX10_addTask_25 : decode cX10_addTask 25 = .ok (.iload 4, 2) := by decide +kernel
theorem dX10_addTask_27 : decode cX10_addTask 27 = .ok (.iload_n 3, 1) := by decide +kernel
theorem dX10_addTask_28 : decode cX10_addTask 28 = .ok (.iastore, 1) := by decide +kernel
theorem dX10_addTask_29 : decode cX10_addTask 29 = .ok (.aload_n 0, 1) := by decide +kernel
theorem dX10_addTask_30 : decode cX10_addTask 30 = .ok (.getfield 72, 3) := by decide +kernel
theorem dX10_addTask_33 : decode cX10_addTask 33 = .ok (.iload_n 1, 1) := by decide +kernel
theorem dX10_addTask_34 : decode cX10_addTask 34 = .ok (.dup2, 1) := by decide +kernel
theorem dX10_addTask_35 : decode cX10_addTask 35 = .ok (.iaload, 1) := by decide +kernel
theorem dX10_addTask_36 : decode cX10_addTask 36 = .ok (.iconst 1, 1) := by decide +kernel
theorem dX10_addTask_37 : decode cX10_addTask 37 = .ok (.iadd, 1) := by decide +kernel
theorem dX10_addTask_38 : decode cX10_addTask 38 = .ok (.iastore, 1) := by decide +kernel
theorem dX10_addTask_39 : decode cX10_addTask 39 = .ok (.return_, 1) := by decide +kernel
theorem dX10_victim_0 : decode cX10_victim 0 = .ok (.iload_n 1, 1) := by decide +kernel
theorem dX10_victim_1 : decode cX10_victim 1 = .ok (.istore_n 2, 1) := by decide +kernel
theorem dX10_victim_2 : decode cX10_victim 2 = .ok (.aload_n 0, 1) := by decide +kernel
theorem dX10_victim_3 : decode cX10_victim 3 = .ok (.getfield 72, 3) := by decide +kernel
theorem dX10_victim_6 : decode cX10_victim 6 = .ok (.iload_n 2, 1) := by decide +kernel
theorem dX10_victim_7 : decode cX10_victim 7 = .ok (.iaload, 1) := by decide +kernel
theorem dX10_victim_8 : decode cX10_victim 8 = .ok (.ifCond .ne 15, 3) := by decide +kernel
theorem dX10_victim_11 : decode cX10_victim 11 = .ok (.iload_n 2, 1) := by decide +kernel
theorem dX10_victim_12 : decode cX10_victim 12 = .ok (.iconst 1, 1) := by decide +kernel
theorem dX10_victim_13 : decode cX10_victim 13 = .ok (.iadd, 1) := by decide +kernel
theorem dX10_victim_14 : decode cX10_victim 14 = .ok (.aload_n 0, 1) := by decide +kernel
theorem dX10_victim_15 : decode cX10_victim 15 = .ok (.getfield 60, 3) := by decide +kernel
theorem dX10_victim_18 : decode cX10_victim 18 = .ok (.irem, 1) := by decide +kernel
theorem dX10_victim_19 : decode cX10_victim 19 = .ok (.istore_n 2, 1) := by decide +kernel
theorem dX10_victim_20 : decode cX10_victim 20 = .ok (.goto (-18), 3) := by decide +kernel
theorem dX10_victim_23 : decode cX10_victim 23 = .ok (.iload_n 2, 1) := by decide +kernel
theorem dX10_victim_24 : decode cX10_victim 24 = .ok (.ireturn, 1) := by decide +kernel
theorem dX10_turn_0 : decode cX10_turn 0 = .ok (.aload_n 0, 1) := by decide +kernel
theorem dX10_turn_1 : decode cX10_turn 1 = .ok (.iload_n 1, 1) := by decide +kernel
theorem dX10_turn_2 : decode cX10_turn 2 = .ok (.invokevirtual 205, 3) := by decide +kernel
theorem dX10_turn_5 : decode cX10_turn 5 = .ok (.istore_n 2, 1) := by decide +kernel
theorem dX10_turn_6 : decode cX10_turn 6 = .ok (.iload_n 2, 1) := by decide +kernel
theorem dX10_turn_7 : decode cX10_turn 7 = .ok (.iload_n 1, 1) := by decide +kernel
theorem dX10_turn_8 : decode cX10_turn 8 = .ok (.if_icmp .ne 19, 3) := by decide +kernel
theorem dX10_turn_11 : decode cX10_turn 11 = .ok (.bipush 48, 2) := by decide +kernel
theorem dX10_turn_13 : decode cX10_turn 13 = .ok (.iload_n 1, 1) := by decide +kernel
theorem dX10_turn_14 : decode cX10_turn 14 = .ok (.imul, 1) := by decide +kernel
theorem dX10_turn_15 : decode cX10_turn 15 = .ok (.aload_n 0, 1) := by decide +kernel
theorem dX10_turn_16 : decode cX10_turn 16 = .ok (.getfield 72, 3) := by decide +kernel
theorem dX10_turn_19 : decode cX10_turn 19 = .ok (.iload_n 1, 1) := by decide +kernel
theorem dX10_turn_20 : decode cX10_turn 20 = .ok (.iaload, 1) := by decide +kernel
theorem dX10_turn_21 : decode cX10_turn 21 = .ok (.iadd, 1) := by decide +kernel
theorem dX10_turn_22 : decode cX10_turn 22 = .ok (.iconst 1, 1) := by decide +kernel
theorem dX10_turn_23 : decode cX10_turn 23 = .ok (.isub, 1) := by decide +kernel
theorem dX10_turn_24 : decode cX10_turn 24 = .ok (.goto 7, 3) := by decide +kernel
theorem dX10_turn_27 : decode cX10_turn 27 = .ok (.bipush 48, 2) := by decide +kernel
theorem dX10_turn_29 : decode cX10_turn 29 = .ok (.iload_n 2, 1) := by decide +kernel
theorem dX10_turn_30 : decode cX10_turn 30 = .ok (.imul, 1) := by decide +kernel
theorem dX10_turn_31 : decode cX10_turn 31 = .ok (.istore_n 3, 1) := by decide +kernel
theorem dX10_turn_32 : decode cX10_turn 32 = .ok (.aload_n 0, 1) := by decide +kernel
theorem dX10_turn_33 : decode cX10_turn 33 = .ok (.getfield 66, 3) := by decide +kernel
theorem dX10_turn_36 : decode cX10_turn 36 = .ok (.iload_n 3, 1) := by decide +kernel
theorem dX10_turn_37 : decode cX10_turn 37 = .ok (.iaload, 1) := by decide +kernel
theorem dX10_turn_38 : decode cX10_turn 38 = .ok (.istore 4, 2) := by decide +kernel
theorem dX10_turn_40 : decode cX10_turn 40 = .ok (.aload_n 0, 1) := by decide +kernel
theorem dX10_turn_41 : decode cX10_turn 41 = .ok (.getfield 69, 3) := by decide +kernel
theorem dX10_turn_44 : decode cX10_turn 44 = .ok (.iload_n 3, 1) := by decide +kernel
theorem dX10_turn_45 : decode cX10_turn 45 = .ok (.iaload, 1) := by decide +kernel
theorem dX10_turn_46 : decode cX10_turn 46 = .ok (.istore 5, 2) := by decide +kernel
theorem dX10_turn_48 : decode cX10_turn 48 = .ok (.aload_n 0, 1) := by decide +kernel
theorem dX10_turn_49 : decode cX10_turn 49 = .ok (.getfield 72, 3) := by decide +kernel
theorem dX10_turn_52 : decode cX10_turn 52 = .ok (.iload_n 2, 1) := by decide +kernel
theorem dX10_turn_53 : decode cX10_turn 53 = .ok (.dup2, 1) := by decide +kernel
theorem dX10_turn_54 : decode cX10_turn 54 = .ok (.iaload, 1) := by decide +kernel
theorem dX10_turn_55 : decode cX10_turn 55 = .ok (.iconst 1, 1) := by decide +kernel
theorem dX10_turn_56 : decode cX10_turn 56 = .ok (.isub, 1) := by decide +kernel
theorem dX10_turn_57 : decode cX10_turn 57 = .ok (.iastore, 1) := by decide +kernel
theorem dX10_turn_58 : decode cX10_turn 58 = .ok (.iload_n 3, 1) := by decide +kernel
theorem dX10_turn_59 : decode cX10_turn 59 = .ok (.istore 6, 2) := by decide +kernel
theorem dX10_turn_61 : decode cX10_turn 61 = .ok (.iload 6, 2) := by decide +kernel
theorem dX10_turn_63 : decode cX10_turn 63 = .ok (.bipush 48, 2) := by decide +kernel
theorem dX10_turn_65 : decode cX10_turn 65 = .ok (.iload_n 2, 1) := by decide +kernel
theorem dX10_turn_66 : decode cX10_turn 66 = .ok (.imul, 1) := by decide +kernel
theorem dX10_turn_67 : decode cX10_turn 67 = .ok (.aload_n 0, 1) := by decide +kernel
theorem dX10_turn_68 : decode cX10_turn 68 = .ok (.getfield 72, 3) := by decide +kernel
theorem dX10_turn_71 : decode cX10_turn 71 = .ok (.iload_n 2, 1) := by decide +kernel
theorem dX10_turn_72 : decode cX10_turn 72 = .ok (.iaload, 1) := by decide +kernel
theorem dX10_turn_73 : decode cX10_turn 73 = .ok (.iadd, 1) := by decide +kernel
theorem dX10_turn_74 : decode cX10_turn 74 = .ok (.if_icmp .ge 41, 3) := by decide +kernel
theorem dX10_turn_77 : decode cX10_turn 77 = .ok (.aload_n 0, 1) := by decide +kernel
theorem dX10_turn_78 : decode cX10_turn 78 = .ok (.getfield 66, 3) := by decide +kernel
theorem dX10_turn_81 : decode cX10_turn 81 = .ok (.iload 6, 2) := by decide +kernel
theorem dX10_turn_83 : decode cX10_turn 83 = .ok (.aload_n 0, 1) := by decide +kernel
theorem dX10_turn_84 : decode cX10_turn 84 = .ok (.getfield 66, 3) := by decide +kernel
theorem dX10_turn_87 : decode cX10_turn 87 = .ok (.iload 6, 2) := by decide +kernel
theorem dX10_turn_89 : decode cX10_turn 89 = .ok (.iconst 1, 1) := by decide +kernel
theorem dX10_turn_90 : decode cX10_turn 90 = .ok (.iadd, 1) := by decide +kernel
theorem dX10_turn_91 : decode cX10_turn 91 = .ok (.iaload, 1) := by decide +kernel
theorem dX10_turn_92 : decode cX10_turn 92 = .ok (.iastore, 1) := by decide +kernel
theorem dX10_turn_93 : decode cX10_turn 93 = .ok (.aload_n 0, 1) := by decide +kernel
theorem dX10_turn_94 : decode cX10_turn 94 = .ok (.getfield 69, 3) := by decide +kernel
theorem dX10_turn_97 : decode cX10_turn 97 = .ok (.iload 6, 2) := by decide +kernel
theorem dX10_turn_99 : decode cX10_turn 99 = .ok (.aload_n 0, 1) := by decide +kernel
theorem dX10_turn_100 : decode cX10_turn 100 = .ok (.getfield 69, 3) := by decide +kernel
theorem dX10_turn_103 : decode cX10_turn 103 = .ok (.iload 6, 2) := by decide +kernel
theorem dX10_turn_105 : decode cX10_turn 105 = .ok (.iconst 1, 1) := by decide +kernel
theorem dX10_turn_106 : decode cX10_turn 106 = .ok (.iadd, 1) := by decide +kernel
theorem dX10_turn_107 : decode cX10_turn 107 = .ok (.iaload, 1) := by decide +kernel
theorem dX10_turn_108 : decode cX10_turn 108 = .ok (.iastore, 1) := by decide +kernel
theorem dX10_turn_109 : decode cX10_turn 109 = .ok (.iinc 6 1, 3) := by decide +kernel
theorem dX10_turn_112 : decode cX10_turn 112 = .ok (.goto (-51), 3) := by decide +kernel
theorem dX10_turn_115 : decode cX10_turn 115 = .ok (.aload_n 0, 1) := by decide +kernel
theorem dX10_turn_116 : decode cX10_turn 116 = .ok (.getfield 75, 3) := by decide +kernel
theorem dX10_turn_119 : decode cX10_turn 119 = .ok (.iconst 0, 1) := by decide +kernel
theorem dX10_turn_120 : decode cX10_turn 120 = .ok (.dup2, 1) := by decide +kernel
theorem dX10_turn_121 : decode cX10_turn 121 = .ok (.iaload, 1) := by decide +kernel
theorem dX10_turn_122 : decode cX10_turn 122 = .ok (.iconst 1, 1) := by decide +kernel
theorem dX10_turn_123 : decode cX10_turn 123 = .ok (.iadd, 1) := by decide +kernel
theorem dX10_turn_124 : decode cX10_turn 124 = .ok (.iastore, 1) := by decide +kernel
theorem dX10_turn_125 : decode cX10_turn 125 = .ok (.aload_n 0, 1) := by decide +kernel
theorem dX10_turn_126 : decode cX10_turn 126 = .ok (.getfield 75, 3) := by decide +kernel
theorem dX10_turn_129 : decode cX10_turn 129 = .ok (.iconst 2, 1) := by decide +kernel
theorem dX10_turn_130 : decode cX10_turn 130 = .ok (.dup2, 1) := by decide +kernel
theorem dX10_turn_131 : decode cX10_turn 131 = .ok (.iaload, 1) := by decide +kernel
theorem dX10_turn_132 : decode cX10_turn 132 = .ok (.iload_n 2, 1) := by decide +kernel
theorem dX10_turn_133 : decode cX10_turn 133 = .ok (.iload_n 1, 1) := by decide +kernel
theorem dX10_turn_134 : decode cX10_turn 134 = .ok (.if_icmp .ne 7, 3) := by decide +kernel
theorem dX10_turn_137 : decode cX10_turn 137 = .ok (.iconst 0, 1) := by decide +kernel
theorem dX10_turn_138 : decode cX10_turn 138 = .ok (.goto 4, 3) := by decide +kernel
theorem dX10_turn_141 : decode cX10_turn 141 = .ok (.iconst 1, 1) := by decide +kernel
theorem dX10_turn_142 : decode cX10_turn 142 = .ok (.iadd, 1) := by decide +kernel
theorem dX10_turn_143 : decode cX10_turn 143 = .ok (.iastore, 1) := by decide +kernel
theorem dX10_turn_144 : decode cX10_turn 144 = .ok (.iload 5, 2) := by decide +kernel
theorem dX10_turn_146 : decode cX10_turn 146 = .ok (.aload_n 0, 1) := by decide +kernel
theorem dX10_turn_147 : decode cX10_turn 147 = .ok (.getfield 56, 3) := by decide +kernel
theorem dX10_turn_150 : decode cX10_turn 150 = .ok (.if_icmp .le 36, 3) := by decide +kernel
theorem dX10_turn_153 : decode cX10_turn 153 = .ok (.aload_n 0, 1) := by decide +kernel
theorem dX10_turn_154 : decode cX10_turn 154 = .ok (.iload_n 1, 1) := by decide +kernel
theorem dX10_turn_155 : decode cX10_turn 155 = .ok (.iload 4, 2) := by decide +kernel
theorem dX10_turn_157 : decode cX10_turn 157 = .ok (.iload 5, 2) := by decide +kernel
theorem dX10_turn_159 : decode cX10_turn 159 = .ok (.iconst 2, 1) := by decide +kernel
theorem dX10_turn_160 : decode cX10_turn 160 = .ok (.idiv, 1) := by decide +kernel
theorem dX10_turn_161 : decode cX10_turn 161 = .ok (.iadd, 1) := by decide +kernel
theorem dX10_turn_162 : decode cX10_turn 162 = .ok (.iload 5, 2) := by decide +kernel
theorem dX10_turn_164 : decode cX10_turn 164 = .ok (.iload 5, 2) := by decide +kernel
theorem dX10_turn_166 : decode cX10_turn 166 = .ok (.iconst 2, 1) := by decide +kernel
theorem dX10_turn_167 : decode cX10_turn 167 = .ok (.idiv, 1) := by decide +kernel
theorem dX10_turn_168 : decode cX10_turn 168 = .ok (.isub, 1) := by decide +kernel
theorem dX10_turn_169 : decode cX10_turn 169 = .ok (.invokevirtual 208, 3) := by decide +kernel
theorem dX10_turn_172 : decode cX10_turn 172 = .ok (.aload_n 0, 1) := by decide +kernel
theorem dX10_turn_173 : decode cX10_turn 173 = .ok (.iload_n 1, 1) := by decide +kernel
theorem dX10_turn_174 : decode cX10_turn 174 = .ok (.iload 4, 2) := by decide +kernel
theorem dX10_turn_176 : decode cX10_turn 176 = .ok (.iload 5, 2) := by decide +kernel
theorem dX10_turn_178 : decode cX10_turn 178 = .ok (.iconst 2, 1) := by decide +kernel
theorem dX10_turn_179 : decode cX10_turn 179 = .ok (.idiv, 1) := by decide +kernel
theorem dX10_turn_180 : decode cX10_turn 180 = .ok (.invokevirtual 208, 3) := by decide +kernel
theorem dX10_turn_183 : decode cX10_turn 183 = .ok (.goto 25, 3) := by decide +kernel
theorem dX10_turn_186 : decode cX10_turn 186 = .ok (.aload_n 0, 1) := by decide +kernel
theorem dX10_turn_187 : decode cX10_turn 187 = .ok (.getfield 75, 3) := by decide +kernel
theorem dX10_turn_190 : decode cX10_turn 190 = .ok (.iconst 1, 1) := by decide +kernel
theorem dX10_turn_191 : decode cX10_turn 191 = .ok (.dup2, 1) := by decide +kernel
theorem dX10_turn_192 : decode cX10_turn 192 = .ok (.iaload, 1) := by decide +kernel
theorem dX10_turn_193 : decode cX10_turn 193 = .ok (.iconst 1, 1) := by decide +kernel
theorem dX10_turn_194 : decode cX10_turn 194 = .ok (.iadd, 1) := by decide +kernel
theorem dX10_turn_195 : decode cX10_turn 195 = .ok (.iastore, 1) := by decide +kernel
theorem dX10_turn_196 : decode cX10_turn 196 = .ok (.aload_n 0, 1) := by decide +kernel
theorem dX10_turn_197 : decode cX10_turn 197 = .ok (.getfield 75, 3) := by decide +kernel
theorem dX10_turn_200 : decode cX10_turn 200 = .ok (.iconst 3, 1) := by decide +kernel
theorem dX10_turn_201 : decode cX10_turn 201 = .ok (.iload_n 1, 1) := by decide +kernel
theorem dX10_turn_202 : decode cX10_turn 202 = .ok (.iadd, 1) := by decide +kernel
theorem dX10_turn_203 : decode cX10_turn 203 = .ok (.dup2, 1) := by decide +kernel
theorem dX10_turn_204 : decode cX10_turn 204 = .ok (.iaload, 1) := by decide +kernel
theorem dX10_turn_205 : decode cX10_turn 205 = .ok (.iconst 1, 1) := by decide +kernel
theorem dX10_turn_206 : decode cX10_turn 206 = .ok (.iadd, 1) := by decide +kernel
theorem dX10_turn_207 : decode cX10_turn 207 = .ok (.iastore, 1) := by decide +kernel
theorem dX10_turn_208 : decode cX10_turn 208 = .ok (.return_, 1) := by decide +kernel
theorem dX10_workThrough_0 : decode cX10_workThrough 0 = .ok (.iconst 0, 1) := by decide +kernel
theorem dX10_workThrough_1 : decode cX10_workThrough 1 = .ok (.istore_n 2, 1) := by decide +kernel
theorem dX10_workThrough_2 : decode cX10_workThrough 2 = .ok (.iload_n 2, 1) := by decide +kernel
theorem dX10_workThrough_3 : decode cX10_workThrough 3 = .ok (.bipush 7, 2) := by decide +kernel
theorem dX10_workThrough_5 : decode cX10_workThrough 5 = .ok (.if_icmp .ge 16, 3) := by decide +kernel
theorem dX10_workThrough_8 : decode cX10_workThrough 8 = .ok (.aload_n 0, 1) := by decide +kernel
theorem dX10_workThrough_9 : decode cX10_workThrough 9 = .ok (.getfield 75, 3) := by decide +kernel
theorem dX10_workThrough_12 : decode cX10_workThrough 12 = .ok (.iload_n 2, 1) := by decide +kernel
theorem dX10_workThrough_13 : decode cX10_workThrough 13 = .ok (.iconst 0, 1) := by decide +kernel
theorem dX10_workThrough_14 : decode cX10_workThrough 14 = .ok (.iastore, 1) := by decide +kernel
theorem dX10_workThrough_15 : decode cX10_workThrough 15 = .ok (.iinc 2 1, 3) := by decide +kernel
theorem dX10_workThrough_18 : decode cX10_workThrough 18 = .ok (.goto (-16), 3) := by decide +kernel
theorem dX10_workThrough_21 : decode cX10_workThrough 21 = .ok (.iconst 0, 1) := by decide +kernel
theorem dX10_workThrough_22 : decode cX10_workThrough 22 = .ok (.istore_n 2, 1) := by decide +kernel
theorem dX10_workThrough_23 : decode cX10_workThrough 23 = .ok (.iload_n 2, 1) := by decide +kernel
theorem dX10_workThrough_24 : decode cX10_workThrough 24 = .ok (.iconst 4, 1) := by decide +kernel
theorem dX10_workThrough_25 : decode cX10_workThrough 25 = .ok (.if_icmp .ge 16, 3) := by decide +kernel
theorem dX10_workThrough_28 : decode cX10_workThrough 28 = .ok (.aload_n 0, 1) := by decide +kernel
theorem dX10_workThrough_29 : decode cX10_workThrough 29 = .ok (.getfield 72, 3) := by decide +kernel
theorem dX10_workThrough_32 : decode cX10_workThrough 32 = .ok (.iload_n 2, 1) := by decide +kernel
theorem dX10_workThrough_33 : decode cX10_workThrough 33 = .ok (.iconst 0, 1) := by decide +kernel
theorem dX10_workThrough_34 : decode cX10_workThrough 34 = .ok (.iastore, 1) := by decide +kernel
theorem dX10_workThrough_35 : decode cX10_workThrough 35 = .ok (.iinc 2 1, 3) := by decide +kernel
theorem dX10_workThrough_38 : decode cX10_workThrough 38 = .ok (.goto (-15), 3) := by decide +kernel
theorem dX10_workThrough_41 : decode cX10_workThrough 41 = .ok (.aload_n 0, 1) := by decide +kernel
theorem dX10_workThrough_42 : decode cX10_workThrough 42 = .ok (.getfield 63, 3) := by decide +kernel
theorem dX10_workThrough_45 : decode cX10_workThrough 45 = .ok (.istore_n 2, 1) := by decide +kernel
theorem dX10_workThrough_46 : decode cX10_workThrough 46 = .ok (.aload_n 0, 1) := by decide +kernel
theorem dX10_workThrough_47 : decode cX10_workThrough 47 = .ok (.iconst 0, 1) := by decide +kernel
