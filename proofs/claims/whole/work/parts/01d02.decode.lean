theorem dX7_init_8 : decode cX7_init 8 = .ok (.dup, 1) := by decide +kernel
theorem dX7_init_9 : decode cX7_init 9 = .ok (.sipush 600, 3) := by decide +kernel
theorem dX7_init_12 : decode cX7_init 12 = .ok (.invokespecial 11, 3) := by decide +kernel
theorem dX7_init_15 : decode cX7_init 15 = .ok (.putfield 14, 3) := by decide +kernel
theorem dX7_init_18 : decode cX7_init 18 = .ok (.return_, 1) := by decide +kernel
theorem dX7_become_0 : decode cX7_become 0 = .ok (.aload_n 0, 1) := by decide +kernel
theorem dX7_become_1 : decode cX7_become 1 = .ok (.iload_n 1, 1) := by decide +kernel
theorem dX7_become_2 : decode cX7_become 2 = .ok (.putfield 20, 3) := by decide +kernel
theorem dX7_become_5 : decode cX7_become 5 = .ok (.aload_n 0, 1) := by decide +kernel
theorem dX7_become_6 : decode cX7_become 6 = .ok (.iload_n 2, 1) := by decide +kernel
theorem dX7_become_7 : decode cX7_become 7 = .ok (.putfield 24, 3) := by decide +kernel
theorem dX7_become_10 : decode cX7_become 10 = .ok (.aload_n 0, 1) := by decide +kernel
theorem dX7_become_11 : decode cX7_become 11 = .ok (.iload_n 3, 1) := by decide +kernel
theorem dX7_become_12 : decode cX7_become 12 = .ok (.putfield 27, 3) := by decide +kernel
theorem dX7_become_15 : decode cX7_become 15 = .ok (.aload_n 0, 1) := by decide +kernel
theorem dX7_become_16 : decode cX7_become 16 = .ok (.iconst 0, 1) := by decide +kernel
theorem dX7_become_17 : decode cX7_become 17 = .ok (.putfield 30, 3) := by decide +kernel
theorem dX7_become_20 : decode cX7_become 20 = .ok (.aload_n 0, 1) := by decide +kernel
theorem dX7_become_21 : decode cX7_become 21 = .ok (.iconst 0, 1) := by decide +kernel
theorem dX7_become_22 : decode cX7_become 22 = .ok (.putfield 33, 3) := by decide +kernel
theorem dX7_become_25 : decode cX7_become 25 = .ok (.aload_n 0, 1) := by decide +kernel
theorem dX7_become_26 : decode cX7_become 26 = .ok (.getfield 14, 3) := by decide +kernel
theorem dX7_become_29 : decode cX7_become 29 = .ok (.invokevirtual 37, 3) := by decide +kernel
theorem dX7_become_32 : decode cX7_become 32 = .ok (.return_, 1) := by decide +kernel
theorem dX7_letsOn_0 : decode cX7_letsOn 0 = .ok (.aload_n 0, 1) := by decide +kernel
theorem dX7_letsOn_1 : decode cX7_letsOn 1 = .ok (.getfield 20, 3) := by decide +kernel
theorem dX7_letsOn_4 : decode cX7_letsOn 4 = .ok (.tableswitch 138 1 9 #[52, 138, 65, 74, 84, 101, 138, 118, 132], 52) := by decide +kernel
theorem dX7_letsOn_56 : decode cX7_letsOn 56 = .ok (.iload_n 1, 1) := by decide +kernel
theorem dX7_letsOn_57 : decode cX7_letsOn 57 = .ok (.aload_n 0, 1) := by decide +kernel
theorem dX7_letsOn_58 : decode cX7_letsOn 58 = .ok (.getfield 24, 3) := by decide +kernel
theorem dX7_letsOn_61 : decode cX7_letsOn 61 = .ok (.aload_n 0, 1) := by decide +kernel
theorem dX7_letsOn_62 : decode cX7_letsOn 62 = .ok (.getfield 27, 3) := by decide +kernel
theorem dX7_letsOn_65 : decode cX7_letsOn 65 = .ok (.invokestatic 40, 3) := by decide +kernel
theorem dX7_letsOn_68 : decode cX7_letsOn 68 = .ok (.ireturn, 1) := by decide +kernel
theorem dX7_letsOn_69 : decode cX7_letsOn 69 = .ok (.aload_n 0, 1) := by decide +kernel
theorem dX7_letsOn_70 : decode cX7_letsOn 70 = .ok (.getfield 14, 3) := by decide +kernel
theorem dX7_letsOn_73 : decode cX7_letsOn 73 = .ok (.iload_n 1, 1) := by decide +kernel
theorem dX7_letsOn_74 : decode cX7_letsOn 74 = .ok (.invokevirtual 44, 3) := by decide +kernel
theorem dX7_letsOn_77 : decode cX7_letsOn 77 = .ok (.ireturn, 1) := by decide +kernel
theorem dX7_letsOn_78 : decode cX7_letsOn 78 = .ok (.aload_n 0, 1) := by decide +kernel
theorem dX7_letsOn_79 : decode cX7_letsOn 79 = .ok (.getfield 14, 3) := by decide +kernel
theorem dX7_letsOn_82 : decode cX7_letsOn 82 = .ok (.iload_n 1, 1) := by decide +kernel
theorem dX7_letsOn_83 : decode cX7_letsOn 83 = .ok (.invokevirtual 48, 3) := by decide +kernel
theorem dX7_letsOn_86 : decode cX7_letsOn 86 = .ok (.iconst 0, 1) := by decide +kernel
theorem dX7_letsOn_87 : decode cX7_letsOn 87 = .ok (.ireturn, 1) := by decide +kernel
theorem dX7_letsOn_88 : decode cX7_letsOn 88 = .ok (.aload_n 0, 1) := by decide +kernel
theorem dX7_letsOn_89 : decode cX7_letsOn 89 = .ok (.getfield 30, 3) := by decide +kernel
theorem dX7_letsOn_92 : decode cX7_letsOn 92 = .ok (.aload_n 0, 1) := by decide +kernel
theorem dX7_letsOn_93 : decode cX7_letsOn 93 = .ok (.getfield 27, 3) := by decide +kernel
theorem dX7_letsOn_96 : decode cX7_letsOn 96 = .ok (.if_icmp .gt 7, 3) := by decide +kernel
theorem dX7_letsOn_99 : decode cX7_letsOn 99 = .ok (.iconst 1, 1) := by decide +kernel
theorem dX7_letsOn_100 : decode cX7_letsOn 100 = .ok (.goto 4, 3) := by decide +kernel
theorem dX7_letsOn_103 : decode cX7_letsOn 103 = .ok (.iconst 0, 1) := by decide +kernel
theorem dX7_letsOn_104 : decode cX7_letsOn 104 = .ok (.ireturn, 1) := by decide +kernel
theorem dX7_letsOn_105 : decode cX7_letsOn 105 = .ok (.aload_n 0, 1) := by decide +kernel
theorem dX7_letsOn_106 : decode cX7_letsOn 106 = .ok (.getfield 30, 3) := by decide +kernel
theorem dX7_letsOn_109 : decode cX7_letsOn 109 = .ok (.aload_n 0, 1) := by decide +kernel
theorem dX7_letsOn_110 : decode cX7_letsOn 110 = .ok (.getfield 27, 3) := by decide +kernel
theorem dX7_letsOn_113 : decode cX7_letsOn 113 = .ok (.if_icmp .le 7, 3) := by decide +kernel
theorem dX7_letsOn_116 : decode cX7_letsOn 116 = .ok (.iconst 1, 1) := by decide +kernel
theorem dX7_letsOn_117 : decode cX7_letsOn 117 = .ok (.goto 4, 3) := by decide +kernel
theorem dX7_letsOn_120 : decode cX7_letsOn 120 = .ok (.iconst 0, 1) := by decide +kernel
theorem dX7_letsOn_121 : decode cX7_letsOn 121 = .ok (.ireturn, 1) := by decide +kernel
theorem dX7_letsOn_122 : decode cX7_letsOn 122 = .ok (.aload_n 0, 1) := by decide +kernel
theorem dX7_letsOn_123 : decode cX7_letsOn 123 = .ok (.iload_n 1, 1) := by decide +kernel
theorem dX7_letsOn_124 : decode cX7_letsOn 124 = .ok (.invokevirtual 51, 3) := by decide +kernel
theorem dX7_letsOn_127 : decode cX7_letsOn 127 = .ok (.ifCond .ne 7, 3) := by decide +kernel
theorem dX7_letsOn_130 : decode cX7_letsOn 130 = .ok (.iconst 1, 1) := by decide +kernel
theorem dX7_letsOn_131 : decode cX7_letsOn 131 = .ok (.goto 4, 3) := by decide +kernel
theorem dX7_letsOn_134 : decode cX7_letsOn 134 = .ok (.iconst 0, 1) := by decide +kernel
theorem dX7_letsOn_135 : decode cX7_letsOn 135 = .ok (.ireturn, 1) := by decide +kernel
theorem dX7_letsOn_136 : decode cX7_letsOn 136 = .ok (.aload_n 0, 1) := by decide +kernel
theorem dX7_letsOn_137 : decode cX7_letsOn 137 = .ok (.iload_n 1, 1) := by decide +kernel
theorem dX7_letsOn_138 : decode cX7_letsOn 138 = .ok (.invokevirtual 51, 3) := by decide +kernel
theorem dX7_letsOn_141 : decode cX7_letsOn 141 = .ok (.ireturn, 1) := by decide +kernel
theorem dX7_letsOn_142 : decode cX7_letsOn 142 = .ok (.iconst 1, 1) := by decide +kernel
theorem dX7_letsOn_143 : decode cX7_letsOn 143 = .ok (.ireturn, 1) := by decide +kernel
theorem dX7_changed_0 : decode cX7_changed 0 = .ok (.aload_n 0, 1) := by decide +kernel
theorem dX7_changed_1 : decode cX7_changed 1 = .ok (.getfield 20, 3) := by decide +kernel
theorem dX7_changed_4 : decode cX7_changed 4 = .ok (.ifCond .ne 11, 3) := by decide +kernel
theorem dX7_changed_7 : decode cX7_changed 7 = .ok (.aload_n 0, 1) := by decide +kernel
theorem dX7_changed_8 : decode cX7_changed 8 = .ok (.iload_n 1, 1) := by decide +kernel
theorem dX7_changed_9 : decode cX7_changed 9 = .ok (.invokevirtual 54, 3) := by decide +kernel
theorem dX7_changed_12 : decode cX7_changed 12 = .ok (.goto 4, 3) := by decide +kernel
theorem dX7_changed_15 : decode cX7_changed 15 = .ok (.iload_n 1, 1) := by decide +kernel
theorem dX7_changed_16 : decode cX7_changed 16 = .ok (.ireturn, 1) := by decide +kernel
theorem dX7_isClosed_0 : decode cX7_isClosed 0 = .ok (.aload_n 0, 1) := by decide +kernel
theorem dX7_isClosed_1 : decode cX7_isClosed 1 = .ok (.getfield 20, 3) := by decide +kernel
theorem dX7_isClosed_4 : decode cX7_isClosed 4 = .ok (.iconst 5, 1) := by decide +kernel
theorem dX7_isClosed_5 : decode cX7_isClosed 5 = .ok (.if_icmp .ne 14, 3) := by decide +kernel
theorem dX7_isClosed_8 : decode cX7_isClosed 8 = .ok (.aload_n 0, 1) := by decide +kernel
theorem dX7_isClosed_9 : decode cX7_isClosed 9 = .ok (.getfield 30, 3) := by decide +kernel
theorem dX7_isClosed_12 : decode cX7_isClosed 12 = .ok (.aload_n 0, 1) := by decide +kernel
theorem dX7_isClosed_13 : decode cX7_isClosed 13 = .ok (.getfield 27, 3) := by decide +kernel
theorem dX7_isClosed_16 : decode cX7_isClosed 16 = .ok (.if_icmp .ge 19, 3) := by decide +kernel
theorem dX7_isClosed_19 : decode cX7_isClosed 19 = .ok (.aload_n 0, 1) := by decide +kernel
theorem dX7_isClosed_20 : decode cX7_isClosed 20 = .ok (.getfield 20, 3) := by decide +kernel
theorem dX7_isClosed_23 : decode cX7_isClosed 23 = .ok (.bipush 8, 2) := by decide +kernel
theorem dX7_isClosed_25 : decode cX7_isClosed 25 = .ok (.if_icmp .ne 14, 3) := by decide +kernel
theorem dX7_isClosed_28 : decode cX7_isClosed 28 = .ok (.aload_n 0, 1) := by decide +kernel
theorem dX7_isClosed_29 : decode cX7_isClosed 29 = .ok (.getfield 33, 3) := by decide +kernel
theorem dX7_isClosed_32 : decode cX7_isClosed 32 = .ok (.ifCond .eq 7, 3) := by decide +kernel
theorem dX7_isClosed_35 : decode cX7_isClosed 35 = .ok (.iconst 1, 1) := by decide +kernel
theorem dX7_isClosed_36 : decode cX7_isClosed 36 = .ok (.goto 4, 3) := by decide +kernel
theorem dX7_isClosed_39 : decode cX7_isClosed 39 = .ok (.iconst 0, 1) := by decide +kernel
theorem dX7_isClosed_40 : decode cX7_isClosed 40 = .ok (.ireturn, 1) := by decide +kernel
theorem dX7_flagsBehind_0 : decode cX7_flagsBehind 0 = .ok (.aload_n 0, 1) := by decide +kernel
theorem dX7_flagsBehind_1 : decode cX7_flagsBehind 1 = .ok (.getfield 20, 3) := by decide +kernel
theorem dX7_flagsBehind_4 : decode cX7_flagsBehind 4 = .ok (.tableswitch 95 0 9 #[56, 61, 66, 71, 78, 82, 95, 95, 87, 61], 56) := by decide +kernel
theorem dX7_flagsBehind_60 : decode cX7_flagsBehind 60 = .ok (.iload_n 1, 1) := by decide +kernel
theorem dX7_flagsBehind_61 : decode cX7_flagsBehind 61 = .ok (.bipush (-7), 2) := by decide +kernel
theorem dX7_flagsBehind_63 : decode cX7_flagsBehind 63 = .ok (.iand, 1) := by decide +kernel
theorem dX7_flagsBehind_64 : decode cX7_flagsBehind 64 = .ok (.ireturn, 1) := by decide +kernel
theorem dX7_flagsBehind_65 : decode cX7_flagsBehind 65 = .ok (.iload_n 1, 1) := by decide +kernel
theorem dX7_flagsBehind_66 : decode cX7_flagsBehind 66 = .ok (.bipush (-2), 2) := by decide +kernel
theorem dX7_flagsBehind_68 : decode cX7_flagsBehind 68 = .ok (.iand, 1) := by decide +kernel
theorem dX7_flagsBehind_69 : decode cX7_flagsBehind 69 = .ok (.ireturn, 1) := by decide +kernel
theorem dX7_flagsBehind_70 : decode cX7_flagsBehind 70 = .ok (.iload_n 1, 1) := by decide +kernel
theorem dX7_flagsBehind_71 : decode cX7_flagsBehind 71 = .ok (.bipush (-8), 2) := by decide +kernel
theorem dX7_flagsBehind_73 : decode cX7_flagsBehind 73 = .ok (.iand, 1) := by decide +kernel
theorem dX7_flagsBehind_74 : decode cX7_flagsBehind 74 = .ok (.ireturn, 1) := by decide +kernel
theorem dX7_flagsBehind_75 : decode cX7_flagsBehind 75 = .ok (.iload_n 1, 1) := by decide +kernel
theorem dX7_flagsBehind_76 : decode cX7_flagsBehind 76 = .ok (.bipush (-2), 2) := by decide +kernel
theorem dX7_flagsBehind_78 : decode cX7_flagsBehind 78 = .ok (.iand, 1) := by decide +kernel
theorem dX7_flagsBehind_79 : decode cX7_flagsBehind 79 = .ok (.iconst 4, 1) := by decide +kernel
theorem dX7_flagsBehind_80 : decode cX7_flagsBehind 80 = .ok (.ior, 1) := by decide +kernel
theorem dX7_flagsBehind_81 : decode cX7_flagsBehind 81 = .ok (.ireturn, 1) := by decide +kernel
theorem dX7_flagsBehind_82 : decode cX7_flagsBehind 82 = .ok (.iload_n 1, 1) := by decide +kernel
theorem dX7_flagsBehind_83 : decode cX7_flagsBehind 83 = .ok (.iconst 2, 1) := by decide +kernel
theorem dX7_flagsBehind_84 : decode cX7_flagsBehind 84 = .ok (.ior, 1) := by decide +kernel
theorem dX7_flagsBehind_85 : decode cX7_flagsBehind 85 = .ok (.ireturn, 1) := by decide +kernel
theorem dX7_flagsBehind_86 : decode cX7_flagsBehind 86 = .ok (.iload_n 1, 1) := by decide +kernel
theorem dX7_flagsBehind_87 : decode cX7_flagsBehind 87 = .ok (.bipush 8, 2) := by decide +kernel
theorem dX7_flagsBehind_89 : decode cX7_flagsBehind 89 = .ok (.ior, 1) := by decide +kernel
theorem dX7_flagsBehind_90 : decode cX7_flagsBehind 90 = .ok (.ireturn, 1) := by decide +kernel
theorem dX7_flagsBehind_91 : decode cX7_flagsBehind 91 = .ok (.iload_n 1, 1) := by decide +kernel
theorem dX7_flagsBehind_92 : decode cX7_flagsBehind 92 = .ok (.bipush (-2), 2) := by decide +kernel
theorem dX7_flagsBehind_94 : decode cX7_flagsBehind 94 = .ok (.iand, 1) := by decide +kernel
theorem dX7_flagsBehind_95 : decode cX7_flagsBehind 95 = .ok (.bipush 8, 2) := by decide +kernel
theorem dX7_flagsBehind_97 : decode cX7_flagsBehind 97 = .ok (.ior, 1) := by decide +kernel
theorem dX7_flagsBehind_98 : decode cX7_flagsBehind 98 = .ok (.ireturn, 1) := by decide +kernel
theorem dX7_flagsBehind_99 : decode cX7_flagsBehind 99 = .ok (.iload_n 1, 1) := by decide +kernel
theorem dX7_flagsBehind_100 : decode cX7_flagsBehind 100 = .ok (.ireturn, 1) := by decide +kernel
theorem dX7_mapped_0 : decode cX7_mapped 0 = .ok (.aload_n 0, 1) := by decide +kernel
theorem dX7_mapped_1 : decode cX7_mapped 1 = .ok (.getfield 24, 3) := by decide +kernel
theorem dX7_mapped_4 : decode cX7_mapped 4 = .ok (.tableswitch 49 0 2 #[28, 35, 42], 28) := by decide +kernel
theorem dX7_mapped_32 : decode cX7_mapped 32 = .ok (.iload_n 1, 1) := by decide +kernel
theorem dX7_mapped_33 : decode cX7_mapped 33 = .ok (.aload_n 0, 1) := by decide +kernel
theorem dX7_mapped_34 : decode cX7_mapped 34 = .ok (.getfield 27, 3) := by decide +kernel
theorem dX7_mapped_37 : decode cX7_mapped 37 = .ok (.iadd, 1) := by decide +kernel
theorem dX7_mapped_38 : decode cX7_mapped 38 = .ok (.ireturn, 1) := by decide +kernel
theorem dX7_mapped_39 : decode cX7_mapped 39 = .ok (.iload_n 1, 1) := by decide +kernel
theorem dX7_mapped_40 : decode cX7_mapped 40 = .ok (.aload_n 0, 1) := by decide +kernel
theorem dX7_mapped_41 : decode cX7_mapped 41 = .ok (.getfield 27, 3) := by decide +kernel
theorem dX7_mapped_44 : decode cX7_mapped 44 = .ok (.imul, 1) := by decide +kernel
theorem dX7_mapped_45 : decode cX7_mapped 45 = .ok (.ireturn, 1) := by decide +kernel
theorem dX7_mapped_46 : decode cX7_mapped 46 = .ok (.aload_n 0, 1) := by decide +kernel
theorem dX7_mapped_47 : decode cX7_mapped 47 = .ok (.getfield 27, 3) := by decide +kernel
theorem dX7_mapped_50 : decode cX7_mapped 50 = .ok (.iload_n 1, 1) := by decide +kernel
theorem dX7_mapped_51 : decode cX7_mapped 51 = .ok (.isub, 1) := by decide +kernel
theorem dX7_mapped_52 : decode cX7_mapped 52 = .ok (.ireturn, 1) := by decide +kernel
theorem dX7_mapped_53 : decode cX7_mapped 53 = .ok (.aload_n 0, 1) := by decide +kernel
theorem dX7_mapped_54 : decode cX7_mapped 54 = .ok (.getfield 27, 3) := by decide +kernel
theorem dX7_mapped_57 : decode cX7_mapped 57 = .ok (.ifCond .ne 7, 3) := by decide +kernel
theorem dX7_mapped_60 : decode cX7_mapped 60 = .ok (.iconst 0, 1) := by decide +kernel
theorem dX7_mapped_61 : decode cX7_mapped 61 = .ok (.goto 9, 3) := by decide +kernel
theorem dX7_mapped_64 : decode cX7_mapped 64 = .ok (.iload_n 1, 1) := by decide +kernel
theorem dX7_mapped_65 : decode cX7_mapped 65 = .ok (.aload_n 0, 1) := by decide +kernel
theorem dX7_mapped_66 : decode cX7_mapped 66 = .ok (.getfield 27, 3) := by decide +kernel
theorem dX7_mapped_69 : decode cX7_mapped 69 = .ok (.irem, 1) := by decide +kernel
theorem dX7_mapped_70 : decode cX7_mapped 70 = .ok (.ireturn, 1) := by decide +kernel
theorem dX7_hasFailed_0 : decode cX7_hasFailed 0 = .ok (.aload_n 0, 1) := by decide +kernel
theorem dX7_hasFailed_1 : decode cX7_hasFailed 1 = .ok (.aload_n 0, 1) := by decide +kernel
theorem dX7_hasFailed_2 : decode cX7_hasFailed 2 = .ok (.getfield 33, 3) := by decide +kernel
theorem dX7_hasFailed_5 : decode cX7_hasFailed 5 = .ok (.ifCond .ne 18, 3) := by decide +kernel
theorem dX7_hasFailed_8 : decode cX7_hasFailed 8 = .ok (.iload_n 1, 1) := by decide +kernel
theorem dX7_hasFailed_9 : decode cX7_hasFailed 9 = .ok (.aload_n 0, 1) := by decide +kernel
theorem dX7_hasFailed_10 : decode cX7_hasFailed 10 = .ok (.getfield 24, 3) := by decide +kernel
theorem dX7_hasFailed_13 : decode cX7_hasFailed 13 = .ok (.aload_n 0, 1) := by decide +kernel
theorem dX7_hasFailed_14 : decode cX7_hasFailed 14 = .ok (.getfield 27, 3) := by decide +kernel
theorem dX7_hasFailed_17 : decode cX7_hasFailed 17 = .ok (.invokestatic 40, 3) := by decide +kernel
theorem dX7_hasFailed_20 : decode cX7_hasFailed 20 = .ok (.ifCond .ne 7, 3) := by decide +kernel
theorem dX7_hasFailed_23 : decode cX7_hasFailed 23 = .ok (.iconst 1, 1) := by decide +kernel
theorem dX7_hasFailed_24 : decode cX7_hasFailed 24 = .ok (.goto 4, 3) := by decide +kernel
theorem dX7_hasFailed_27 : decode cX7_hasFailed 27 = .ok (.iconst 0, 1) := by decide +kernel
theorem dX7_hasFailed_28 : decode cX7_hasFailed 28 = .ok (.putfield 33, 3) := by decide +kernel
theorem dX7_hasFailed_31 : decode cX7_hasFailed 31 = .ok (.aload_n 0, 1) := by decide +kernel
theorem dX7_hasFailed_32 : decode cX7_hasFailed 32 = .ok (.getfield 33, 3) := by decide +kernel
theorem dX7_hasFailed_35 : decode cX7_hasFailed 35 = .ok (.ireturn, 1) := by decide +kernel
theorem dX8_init_0 : decode cX8_init 0 = .ok (.aload_n 0, 1) := by decide +kernel
theorem dX8_init_1 : decode cX8_init 1 = .ok (.invokespecial 3, 3) := by decide +kernel
theorem dX8_init_4 : decode cX8_init 4 = .ok (.aload_n 0, 1) := by decide +kernel
theorem dX8_init_5 : decode cX8_init 5 = .ok (.bipush 80, 2) := by decide +kernel
theorem dX8_init_7 : decode cX8_init 7 = .ok (.newarray .int, 2) := by decide +kernel
theorem dX8_init_9 : decode cX8_init 9 = .ok (.putfield 9, 3) := by decide +kernel
theorem dX8_init_12 : decode cX8_init 12 = .ok (.return_, 1) := by decide +kernel
theorem dX8_begin_0 : decode cX8_begin 0 = .ok (.aload_n 0, 1) := by decide +kernel
theorem dX8_begin_1 : decode cX8_begin 1 = .ok (.iconst 0, 1) := by decide +kernel
theorem dX8_begin_2 : decode cX8_begin 2 = .ok (.putfield 15, 3) := by decide +kernel
theorem dX8_begin_5 : decode cX8_begin 5 = .ok (.aload_n 0, 1) := by decide +kernel
theorem dX8_begin_6 : decode cX8_begin 6 = .ok (.iconst 0, 1) := by decide +kernel
theorem dX8_begin_7 : decode cX8_begin 7 = .ok (.putfield 19, 3) := by decide +kernel
theorem dX8_begin_10 : decode cX8_begin 10 = .ok (.aload_n 0, 1) := by decide +kernel
theorem dX8_begin_11 : decode cX8_begin 11 = .ok (.iconst 0, 1) := by decide +kernel
theorem dX8_begin_12 : decode cX8_begin 12 = .ok (.putfield 22, 3) := by decide +kernel
theorem dX8_begin_15 : decode cX8_begin 15 = .ok (.return_, 1) := by decide +kernel
theorem dX8_hasTasks_0 : decode cX8_hasTasks 0 = .ok (.aload_n 0, 1) := by decide +kernel
theorem dX8_hasTasks_1 : decode cX8_hasTasks 1 = .ok (.getfield 15, 3) := by decide +kernel
theorem dX8_hasTasks_4 : decode cX8_hasTasks 4 = .ok (.aload_n 0, 1) := by decide +kernel
theorem dX8_hasTasks_5 : decode cX8_hasTasks 5 = .ok (.getfield 19, 3) := by decide +kernel
theorem dX8_hasTasks_8 : decode cX8_hasTasks 8 = .ok (.if_icmp .ge 7, 3) := by decide +kernel
theorem dX8_hasTasks_11 : decode cX8_hasTasks 11 = .ok (.iconst 1, 1) := by decide +kernel
theorem dX8_hasTasks_12 : decode cX8_hasTasks 12 = .ok (.goto 4, 3) := by decide +kernel
theorem dX8_hasTasks_15 : decode cX8_hasTasks 15 = .ok (.iconst 0, 1) := by decide +kernel
theorem dX8_hasTasks_16 : decode cX8_hasTasks 16 = .ok (.ireturn, 1) := by decide +kernel
theorem dX8_addTask_0 : decode cX8_addTask 0 = .ok (.aload_n 0, 1) := by decide +kernel
theorem dX8_addTask_1 : decode cX8_addTask 1 = .ok (.getfield 19, 3) := by decide +kernel
theorem dX8_addTask_4 : decode cX8_addTask 4 = .ok (.bipush 80, 2) := by decide +kernel
theorem dX8_addTask_6 : decode cX8_addTask 6 = .ok (.if_icmp .ge 23, 3) := by decide +kernel
theorem dX8_addTask_9 : decode cX8_addTask 9 = .ok (.aload_n 0, 1) := by decide +kernel
theorem dX8_addTask_10 : decode cX8_addTask 10 = .ok (.getfield 9, 3) := by decide +kernel
theorem dX8_addTask_13 : decode cX8_addTask 13 = .ok (.aload_n 0, 1) := by decide +kernel
theorem dX8_addTask_14 : decode cX8_addTask 14 = .ok (.getfield 19, 3) := by decide +kernel
theorem dX8_addTask_17 : decode cX8_addTask 17 = .ok (.iload_n 1, 1) := by decide +kernel
theorem dX8_addTask_18 : decode cX8_addTask 18 = .ok (.iastore, 1) := by decide +kernel
theorem dX8_addTask_19 : decode cX8_addTask 19 = .ok (.aload_n 0, 1) := by decide +kernel
theorem dX8_addTask_20 : decode cX8_addTask 20 = .ok (.dup, 1) := by decide +kernel
theorem dX8_addTask_21 : decode cX8_addTask 21 = .ok (.getfield 19, 3) := by decide +kernel
theorem dX8_addTask_24 : decode cX8_addTask 24 = .ok (.iconst 1, 1) := by decide +kernel
theorem dX8_addTask_25 : decode cX8_addTask 25 = .ok (.iadd, 1) := by decide +kernel
theorem dX8_addTask_26 : decode cX8_addTask 26 = .ok (.putfield 19, 3) := by decide +kernel
theorem dX8_addTask_29 : decode cX8_addTask 29 = .ok (.return_, 1) := by decide +kernel
theorem dX8_takeLast_0 : decode cX8_takeLast 0 = .ok (.aload_n 0, 1) := by decide +kernel
theorem dX8_takeLast_1 : decode cX8_takeLast 1 = .ok (.invokevirtual 25, 3) := by decide +kernel
theorem dX8_takeLast_4 : decode cX8_takeLast 4 = .ok (.ifCond .ne 5, 3) := by decide +kernel
theorem dX8_takeLast_7 : decode cX8_takeLast 7 = .ok (.iconst 0, 1) := by decide +kernel
theorem dX8_takeLast_8 : decode cX8_takeLast 8 = .ok (.ireturn, 1) := by decide +kernel
theorem dX8_takeLast_9 : decode cX8_takeLast 9 = .ok (.aload_n 0, 1) := by decide +kernel
theorem dX8_takeLast_10 : decode cX8_takeLast 10 = .ok (.dup, 1) := by decide +kernel
theorem dX8_takeLast_11 : decode cX8_takeLast 11 = .ok (.getfield 19, 3) := by decide +kernel
theorem dX8_takeLast_14 : decode cX8_takeLast 14 = .ok (.iconst 1, 1) := by decide +kernel
theorem dX8_takeLast_15 : decode cX8_takeLast 15 = .ok (.isub, 1) := by decide +kernel
theorem dX8_takeLast_16 : decode cX8_takeLast 16 = .ok (.putfield 19, 3) := by decide +kernel
theorem dX8_takeLast_19 : decode cX8_takeLast 19 = .ok (.aload_n 0, 1) := by decide +kernel
theorem dX8_takeLast_20 : decode cX8_takeLast 20 = .ok (.getfield 9, 3) := by decide +kernel
theorem dX8_takeLast_23 : decode cX8_takeLast 23 = .ok (.aload_n 0, 1) := by decide +kernel
theorem dX8_takeLast_24 : decode cX8_takeLast 24 = .ok (.getfield 19, 3) := by decide +kernel
theorem dX8_takeLast_27 : decode cX8_takeLast 27 = .ok (.iaload, 1) := by decide +kernel
theorem dX8_takeLast_28 : decode cX8_takeLast 28 = .ok (.ireturn, 1) := by decide +kernel
theorem dX8_takeFirst_0 : decode cX8_takeFirst 0 = .ok (.aload_n 0, 1) := by decide +kernel
theorem dX8_takeFirst_1 : decode cX8_takeFirst 1 = .ok (.invokevirtual 25, 3) := by decide +kernel
theorem dX8_takeFirst_4 : decode cX8_takeFirst 4 = .ok (.ifCond .ne 5, 3) := by decide +kernel
theorem dX8_takeFirst_7 : decode cX8_takeFirst 7 = .ok (.iconst 0, 1) := by decide +kernel
theorem dX8_takeFirst_8 : decode cX8_takeFirst 8 = .ok (.ireturn, 1) := by decide +kernel
theorem dX8_takeFirst_9 : decode cX8_takeFirst 9 = .ok (.aload_n 0, 1) := by decide +kernel
theorem dX8_takeFirst_10 : decode cX8_takeFirst 10 = .ok (.dup, 1) := by decide +kernel
theorem dX8_takeFirst_11 : decode cX8_takeFirst 11 = .ok (.getfield 15, 3) := by decide +kernel
theorem dX8_takeFirst_14 : decode cX8_takeFirst 14 = .ok (.iconst 1, 1) := by decide +kernel
theorem dX8_takeFirst_15 : decode cX8_takeFirst 15 = .ok (.iadd, 1) := by decide +kernel
theorem dX8_takeFirst_16 : decode cX8_takeFirst 16 = .ok (.putfield 15, 3) := by decide +kernel
theorem dX8_takeFirst_19 : decode cX8_takeFirst 19 = .ok (.aload_n 0, 1) := by decide +kernel
theorem dX8_takeFirst_20 : decode cX8_takeFirst 20 = .ok (.getfield 9, 3) := by decide +kernel
theorem dX8_takeFirst_23 : decode cX8_takeFirst 23 = .ok (.aload_n 0, 1) := by decide +kernel
theorem dX8_takeFirst_24 : decode cX8_takeFirst 24 = .ok (.getfield 15, 3) := by decide +kernel
theorem dX8_takeFirst_27 : decode cX8_takeFirst 27 = .ok (.iconst 1, 1) := by decide +kernel
theorem dX8_takeFirst_28 : decode cX8_takeFirst 28 = .ok (.isub, 1) := by decide +kernel
theorem dX8_takeFirst_29 : decode cX8_takeFirst 29 = .ok (.iaload, 1) := by decide +kernel
theorem dX8_takeFirst_30 : decode cX8_takeFirst 30 = .ok (.ireturn, 1) := by decide +kernel
theorem dX9_init_0 : decode cX9_init 0 = .ok (.aload_n 0, 1) := by decide +kernel
theorem dX9_init_1 : decode cX9_init 1 = .ok (.invokespecial 3, 3) := by decide +kernel
theorem dX9_init_4 : decode cX9_init 4 = .ok (.aload_n 0, 1) := by decide +kernel
theorem dX9_init_5 : decode cX9_init 5 = .ok (.new 9, 3) := by decide +kernel
theorem dX9_init_8 : decode cX9_init 8 = .ok (.dup, 1) := by decide +kernel
theorem dX9_init_9 : decode cX9_init 9 = .ok (.bipush 40, 2) := by decide +kernel
theorem dX9_init_11 : decode cX9_init 11 = .ok (.invokespecial 11, 3) := by decide +kernel
theorem dX9_init_14 : decode cX9_init 14 = .ok (.putfield 14, 3) := by decide +kernel
theorem dX9_init_17 : decode cX9_init 17 = .ok (.aload_n 0, 1) := by decide +kernel
theorem dX9_init_18 : decode cX9_init 18 = .ok (.new 18, 3) := by decide +kernel
theorem dX9_init_21 : decode cX9_init 21 = .ok (.dup, 1) := by decide +kernel
theorem dX9_init_22 : decode cX9_init 22 = .ok (.new 20, 3) := by decide +kernel
theorem dX9_init_25 : decode cX9_init 25 = .ok (.dup, 1) := by decide +kernel
theorem dX9_init_26 : decode cX9_init 26 = .ok (.aload_n 0, 1) := by decide +kernel
theorem dX9_init_27 : decode cX9_init 27 = .ok (.getfield 14, 3) := by decide +kernel
theorem dX9_init_30 : decode cX9_init 30 = .ok (.invokespecial 22, 3) := by decide +kernel
theorem dX9_init_33 : decode cX9_init 33 = .ok (.invokespecial 25, 3) := by decide +kernel
theorem dX9_init_36 : decode cX9_init 36 = .ok (.putfield 28, 3) := by decide +kernel
theorem dX9_init_39 : decode cX9_init 39 = .ok (.aload_n 0, 1) := by decide +kernel
theorem dX9_init_40 : decode cX9_init 40 = .ok (.new 32, 3) := by decide +kernel
theorem dX9_init_43 : decode cX9_init 43 = .ok (.dup, 1) := by decide +kernel
theorem dX9_init_44 : decode cX9_init 44 = .ok (.invokespecial 34, 3) := by decide +kernel
theorem dX9_init_47 : decode cX9_init 47 = .ok (.putfield 35, 3) := by decide +kernel
theorem dX9_init_50 : decode cX9_init 50 = .ok (.aload_n 0, 1) := by decide +kernel
theorem dX9_init_51 : decode cX9_init 51 = .ok (.new 39, 3) := by decide +kernel
theorem dX9_init_54 : decode cX9_init 54 = .ok (.dup, 1) := by decide +kernel
theorem dX9_init_55 : decode cX9_init 55 = .ok (.aload_n 0, 1) := by decide +kernel
theorem dX9_init_56 : decode cX9_init 56 = .ok (.getfield 28, 3) := by decide +kernel
theorem dX9_init_59 : decode cX9_init 59 = .ok (.aload_n 0, 1) := by decide +kernel
theorem dX9_init_60 : decode cX9_init 60 = .ok (.getfield 35, 3) := by decide +kernel
theorem dX9_init_63 : decode cX9_init 63 = .ok (.invokespecial 41, 3) := by decide +kernel
theorem dX9_init_66 : decode cX9_init 66 = .ok (.putfield 44, 3) := by decide +kernel
theorem dX9_init_69 : decode cX9_init 69 = .ok (.aload_n 0, 1) := by decide +kernel
theorem dX9_init_70 : decode cX9_init 70 = .ok (.new 48, 3) := by decide +kernel
theorem dX9_init_73 : decode cX9_init 73 = .ok (.dup, 1) := by decide +kernel
theorem dX9_init_74 : decode cX9_init 74 = .ok (.aload_n 0, 1) := by decide +kernel
theorem dX9_init_75 : decode cX9_init 75 = .ok (.getfield 28, 3) := by decide +kernel
theorem dX9_init_78 : decode cX9_init 78 = .ok (.aload_n 0, 1) := by decide +kernel
theorem dX9_init_79 : decode cX9_init 79 = .ok (.getfield 35, 3) := by decide +kernel
theorem dX9_init_82 : decode cX9_init 82 = .ok (.invokespecial 50, 3) := by decide +kernel
theorem dX9_init_85 : decode cX9_init 85 = .ok (.putfield 51, 3) := by decide +kernel
theorem dX9_init_88 : decode cX9_init 88 = .ok (.aload_n 0, 1) := by decide +kernel
theorem dX9_init_89 : decode cX9_init 89 = .ok (.new 55, 3) := by decide +kernel
theorem dX9_init_92 : decode cX9_init 92 = .ok (.dup, 1) := by decide +kernel
theorem dX9_init_93 : decode cX9_init 93 = .ok (.invokespecial 57, 3) := by decide +kernel
theorem dX9_init_96 : decode cX9_init 96 = .ok (.putfield 58, 3) := by decide +kernel
theorem dX9_init_99 : decode cX9_init 99 = .ok (.return_, 1) := by decide +kernel
theorem dX9_put_0 : decode cX9_put 0 = .ok (.aload_n 0, 1) := by decide +kernel
theorem dX9_put_1 : decode cX9_put 1 = .ok (.getfield 14, 3) := by decide +kernel
theorem dX9_put_4 : decode cX9_put 4 = .ok (.invokevirtual 62, 3) := by decide +kernel
theorem dX9_put_7 : decode cX9_put 7 = .ok (.ifCond .eq 13, 3) := by decide +kernel
theorem dX9_put_10 : decode cX9_put 10 = .ok (.new 66, 3) := by decide +kernel
theorem dX9_put_13 : decode cX9_put 13 = .ok (.dup, 1) := by decide +kernel
theorem dX9_put_14 : decode cX9_put 14 = .ok (.ldc 68, 2) := by decide +kernel
theorem dX9_put_16 : decode cX9_put 16 = .ok (.invokespecial 70, 3) := by decide +kernel
theorem dX9_put_19 : decode cX9_put 19 = .ok (.athrow, 1) := by decide +kernel
theorem dX9_put_20 : decode cX9_put 20 = .ok (.aload_n 0, 1) := by decide +kernel
theorem dX9_put_21 : decode cX9_put 21 = .ok (.getfield 14, 3) := by decide +kernel
theorem dX9_put_24 : decode cX9_put 24 = .ok (.iload_n 1, 1) := by decide +kernel
theorem dX9_put_25 : decode cX9_put 25 = .ok (.invokevirtual 73, 3) := by decide +kernel
theorem dX9_put_28 : decode cX9_put 28 = .ok (.aload_n 0, 1) := by decide +kernel
theorem dX9_put_29 : decode cX9_put 29 = .ok (.getfield 14, 3) := by decide +kernel
theorem dX9_put_32 : decode cX9_put 32 = .ok (.getfield 76, 3) := by decide +kernel
theorem dX9_put_35 : decode cX9_put 35 = .ok (.ireturn, 1) := by decide +kernel
theorem dX9_empty_0 : decode cX9_empty 0 = .ok (.aload_n 0, 1) := by decide +kernel
theorem dX9_empty_1 : decode cX9_empty 1 = .ok (.getfield 14, 3) := by decide +kernel
theorem dX9_empty_4 : decode cX9_empty 4 = .ok (.getfield 76, 3) := by decide +kernel
theorem dX9_empty_7 : decode cX9_empty 7 = .ok (.istore_n 1, 1) := by decide +kernel
theorem dX9_empty_8 : decode cX9_empty 8 = .ok (.aload_n 0, 1) := by decide +kernel
theorem dX9_empty_9 : decode cX9_empty 9 = .ok (.getfield 14, 3) := by decide +kernel
theorem dX9_empty_12 : decode cX9_empty 12 = .ok (.invokevirtual 80, 3) := by decide +kernel
theorem dX9_empty_15 : decode cX9_empty 15 = .ok (.iload_n 1, 1) := by decide +kernel
theorem dX9_empty_16 : decode cX9_empty 16 = .ok (.ireturn, 1) := by decide +kernel
theorem dX9_source_0 : decode cX9_source 0 = .ok (.iload_n 1, 1) := by decide +kernel
theorem dX9_source_1 : decode cX9_source 1 = .ok (.iconst 0, 1) := by decide +kernel
theorem dX9_source_2 : decode cX9_source 2 = .ok (.iconst 2, 1) := by decide +kernel
theorem dX9_source_3 : decode cX9_source 3 = .ok (.invokestatic 83, 3) := by decide +kernel
theorem dX9_source_6 : decode cX9_source 6 = .ok (.ifCond .ne 13, 3) := by decide +kernel
theorem dX9_source_9 : decode cX9_source 9 = .ok (.new 66, 3) := by decide +kernel
theorem dX9_source_12 : decode cX9_source 12 = .ok (.dup, 1) := by decide +kernel
theorem dX9_source_13 : decode cX9_source 13 = .ok (.ldc 87, 2) := by decide +kernel
theorem dX9_source_15 : decode cX9_source 15 = .ok (.invokespecial 70, 3) := by decide +kernel
theorem dX9_source_18 : decode cX9_source 18 = .ok (.athrow, 1) := by decide +kernel
theorem dX9_source_19 : decode cX9_source 19 = .ok (.iload_n 1, 1) := by decide +kernel
theorem dX9_source_20 : decode cX9_source 20 = .ok (.iconst 1, 1) := by decide +kernel
theorem dX9_source_21 : decode cX9_source 21 = .ok (.if_icmp .ne 23, 3) := by decide +kernel
theorem dX9_source_24 : decode cX9_source 24 = .ok (.iload_n 3, 1) := by decide +kernel
theorem dX9_source_25 : decode cX9_source 25 = .ok (.iconst 0, 1) := by decide +kernel
theorem dX9_source_26 : decode cX9_source 26 = .ok (.bipush 40, 2) := by decide +kernel
theorem dX9_source_28 : decode cX9_source 28 = .ok (.invokestatic 83, 3) := by decide +kernel
theorem dX9_source_31 : decode cX9_source 31 = .ok (.ifCond .ne 13, 3) := by decide +kernel
theorem dX9_source_34 : decode cX9_source 34 = .ok (.new 66, 3) := by decide +kernel
theorem dX9_source_37 : decode cX9_source 37 = .ok (.dup, 1) := by decide +kernel
theorem dX9_source_38 : decode cX9_source 38 = .ok (.ldc 89, 2) := by decide +kernel
theorem dX9_source_40 : decode cX9_source 40 = .ok (.invokespecial 70, 3) := by decide +kernel
theorem dX9_source_43 : decode cX9_source 43 = .ok (.athrow, 1) := by decide +kernel
theorem dX9_source_44 : decode cX9_source 44 = .ok (.aload_n 0, 1) := by decide +kernel
theorem dX9_source_45 : decode cX9_source 45 = .ok (.getfield 28, 3) := by decide +kernel
theorem dX9_source_48 : decode cX9_source 48 = .ok (.invokevirtual 91, 3) := by decide +kernel
theorem dX9_source_51 : decode cX9_source 51 = .ok (.aload_n 0, 1) := by decide +kernel
theorem dX9_source_52 : decode cX9_source 52 = .ok (.getfield 28, 3) := by decide +kernel
theorem dX9_source_55 : decode cX9_source 55 = .ok (.getfield 94, 3) := by decide +kernel
theorem dX9_source_58 : decode cX9_source 58 = .ok (.iload_n 1, 1) := by decide +kernel
theorem dX9_source_59 : decode cX9_source 59 = .ok (.iload_n 2, 1) := by decide +kernel
theorem dX9_source_60 : decode cX9_source 60 = .ok (.iload_n 3, 1) := by decide +kernel
theorem dX9_source_61 : decode cX9_source 61 = .ok (.iload 4, 2) := by decide +kernel
theorem dX9_source_63 : decode cX9_source 63 = .ok (.invokevirtual 98, 3) := by decide +kernel
theorem dX9_source_66 : decode cX9_source 66 = .ok (.return_, 1) := by decide +kernel
theorem dX9_stage_0 : decode cX9_stage 0 = .ok (.aload_n 0, 1) := by decide +kernel
theorem dX9_stage_1 : decode cX9_stage 1 = .ok (.invokevirtual 102, 3) := by decide +kernel
theorem dX9_stage_4 : decode cX9_stage 4 = .ok (.aload_n 0, 1) := by decide +kernel
theorem dX9_stage_5 : decode cX9_stage 5 = .ok (.getfield 28, 3) := by decide +kernel
theorem dX9_stage_8 : decode cX9_stage 8 = .ok (.getfield 105, 3) := by decide +kernel
theorem dX9_stage_11 : decode cX9_stage 11 = .ok (.bipush 6, 2) := by decide +kernel
theorem dX9_stage_13 : decode cX9_stage 13 = .ok (.if_icmp .eq 12, 3) := by decide +kernel
theorem dX9_stage_16 : decode cX9_stage 16 = .ok (.iload_n 1, 1) := by decide +kernel
theorem dX9_stage_17 : decode cX9_stage 17 = .ok (.iload_n 2, 1) := by decide +kernel
theorem dX9_stage_18 : decode cX9_stage 18 = .ok (.iload_n 3, 1) := by decide +kernel
theorem dX9_stage_19 : decode cX9_stage 19 = .ok (.invokestatic 108, 3) := by decide +kernel
theorem dX9_stage_22 : decode cX9_stage 22 = .ok (.ifCond .ne 13, 3) := by decide +kernel
theorem dX9_stage_25 : decode cX9_stage 25 = .ok (.new 66, 3) := by decide +kernel
theorem dX9_stage_28 : decode cX9_stage 28 = .ok (.dup, 1) := by decide +kernel
theorem dX9_stage_29 : decode cX9_stage 29 = .ok (.ldc 111, 2) := by decide +kernel
theorem dX9_stage_31 : decode cX9_stage 31 = .ok (.invokespecial 70, 3) := by decide +kernel
theorem dX9_stage_34 : decode cX9_stage 34 = .ok (.athrow, 1) := by decide +kernel
theorem dX9_stage_35 : decode cX9_stage 35 = .ok (.aload_n 0, 1) := by decide +kernel
theorem dX9_stage_36 : decode cX9_stage 36 = .ok (.getfield 28, 3) := by decide +kernel
theorem dX9_stage_39 : decode cX9_stage 39 = .ok (.iload_n 1, 1) := by decide +kernel
theorem dX9_stage_40 : decode cX9_stage 40 = .ok (.iload_n 2, 1) := by decide +kernel
theorem dX9_stage_41 : decode cX9_stage 41 = .ok (.iload_n 3, 1) := by decide +kernel
theorem dX9_stage_42 : decode cX9_stage 42 = .ok (.invokevirtual 113, 3) := by decide +kernel
theorem dX9_stage_45 : decode cX9_stage 45 = .ok (.aload_n 0, 1) := by decide +kernel
theorem dX9_stage_46 : decode cX9_stage 46 = .ok (.getfield 28, 3) := by decide +kernel
theorem dX9_stage_49 : decode cX9_stage 49 = .ok (.getfield 105, 3) := by decide +kernel
theorem dX9_stage_52 : decode cX9_stage 52 = .ok (.ireturn, 1) := by decide +kernel
theorem dX9_flags_0 : decode cX9_flags 0 = .ok (.aload_n 0, 1) := by decide +kernel
theorem dX9_flags_1 : decode cX9_flags 1 = .ok (.getfield 28, 3) := by decide +kernel
theorem dX9_flags_4 : decode cX9_flags 4 = .ok (.getfield 116, 3) := by decide +kernel
theorem dX9_flags_7 : decode cX9_flags 7 = .ok (.ifCond .ne 13, 3) := by decide +kernel
theorem dX9_flags_10 : decode cX9_flags 10 = .ok (.new 120, 3) := by decide +kernel
theorem dX9_flags_13 : decode cX9_flags 13 = .ok (.dup, 1) := by decide +kernel
theorem dX9_flags_14 : decode cX9_flags 14 = .ok (.ldc 122, 2) := by decide +kernel
theorem dX9_flags_16 : decode cX9_flags 16 = .ok (.invokespecial 124, 3) := by decide +kernel
theorem dX9_flags_19 : decode cX9_flags 19 = .ok (.athrow, 1) := by decide +kernel
theorem dX9_flags_20 : decode cX9_flags 20 = .ok (.aload_n 0, 1) := by decide +kernel
theorem dX9_flags_21 : decode cX9_flags 21 = .ok (.getfield 28, 3) := by decide +kernel
theorem dX9_flags_24 : decode cX9_flags 24 = .ok (.invokevirtual 125, 3) := by decide +kernel
theorem dX9_flags_27 : decode cX9_flags 27 = .ok (.ireturn, 1) := by decide +kernel
theorem dX9_run_0 : decode cX9_run 0 = .ok (.aload_n 0, 1) := by decide +kernel
theorem dX9_run_1 : decode cX9_run 1 = .ok (.invokevirtual 102, 3) := by decide +kernel
theorem dX9_run_4 : decode cX9_run 4 = .ok (.aload_n 0, 1) := by decide +kernel
theorem dX9_run_5 : decode cX9_run 5 = .ok (.iload_n 1, 1) := by decide +kernel
theorem dX9_run_6 : decode cX9_run 6 = .ok (.iload_n 2, 1) := by decide +kernel
theorem dX9_run_7 : decode cX9_run 7 = .ok (.iload_n 3, 1) := by decide +kernel
theorem dX9_run_8 : decode cX9_run 8 = .ok (.invokevirtual 129, 3) := by decide +kernel
theorem dX9_run_11 : decode cX9_run 11 = .ok (.aload_n 0, 1) := by decide +kernel
theorem dX9_run_12 : decode cX9_run 12 = .ok (.iload_n 1, 1) := by decide +kernel
theorem dX9_run_13 : decode cX9_run 13 = .ok (.iload_n 2, 1) := by decide +kernel
theorem dX9_run_14 : decode cX9_run 14 = .ok (.iload_n 3, 1) := by decide +kernel
theorem dX9_run_15 : decode cX9_run 15 = .ok (.invokevirtual 132, 3) := by decide +kernel
theorem dX9_run_18 : decode cX9_run 18 = .ok (.aload_n 0, 1) := by decide +kernel
theorem dX9_run_19 : decode cX9_run 19 = .ok (.aload_n 0, 1) := by decide +kernel
theorem dX9_run_20 : decode cX9_run 20 = .ok (.getfield 44, 3) := by decide +kernel
theorem dX9_run_23 : decode cX9_run 23 = .ok (.invokevirtual 135, 3) := by decide +kernel
theorem dX9_run_26 : decode cX9_run 26 = .ok (.invokevirtual 138, 3) := by decide +kernel
theorem dX9_run_29 : decode cX9_run 29 = .ok (.ireturn, 1) := by decide +kernel
theorem dX9_pool_0 : decode cX9_pool 0 = .ok (.iload_n 1, 1) := by decide +kernel
theorem dX9_pool_1 : decode cX9_pool 1 = .ok (.iconst 1, 1) := by decide +kernel
theorem dX9_pool_2 : decode cX9_pool 2 = .ok (.bipush 20, 2) := by decide +kernel
theorem dX9_pool_4 : decode cX9_pool 4 = .ok (.invokestatic 83, 3) := by decide +kernel
theorem dX9_pool_7 : decode cX9_pool 7 = .ok (.ifCond .eq 12, 3) := by decide +kernel
theorem dX9_pool_10 : decode cX9_pool 10 = .ok (.iload_n 2, 1) := by decide +kernel
theorem dX9_pool_11 : decode cX9_pool 11 = .ok (.iconst 1, 1) := by decide +kernel
theorem dX9_pool_12 : decode cX9_pool 12 = .ok (.iconst 4, 1) := by decide +kernel
theorem dX9_pool_13 : decode cX9_pool 13 = .ok (.invokestatic 83, 3) := by decide +kernel
theorem dX9_pool_16 : decode cX9_pool 16 = .ok (.ifCond .ne 13, 3) := by decide +kernel
theorem dX9_pool_19 : decode cX9_pool 19 = .ok (.new 66, 3) := by decide +kernel
theorem dX9_pool_22 : decode cX9_pool 22 = .ok (.dup, 1) := by decide +kernel
theorem dX9_pool_23 : decode cX9_pool 23 = .ok (.ldc 142, 2) := by decide +kernel
theorem dX9_pool_25 : decode cX9_pool 25 = .ok (.invokespecial 70, 3) := by decide +kernel
theorem dX9_pool_28 : decode cX9_pool 28 = .ok (.athrow, 1) := by decide +kernel
theorem dX9_pool_29 : decode cX9_pool 29 = .ok (.aload_n 0, 1) := by decide +kernel
theorem dX9_pool_30 : decode cX9_pool 30 = .ok (.getfield 58, 3) := by decide +kernel
theorem dX9_pool_33 : decode cX9_pool 33 = .ok (.iload_n 1, 1) := by decide +kernel
theorem dX9_pool_34 : decode cX9_pool 34 = .ok (.iload_n 2, 1) := by decide +kernel
theorem dX9_pool_35 : decode cX9_pool 35 = .ok (.iload_n 3, 1) := by decide +kernel
theorem dX9_pool_36 : decode cX9_pool 36 = .ok (.invokevirtual 144, 3) := by decide +kernel
theorem dX9_pool_39 : decode cX9_pool 39 = .ok (.return_, 1) := by decide +kernel
theorem dX9_parts_0 : decode cX9_parts 0 = .ok (.aload_n 0, 1) := by decide +kernel
theorem dX9_parts_1 : decode cX9_parts 1 = .ok (.invokevirtual 102, 3) := by decide +kernel
theorem dX9_parts_4 : decode cX9_parts 4 = .ok (.aload_n 0, 1) := by decide +kernel
theorem dX9_parts_5 : decode cX9_parts 5 = .ok (.iload_n 1, 1) := by decide +kernel
theorem dX9_parts_6 : decode cX9_parts 6 = .ok (.iload_n 2, 1) := by decide +kernel
theorem dX9_parts_7 : decode cX9_parts 7 = .ok (.iload_n 3, 1) := by decide +kernel
theorem dX9_parts_8 : decode cX9_parts 8 = .ok (.invokevirtual 129, 3) := by decide +kernel
theorem dX9_parts_11 : decode cX9_parts 11 = .ok (.aload_n 0, 1) := by decide +kernel
theorem dX9_parts_12 : decode cX9_parts 12 = .ok (.getfield 28, 3) := by decide +kernel
theorem dX9_parts_15 : decode cX9_parts 15 = .ok (.getfield 94, 3) := by decide +kernel
theorem dX9_parts_18 : decode cX9_parts 18 = .ok (.getfield 146, 3) := by decide +kernel
theorem dX9_parts_21 : decode cX9_parts 21 = .ok (.iconst 2, 1) := by decide +kernel
theorem dX9_parts_22 : decode cX9_parts 22 = .ok (.if_icmp .ne 13, 3) := by decide +kernel
theorem dX9_parts_25 : decode cX9_parts 25 = .ok (.new 66, 3) := by decide +kernel
theorem dX9_parts_28 : decode cX9_parts 28 = .ok (.dup, 1) := by decide +kernel
theorem dX9_parts_29 : decode cX9_parts 29 = .ok (.ldc 149, 2) := by decide +kernel
theorem dX9_parts_31 : decode cX9_parts 31 = .ok (.invokespecial 70, 3) := by decide +kernel
theorem dX9_parts_34 : decode cX9_parts 34 = .ok (.athrow, 1) := by decide +kernel
theorem dX9_parts_35 : decode cX9_parts 35 = .ok (.aload_n 0, 1) := by decide +kernel
theorem dX9_parts_36 : decode cX9_parts 36 = .ok (.iload_n 1, 1) := by decide +kernel
theorem dX9_parts_37 : decode cX9_parts 37 = .ok (.iload_n 2, 1) := by decide +kernel
theorem dX9_parts_38 : decode cX9_parts 38 = .ok (.iload_n 3, 1) := by decide +kernel
theorem dX9_parts_39 : decode cX9_parts 39 = .ok (.invokevirtual 132, 3) := by decide +kernel
theorem dX9_parts_42 : decode cX9_parts 42 = .ok (.aload_n 0, 1) := by decide +kernel
theorem dX9_parts_43 : decode cX9_parts 43 = .ok (.getfield 58, 3) := by decide +kernel
theorem dX9_parts_46 : decode cX9_parts 46 = .ok (.aload_n 0, 1) := by decide +kernel
theorem dX9_parts_47 : decode cX9_parts 47 = .ok (.getfield 28, 3) := by decide +kernel
theorem dX9_parts_50 : decode cX9_parts 50 = .ok (.getfield 94, 3) := by decide +kernel
theorem dX9_parts_53 : decode cX9_parts 53 = .ok (.invokevirtual 151, 3) := by decide +kernel
theorem dX9_parts_56 : decode cX9_parts 56 = .ok (.invokevirtual 153, 3) := by decide +kernel
theorem dX9_parts_59 : decode cX9_parts 59 = .ok (.aload_n 0, 1) := by decide +kernel
theorem dX9_parts_60 : decode cX9_parts 60 = .ok (.aload_n 0, 1) := by decide +kernel
theorem dX9_parts_61 : decode cX9_parts 61 = .ok (.getfield 51, 3) := by decide +kernel
theorem dX9_parts_64 : decode cX9_parts 64 = .ok (.invokevirtual 156, 3) := by decide +kernel
theorem dX9_parts_67 : decode cX9_parts 67 = .ok (.invokevirtual 138, 3) := by decide +kernel
theorem dX9_parts_70 : decode cX9_parts 70 = .ok (.ireturn, 1) := by decide +kernel
theorem dX9_seen_0 : decode cX9_seen 0 = .ok (.iload_n 1, 1) := by decide +kernel
theorem dX9_seen_1 : decode cX9_seen 1 = .ok (.ifCond .lt 29, 3) := by decide +kernel
theorem dX9_seen_4 : decode cX9_seen 4 = .ok (.iload_n 1, 1) := by decide +kernel
theorem dX9_seen_5 : decode cX9_seen 5 = .ok (.aload_n 0, 1) := by decide +kernel
theorem dX9_seen_6 : decode cX9_seen 6 = .ok (.getfield 28, 3) := by decide +kernel
theorem dX9_seen_9 : decode cX9_seen 9 = .ok (.getfield 105, 3) := by decide +kernel
theorem dX9_seen_12 : decode cX9_seen 12 = .ok (.if_icmp .ge 18, 3) := by decide +kernel
theorem dX9_seen_15 : decode cX9_seen 15 = .ok (.aload_n 0, 1) := by decide +kernel
theorem dX9_seen_16 : decode cX9_seen 16 = .ok (.getfield 28, 3) := by decide +kernel
theorem dX9_seen_19 : decode cX9_seen 19 = .ok (.getfield 157, 3) := by decide +kernel
theorem dX9_seen_22 : decode cX9_seen 22 = .ok (.iload_n 1, 1) := by decide +kernel
theorem dX9_seen_23 : decode cX9_seen 23 = .ok (.aaload, 1) := by decide +kernel
theorem dX9_seen_24 : decode cX9_seen 24 = .ok (.getfield 161, 3) := by decide +kernel
theorem dX9_seen_27 : decode cX9_seen 27 = .ok (.goto 4, 3) := by decide +kernel
theorem dX9_seen_30 : decode cX9_seen 30 = .ok (.iconst (-1), 1) := by decide +kernel
theorem dX9_seen_31 : decode cX9_seen 31 = .ok (.ireturn, 1) := by decide +kernel
theorem dX9_kept_0 : decode cX9_kept 0 = .ok (.iload_n 1, 1) := by decide +kernel
theorem dX9_kept_1 : decode cX9_kept 1 = .ok (.ifCond .lt 17, 3) := by decide +kernel
theorem dX9_kept_4 : decode cX9_kept 4 = .ok (.iload_n 1, 1) := by decide +kernel
theorem dX9_kept_5 : decode cX9_kept 5 = .ok (.aload_n 0, 1) := by decide +kernel
theorem dX9_kept_6 : decode cX9_kept 6 = .ok (.getfield 35, 3) := by decide +kernel
theorem dX9_kept_9 : decode cX9_kept 9 = .ok (.getfield 166, 3) := by decide +kernel
theorem dX9_kept_12 : decode cX9_kept 12 = .ok (.getfield 76, 3) := by decide +kernel
theorem dX9_kept_15 : decode cX9_kept 15 = .ok (.if_icmp .lt 13, 3) := by decide +kernel
theorem dX9_kept_18 : decode cX9_kept 18 = .ok (.new 169, 3) := by decide +kernel
theorem dX9_kept_21 : decode cX9_kept 21 = .ok (.dup, 1) := by decide +kernel
theorem dX9_kept_22 : decode cX9_kept 22 = .ok (.ldc 171, 2) := by decide +kernel
theorem dX9_kept_24 : decode cX9_kept 24 = .ok (.invokespecial 173, 3) := by decide +kernel
theorem dX9_kept_27 : decode cX9_kept 27 = .ok (.athrow, 1) := by decide +kernel
theorem dX9_kept_28 : decode cX9_kept 28 = .ok (.aload_n 0, 1) := by decide +kernel
theorem dX9_kept_29 : decode cX9_kept 29 = .ok (.getfield 35, 3) := by decide +kernel
theorem dX9_kept_32 : decode cX9_kept 32 = .ok (.getfield 166, 3) := by decide +kernel
theorem dX9_kept_35 : decode cX9_kept 35 = .ok (.getfield 174, 3) := by decide +kernel
theorem dX9_kept_38 : decode cX9_kept 38 = .ok (.iload_n 1, 1) := by decide +kernel
theorem dX9_kept_39 : decode cX9_kept 39 = .ok (.iaload, 1) := by decide +kernel
theorem dX9_kept_40 : decode cX9_kept 40 = .ok (.ireturn, 1) := by decide +kernel
theorem dX9_pooled_0 : decode cX9_pooled 0 = .ok (.iload_n 1, 1) := by decide +kernel
theorem dX9_pooled_1 : decode cX9_pooled 1 = .ok (.tableswitch 51 0 2 #[27, 35, 43], 27) := by decide +kernel
theorem dX9_pooled_28 : decode cX9_pooled 28 = .ok (.aload_n 0, 1) := by decide +kernel
theorem dX9_pooled_29 : decode cX9_pooled 29 = .ok (.getfield 58, 3) := by decide +kernel
theorem dX9_pooled_32 : decode cX9_pooled 32 = .ok (.getfield 178, 3) := by decide +kernel
theorem dX9_pooled_35 : decode cX9_pooled 35 = .ok (.ireturn, 1) := by decide +kernel
theorem dX9_pooled_36 : decode cX9_pooled 36 = .ok (.aload_n 0, 1) := by decide +kernel
theorem dX9_pooled_37 : decode cX9_pooled 37 = .ok (.getfield 58, 3) := by decide +kernel
theorem dX9_pooled_40 : decode cX9_pooled 40 = .ok (.invokevirtual 181, 3) := by decide +kernel
theorem dX9_pooled_43 : decode cX9_pooled 43 = .ok (.ireturn, 1) := by decide +kernel
theorem dX9_pooled_44 : decode cX9_pooled 44 = .ok (.aload_n 0, 1) := by decide +kernel
theorem dX9_pooled_45 : decode cX9_pooled 45 = .ok (.getfield 58, 3) := by decide +kernel
theorem dX9_pooled_48 : decode cX9_pooled 48 = .ok (.getfield 184, 3) := by decide +kernel
theorem dX9_pooled_51 : decode cX9_pooled 51 = .ok (.ireturn, 1) := by decide +kernel
theorem dX9_pooled_52 : decode cX9_pooled 52 = .ok (.iload_n 1, 1) := by decide +kernel
theorem dX9_pooled_53 : decode cX9_pooled 53 = .ok (.iconst 3, 1) := by decide +kernel
theorem dX9_pooled_54 : decode cX9_pooled 54 = .ok (.bipush 6, 2) := by decide +kernel
theorem dX9_pooled_56 : decode cX9_pooled 56 = .ok (.invokestatic 83, 3) := by decide +kernel
theorem dX9_pooled_59 : decode cX9_pooled 59 = .ok (.ifCond .eq 20, 3) := by decide +kernel
theorem dX9_pooled_62 : decode cX9_pooled 62 = .ok (.aload_n 0, 1) := by decide +kernel
theorem dX9_pooled_63 : decode cX9_pooled 63 = .ok (.getfield 58, 3) := by decide +kernel
theorem dX9_pooled_66 : decode cX9_pooled 66 = .ok (.getfield 187, 3) := by decide +kernel
theorem dX9_pooled_69 : decode cX9_pooled 69 = .ok (.iload_n 1, 1) := by decide +kernel
theorem dX9_pooled_70 : decode cX9_pooled 70 = .ok (.iconst 3, 1) := by decide +kernel
theorem dX9_pooled_71 : decode cX9_pooled 71 = .ok (.isub, 1) := by decide +kernel
theorem dX9_pooled_72 : decode cX9_pooled 72 = .ok (.aaload, 1) := by decide +kernel
theorem dX9_pooled_73 : decode cX9_pooled 73 = .ok (.getfield 191, 3) := by decide +kernel
theorem dX9_pooled_76 : decode cX9_pooled 76 = .ok (.goto 4, 3) := by decide +kernel
theorem dX9_pooled_79 : decode cX9_pooled 79 = .ok (.iconst (-1), 1) := by decide +kernel
theorem dX9_pooled_80 : decode cX9_pooled 80 = .ok (.ireturn, 1) := by decide +kernel
theorem dX9_refuseWithoutOpenLine_0 : decode cX9_refuseWithoutOpenLine 0 = .ok (.aload_n 0, 1) := by decide +kernel
theorem dX9_refuseWithoutOpenLine_1 : decode cX9_refuseWithoutOpenLine 1 = .ok (.getfield 28, 3) := by decide +kernel
theorem dX9_refuseWithoutOpenLine_4 : decode cX9_refuseWithoutOpenLine 4 = .ok (.getfield 116, 3) := by decide +kernel
theorem dX9_refuseWithoutOpenLine_7 : decode cX9_refuseWithoutOpenLine 7 = .ok (.ifCond .eq 13, 3) := by decide +kernel
theorem dX9_refuseWithoutOpenLine_10 : decode cX9_refuseWithoutOpenLine 10 = .ok (.aload_n 0, 1) := by decide +kernel
theorem dX9_refuseWithoutOpenLine_11 : decode cX9_refuseWithoutOpenLine 11 = .ok (.getfield 28, 3) := by decide +kernel
theorem dX9_refuseWithoutOpenLine_14 : decode cX9_refuseWithoutOpenLine 14 = .ok (.getfield 196, 3) := by decide +kernel
theorem dX9_refuseWithoutOpenLine_17 : decode cX9_refuseWithoutOpenLine 17 = .ok (.ifCond .eq 13, 3) := by decide +kernel
theorem dX9_refuseWithoutOpenLine_20 : decode cX9_refuseWithoutOpenLine 20 = .ok (.new 120, 3) := by decide +kernel
theorem dX9_refuseWithoutOpenLine_23 : decode cX9_refuseWithoutOpenLine 23 = .ok (.dup, 1) := by decide +kernel
theorem dX9_refuseWithoutOpenLine_24 : decode cX9_refuseWithoutOpenLine 24 = .ok (.ldc 199, 2) := by decide +kernel
theorem dX9_refuseWithoutOpenLine_26 : decode cX9_refuseWithoutOpenLine 26 = .ok (.invokespecial 124, 3) := by decide +kernel
theorem dX9_refuseWithoutOpenLine_29 : decode cX9_refuseWithoutOpenLine 29 = .ok (.athrow, 1) := by decide +kernel
theorem dX9_refuseWithoutOpenLine_30 : decode cX9_refuseWithoutOpenLine 30 = .ok (.return_, 1) := by decide +kernel
theorem dX9_refuseUnlessEnd_0 : decode cX9_refuseUnlessEnd 0 = .ok (.iload_n 1, 1) := by decide +kernel
theorem dX9_refuseUnlessEnd_1 : decode cX9_refuseUnlessEnd 1 = .ok (.iload_n 2, 1) := by decide +kernel
theorem dX9_refuseUnlessEnd_2 : decode cX9_refuseUnlessEnd 2 = .ok (.iload_n 3, 1) := by decide +kernel
theorem dX9_refuseUnlessEnd_3 : decode cX9_refuseUnlessEnd 3 = .ok (.invokestatic 201, 3) := by decide +kernel
theorem dX9_refuseUnlessEnd_6 : decode cX9_refuseUnlessEnd 6 = .ok (.ifCond .ne 13, 3) := by decide +kernel
theorem dX9_refuseUnlessEnd_9 : decode cX9_refuseUnlessEnd 9 = .ok (.new 66, 3) := by decide +kernel
theorem dX9_refuseUnlessEnd_12 : decode cX9_refuseUnlessEnd 12 = .ok (.dup, 1) := by decide +kernel
theorem dX9_refuseUnlessEnd_13 : decode cX9_refuseUnlessEnd 13 = .ok (.ldc 204, 2) := by decide +kernel
theorem dX9_refuseUnlessEnd_15 : decode cX9_refuseUnlessEnd 15 = .ok (.invokespecial 70, 3) := by decide +kernel
theorem dX9_refuseUnlessEnd_18 : decode cX9_refuseUnlessEnd 18 = .ok (.athrow, 1) := by decide +kernel
theorem dX9_refuseUnlessEnd_19 : decode cX9_refuseUnlessEnd 19 = .ok (.return_, 1) := by decide +kernel
theorem dX9_useLine_0 : decode cX9_useLine 0 = .ok (.aload_n 0, 1) := by decide +kernel
theorem dX9_useLine_1 : decode cX9_useLine 1 = .ok (.getfield 28, 3) := by decide +kernel
theorem dX9_useLine_4 : decode cX9_useLine 4 = .ok (.iconst 1, 1) := by decide +kernel
theorem dX9_useLine_5 : decode cX9_useLine 5 = .ok (.putfield 196, 3) := by decide +kernel
theorem dX9_useLine_8 : decode cX9_useLine 8 = .ok (.aload_n 0, 1) := by decide +kernel
theorem dX9_useLine_9 : decode cX9_useLine 9 = .ok (.getfield 35, 3) := by decide +kernel
theorem dX9_useLine_12 : decode cX9_useLine 12 = .ok (.iload_n 1, 1) := by decide +kernel
theorem dX9_useLine_13 : decode cX9_useLine 13 = .ok (.iload_n 2, 1) := by decide +kernel
theorem dX9_useLine_14 : decode cX9_useLine 14 = .ok (.iload_n 3, 1) := by decide +kernel
theorem dX9_useLine_15 : decode cX9_useLine 15 = .ok (.invokevirtual 206, 3) := by decide +kernel
theorem dX9_useLine_18 : decode cX9_useLine 18 = .ok (.return_, 1) := by decide +kernel
theorem dX9_outcome_0 : decode cX9_outcome 0 = .ok (.iload_n 1, 1) := by decide +kernel
theorem dX9_outcome_1 : decode cX9_outcome 1 = .ok (.ifCond .ne 13, 3) := by decide +kernel
theorem dX9_outcome_4 : decode cX9_outcome 4 = .ok (.new 208, 3) := by decide +kernel
theorem dX9_outcome_7 : decode cX9_outcome 7 = .ok (.dup, 1) := by decide +kernel
theorem dX9_outcome_8 : decode cX9_outcome 8 = .ok (.ldc 210, 2) := by decide +kernel
theorem dX9_outcome_10 : decode cX9_outcome 10 = .ok (.invokespecial 212, 3) := by decide +kernel
