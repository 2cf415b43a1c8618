theorem dX0_init_0 : decode cX0_init 0 = .ok (.aload_n 0, 1) := by decide +kernel
theorem dX0_init_1 : decode cX0_init 1 = .ok (.invokespecial 3, 3) := by decide +kernel
theorem dX0_init_4 : decode cX0_init 4 = .ok (.aload_n 0, 1) := by decide +kernel
theorem dX0_init_5 : decode cX0_init 5 = .ok (.iconst 4, 1) := by decide +kernel
theorem dX0_init_6 : decode cX0_init 6 = .ok (.anewarray 9, 3) := by decide +kernel
theorem dX0_init_9 : decode cX0_init 9 = .ok (.putfield 11, 3) := by decide +kernel
theorem dX0_init_12 : decode cX0_init 12 = .ok (.iconst 0, 1) := by decide +kernel
theorem dX0_init_13 : decode cX0_init 13 = .ok (.istore_n 1, 1) := by decide +kernel
theorem dX0_init_14 : decode cX0_init 14 = .ok (.iload_n 1, 1) := by decide +kernel
theorem dX0_init_15 : decode cX0_init 15 = .ok (.iconst 4, 1) := by decide +kernel
theorem dX0_init_16 : decode cX0_init 16 = .ok (.if_icmp .ge 22, 3) := by decide +kernel
theorem dX0_init_19 : decode cX0_init 19 = .ok (.aload_n 0, 1) := by decide +kernel
theorem dX0_init_20 : decode cX0_init 20 = .ok (.getfield 11, 3) := by decide +kernel
theorem dX0_init_23 : decode cX0_init 23 = .ok (.iload_n 1, 1) := by decide +kernel
theorem dX0_init_24 : decode cX0_init 24 = .ok (.new 9, 3) := by decide +kernel
theorem dX0_init_27 : decode cX0_init 27 = .ok (.dup, 1) := by decide +kernel
theorem dX0_init_28 : decode cX0_init 28 = .ok (.invokespecial 17, 3) := by decide +kernel
theorem dX0_init_31 : decode cX0_init 31 = .ok (.aastore, 1) := by decide +kernel
theorem dX0_init_32 : decode cX0_init 32 = .ok (.iinc 1 1, 3) := by decide +kernel
theorem dX0_init_35 : decode cX0_init 35 = .ok (.goto (-21), 3) := by decide +kernel
theorem dX0_init_38 : decode cX0_init 38 = .ok (.aload_n 0, 1) := by decide +kernel
theorem dX0_init_39 : decode cX0_init 39 = .ok (.iconst 4, 1) := by decide +kernel
theorem dX0_init_40 : decode cX0_init 40 = .ok (.putfield 18, 3) := by decide +kernel
theorem dX0_init_43 : decode cX0_init 43 = .ok (.aload_n 0, 1) := by decide +kernel
theorem dX0_init_44 : decode cX0_init 44 = .ok (.iconst 2, 1) := by decide +kernel
theorem dX0_init_45 : decode cX0_init 45 = .ok (.putfield 22, 3) := by decide +kernel
theorem dX0_init_48 : decode cX0_init 48 = .ok (.aload_n 0, 1) := by decide +kernel
theorem dX0_init_49 : decode cX0_init 49 = .ok (.iconst 1, 1) := by decide +kernel
theorem dX0_init_50 : decode cX0_init 50 = .ok (.putfield 25, 3) := by decide +kernel
theorem dX0_init_53 : decode cX0_init 53 = .ok (.return_, 1) := by decide +kernel
theorem dX0_become_0 : decode cX0_become 0 = .ok (.aload_n 0, 1) := by decide +kernel
theorem dX0_become_1 : decode cX0_become 1 = .ok (.iload_n 1, 1) := by decide +kernel
theorem dX0_become_2 : decode cX0_become 2 = .ok (.putfield 18, 3) := by decide +kernel
theorem dX0_become_5 : decode cX0_become 5 = .ok (.aload_n 0, 1) := by decide +kernel
theorem dX0_become_6 : decode cX0_become 6 = .ok (.iload_n 2, 1) := by decide +kernel
theorem dX0_become_7 : decode cX0_become 7 = .ok (.putfield 22, 3) := by decide +kernel
theorem dX0_become_10 : decode cX0_become 10 = .ok (.aload_n 0, 1) := by decide +kernel
theorem dX0_become_11 : decode cX0_become 11 = .ok (.iload_n 3, 1) := by decide +kernel
theorem dX0_become_12 : decode cX0_become 12 = .ok (.putfield 25, 3) := by decide +kernel
theorem dX0_become_15 : decode cX0_become 15 = .ok (.return_, 1) := by decide +kernel
theorem dX0_workThrough_0 : decode cX0_workThrough 0 = .ok (.iconst 0, 1) := by decide +kernel
theorem dX0_workThrough_1 : decode cX0_workThrough 1 = .ok (.istore_n 2, 1) := by decide +kernel
theorem dX0_workThrough_2 : decode cX0_workThrough 2 = .ok (.iload_n 2, 1) := by decide +kernel
theorem dX0_workThrough_3 : decode cX0_workThrough 3 = .ok (.iconst 4, 1) := by decide +kernel
theorem dX0_workThrough_4 : decode cX0_workThrough 4 = .ok (.if_icmp .ge 18, 3) := by decide +kernel
theorem dX0_workThrough_7 : decode cX0_workThrough 7 = .ok (.aload_n 0, 1) := by decide +kernel
theorem dX0_workThrough_8 : decode cX0_workThrough 8 = .ok (.getfield 11, 3) := by decide +kernel
theorem dX0_workThrough_11 : decode cX0_workThrough 11 = .ok (.iload_n 2, 1) := by decide +kernel
theorem dX0_workThrough_12 : decode cX0_workThrough 12 = .ok (.aaload, 1) := by decide +kernel
theorem dX0_workThrough_13 : decode cX0_workThrough 13 = .ok (.invokevirtual 28, 3) := by decide +kernel
theorem dX0_workThrough_16 : decode cX0_workThrough 16 = .ok (.iinc 2 1, 3) := by decide +kernel
theorem dX0_workThrough_19 : decode cX0_workThrough 19 = .ok (.goto (-17), 3) := by decide +kernel
theorem dX0_workThrough_22 : decode cX0_workThrough 22 = .ok (.aload_n 0, 1) := by decide +kernel
theorem dX0_workThrough_23 : decode cX0_workThrough 23 = .ok (.iconst 0, 1) := by decide +kernel
theorem dX0_workThrough_24 : decode cX0_workThrough 24 = .ok (.putfield 31, 3) := by decide +kernel
theorem dX0_workThrough_27 : decode cX0_workThrough 27 = .ok (.aload_n 0, 1) := by decide +kernel
theorem dX0_workThrough_28 : decode cX0_workThrough 28 = .ok (.iconst 0, 1) := by decide +kernel
theorem dX0_workThrough_29 : decode cX0_workThrough 29 = .ok (.putfield 34, 3) := by decide +kernel
theorem dX0_workThrough_32 : decode cX0_workThrough 32 = .ok (.aload_n 0, 1) := by decide +kernel
theorem dX0_workThrough_33 : decode cX0_workThrough 33 = .ok (.getfield 11, 3) := by decide +kernel
theorem dX0_workThrough_36 : decode cX0_workThrough 36 = .ok (.iconst 0, 1) := by decide +kernel
theorem dX0_workThrough_37 : decode cX0_workThrough 37 = .ok (.aaload, 1) := by decide +kernel
theorem dX0_workThrough_38 : decode cX0_workThrough 38 = .ok (.iload_n 1, 1) := by decide +kernel
theorem dX0_workThrough_39 : decode cX0_workThrough 39 = .ok (.invokevirtual 37, 3) := by decide +kernel
theorem dX0_workThrough_42 : decode cX0_workThrough 42 = .ok (.aload_n 0, 1) := by decide +kernel
theorem dX0_workThrough_43 : decode cX0_workThrough 43 = .ok (.iconst 1, 1) := by decide +kernel
theorem dX0_workThrough_44 : decode cX0_workThrough 44 = .ok (.putfield 41, 3) := by decide +kernel
theorem dX0_workThrough_47 : decode cX0_workThrough 47 = .ok (.aload_n 0, 1) := by decide +kernel
theorem dX0_workThrough_48 : decode cX0_workThrough 48 = .ok (.getfield 25, 3) := by decide +kernel
theorem dX0_workThrough_51 : decode cX0_workThrough 51 = .ok (.istore_n 2, 1) := by decide +kernel
theorem dX0_workThrough_52 : decode cX0_workThrough 52 = .ok (.aload_n 0, 1) := by decide +kernel
theorem dX0_workThrough_53 : decode cX0_workThrough 53 = .ok (.getfield 41, 3) := by decide +kernel
theorem dX0_workThrough_56 : decode cX0_workThrough 56 = .ok (.ifCond .le 47, 3) := by decide +kernel
theorem dX0_workThrough_59 : decode cX0_workThrough 59 = .ok (.aload_n 0, 1) := by decide +kernel
theorem dX0_workThrough_60 : decode cX0_workThrough 60 = .ok (.getfield 31, 3) := by decide +kernel
theorem dX0_workThrough_63 : decode cX0_workThrough 63 = .ok (.bipush 80, 2) := by decide +kernel
theorem dX0_workThrough_65 : decode cX0_workThrough 65 = .ok (.if_icmp .ge 38, 3) := by decide +kernel
theorem dX0_workThrough_68 : decode cX0_workThrough 68 = .ok (.iload_n 2, 1) := by decide +kernel
theorem dX0_workThrough_69 : decode cX0_workThrough 69 = .ok (.ldc 44, 2) := by decide +kernel
theorem dX0_workThrough_71 : decode cX0_workThrough 71 = .ok (.imul, 1) := by decide +kernel
theorem dX0_workThrough_72 : decode cX0_workThrough 72 = .ok (.sipush 12345, 3) := by decide +kernel
theorem dX0_workThrough_75 : decode cX0_workThrough 75 = .ok (.iadd, 1) := by decide +kernel
theorem dX0_workThrough_76 : decode cX0_workThrough 76 = .ok (.istore_n 2, 1) := by decide +kernel
theorem dX0_workThrough_77 : decode cX0_workThrough 77 = .ok (.aload_n 0, 1) := by decide +kernel
theorem dX0_workThrough_78 : decode cX0_workThrough 78 = .ok (.iload_n 2, 1) := by decide +kernel
theorem dX0_workThrough_79 : decode cX0_workThrough 79 = .ok (.bipush 16, 2) := by decide +kernel
theorem dX0_workThrough_81 : decode cX0_workThrough 81 = .ok (.iushr, 1) := by decide +kernel
theorem dX0_workThrough_82 : decode cX0_workThrough 82 = .ok (.aload_n 0, 1) := by decide +kernel
theorem dX0_workThrough_83 : decode cX0_workThrough 83 = .ok (.getfield 22, 3) := by decide +kernel
theorem dX0_workThrough_86 : decode cX0_workThrough 86 = .ok (.irem, 1) := by decide +kernel
theorem dX0_workThrough_87 : decode cX0_workThrough 87 = .ok (.invokevirtual 45, 3) := by decide +kernel
theorem dX0_workThrough_90 : decode cX0_workThrough 90 = .ok (.aload_n 0, 1) := by decide +kernel
theorem dX0_workThrough_91 : decode cX0_workThrough 91 = .ok (.dup, 1) := by decide +kernel
theorem dX0_workThrough_92 : decode cX0_workThrough 92 = .ok (.getfield 31, 3) := by decide +kernel
theorem dX0_workThrough_95 : decode cX0_workThrough 95 = .ok (.iconst 1, 1) := by decide +kernel
theorem dX0_workThrough_96 : decode cX0_workThrough 96 = .ok (.iadd, 1) := by decide +kernel
theorem dX0_workThrough_97 : decode cX0_workThrough 97 = .ok (.putfield 31, 3) := by decide +kernel
theorem dX0_workThrough_100 : decode cX0_workThrough 100 = .ok (.goto (-48), 3) := by decide +kernel
theorem dX0_workThrough_103 : decode cX0_workThrough 103 = .ok (.return_, 1) := by decide +kernel
theorem dX0_allDone_0 : decode cX0_allDone 0 = .ok (.iconst 0, 1) := by decide +kernel
theorem dX0_allDone_1 : decode cX0_allDone 1 = .ok (.istore_n 1, 1) := by decide +kernel
theorem dX0_allDone_2 : decode cX0_allDone 2 = .ok (.iconst 0, 1) := by decide +kernel
theorem dX0_allDone_3 : decode cX0_allDone 3 = .ok (.istore_n 2, 1) := by decide +kernel
theorem dX0_allDone_4 : decode cX0_allDone 4 = .ok (.iload_n 2, 1) := by decide +kernel
theorem dX0_allDone_5 : decode cX0_allDone 5 = .ok (.iconst 4, 1) := by decide +kernel
theorem dX0_allDone_6 : decode cX0_allDone 6 = .ok (.if_icmp .ge 21, 3) := by decide +kernel
theorem dX0_allDone_9 : decode cX0_allDone 9 = .ok (.iload_n 1, 1) := by decide +kernel
theorem dX0_allDone_10 : decode cX0_allDone 10 = .ok (.aload_n 0, 1) := by decide +kernel
theorem dX0_allDone_11 : decode cX0_allDone 11 = .ok (.getfield 11, 3) := by decide +kernel
theorem dX0_allDone_14 : decode cX0_allDone 14 = .ok (.iload_n 2, 1) := by decide +kernel
theorem dX0_allDone_15 : decode cX0_allDone 15 = .ok (.aaload, 1) := by decide +kernel
theorem dX0_allDone_16 : decode cX0_allDone 16 = .ok (.getfield 48, 3) := by decide +kernel
theorem dX0_allDone_19 : decode cX0_allDone 19 = .ok (.iadd, 1) := by decide +kernel
theorem dX0_allDone_20 : decode cX0_allDone 20 = .ok (.istore_n 1, 1) := by decide +kernel
theorem dX0_allDone_21 : decode cX0_allDone 21 = .ok (.iinc 2 1, 3) := by decide +kernel
theorem dX0_allDone_24 : decode cX0_allDone 24 = .ok (.goto (-20), 3) := by decide +kernel
theorem dX0_allDone_27 : decode cX0_allDone 27 = .ok (.iload_n 1, 1) := by decide +kernel
theorem dX0_allDone_28 : decode cX0_allDone 28 = .ok (.ireturn, 1) := by decide +kernel
theorem dX0_takeTurn_0 : decode cX0_takeTurn 0 = .ok (.aload_n 0, 1) := by decide +kernel
theorem dX0_takeTurn_1 : decode cX0_takeTurn 1 = .ok (.getfield 11, 3) := by decide +kernel
theorem dX0_takeTurn_4 : decode cX0_takeTurn 4 = .ok (.iload_n 1, 1) := by decide +kernel
theorem dX0_takeTurn_5 : decode cX0_takeTurn 5 = .ok (.aaload, 1) := by decide +kernel
theorem dX0_takeTurn_6 : decode cX0_takeTurn 6 = .ok (.astore_n 2, 1) := by decide +kernel
theorem dX0_takeTurn_7 : decode cX0_takeTurn 7 = .ok (.aload_n 2, 1) := by decide +kernel
theorem dX0_takeTurn_8 : decode cX0_takeTurn 8 = .ok (.invokevirtual 51, 3) := by decide +kernel
theorem dX0_takeTurn_11 : decode cX0_takeTurn 11 = .ok (.ifCond .eq 10, 3) := by decide +kernel
theorem dX0_takeTurn_14 : decode cX0_takeTurn 14 = .ok (.aload_n 2, 1) := by decide +kernel
theorem dX0_takeTurn_15 : decode cX0_takeTurn 15 = .ok (.invokevirtual 55, 3) := by decide +kernel
theorem dX0_takeTurn_18 : decode cX0_takeTurn 18 = .ok (.goto 8, 3) := by decide +kernel
theorem dX0_takeTurn_21 : decode cX0_takeTurn 21 = .ok (.aload_n 0, 1) := by decide +kernel
theorem dX0_takeTurn_22 : decode cX0_takeTurn 22 = .ok (.iload_n 1, 1) := by decide +kernel
theorem dX0_takeTurn_23 : decode cX0_takeTurn 23 = .ok (.invokevirtual 59, 3) := by decide +kernel
theorem dX0_takeTurn_26 : decode cX0_takeTurn 26 = .ok (.istore_n 3, 1) := by decide +kernel
theorem dX0_takeTurn_27 : decode cX0_takeTurn 27 = .ok (.iload_n 3, 1) := by decide +kernel
theorem dX0_takeTurn_28 : decode cX0_takeTurn 28 = .ok (.aload_n 0, 1) := by decide +kernel
theorem dX0_takeTurn_29 : decode cX0_takeTurn 29 = .ok (.getfield 18, 3) := by decide +kernel
theorem dX0_takeTurn_32 : decode cX0_takeTurn 32 = .ok (.if_icmp .le 32, 3) := by decide +kernel
theorem dX0_takeTurn_35 : decode cX0_takeTurn 35 = .ok (.aload_n 2, 1) := by decide +kernel
theorem dX0_takeTurn_36 : decode cX0_takeTurn 36 = .ok (.iload_n 3, 1) := by decide +kernel
theorem dX0_takeTurn_37 : decode cX0_takeTurn 37 = .ok (.iload_n 3, 1) := by decide +kernel
theorem dX0_takeTurn_38 : decode cX0_takeTurn 38 = .ok (.iconst 2, 1) := by decide +kernel
theorem dX0_takeTurn_39 : decode cX0_takeTurn 39 = .ok (.idiv, 1) := by decide +kernel
theorem dX0_takeTurn_40 : decode cX0_takeTurn 40 = .ok (.isub, 1) := by decide +kernel
theorem dX0_takeTurn_41 : decode cX0_takeTurn 41 = .ok (.invokevirtual 37, 3) := by decide +kernel
theorem dX0_takeTurn_44 : decode cX0_takeTurn 44 = .ok (.aload_n 2, 1) := by decide +kernel
theorem dX0_takeTurn_45 : decode cX0_takeTurn 45 = .ok (.iload_n 3, 1) := by decide +kernel
theorem dX0_takeTurn_46 : decode cX0_takeTurn 46 = .ok (.iconst 2, 1) := by decide +kernel
theorem dX0_takeTurn_47 : decode cX0_takeTurn 47 = .ok (.idiv, 1) := by decide +kernel
theorem dX0_takeTurn_48 : decode cX0_takeTurn 48 = .ok (.invokevirtual 37, 3) := by decide +kernel
theorem dX0_takeTurn_51 : decode cX0_takeTurn 51 = .ok (.aload_n 0, 1) := by decide +kernel
theorem dX0_takeTurn_52 : decode cX0_takeTurn 52 = .ok (.dup, 1) := by decide +kernel
theorem dX0_takeTurn_53 : decode cX0_takeTurn 53 = .ok (.getfield 41, 3) := by decide +kernel
theorem dX0_takeTurn_56 : decode cX0_takeTurn 56 = .ok (.iconst 1, 1) := by decide +kernel
theorem dX0_takeTurn_57 : decode cX0_takeTurn 57 = .ok (.iadd, 1) := by decide +kernel
theorem dX0_takeTurn_58 : decode cX0_takeTurn 58 = .ok (.putfield 41, 3) := by decide +kernel
theorem dX0_takeTurn_61 : decode cX0_takeTurn 61 = .ok (.goto 23, 3) := by decide +kernel
theorem dX0_takeTurn_64 : decode cX0_takeTurn 64 = .ok (.aload_n 2, 1) := by decide +kernel
theorem dX0_takeTurn_65 : decode cX0_takeTurn 65 = .ok (.dup, 1) := by decide +kernel
theorem dX0_takeTurn_66 : decode cX0_takeTurn 66 = .ok (.getfield 48, 3) := by decide +kernel
theorem dX0_takeTurn_69 : decode cX0_takeTurn 69 = .ok (.iconst 1, 1) := by decide +kernel
theorem dX0_takeTurn_70 : decode cX0_takeTurn 70 = .ok (.iadd, 1) := by decide +kernel
theorem dX0_takeTurn_71 : decode cX0_takeTurn 71 = .ok (.putfield 48, 3) := by decide +kernel
theorem dX0_takeTurn_74 : decode cX0_takeTurn 74 = .ok (.aload_n 0, 1) := by decide +kernel
theorem dX0_takeTurn_75 : decode cX0_takeTurn 75 = .ok (.dup, 1) := by decide +kernel
theorem dX0_takeTurn_76 : decode cX0_takeTurn 76 = .ok (.getfield 41, 3) := by decide +kernel
theorem dX0_takeTurn_79 : decode cX0_takeTurn 79 = .ok (.iconst 1, 1) := by decide +kernel
theorem dX0_takeTurn_80 : decode cX0_takeTurn 80 = .ok (.isub, 1) := by decide +kernel
theorem dX0_takeTurn_81 : decode cX0_takeTurn 81 = .ok (.putfield 41, 3) := by decide +kernel
theorem dX0_takeTurn_84 : decode cX0_takeTurn 84 = .ok (.return_, 1) := by decide +kernel
theorem dX0_stolenBy_0 : decode cX0_stolenBy 0 = .ok (.iconst 1, 1) := by decide +kernel
theorem dX0_stolenBy_1 : decode cX0_stolenBy 1 = .ok (.istore_n 2, 1) := by decide +kernel
theorem dX0_stolenBy_2 : decode cX0_stolenBy 2 = .ok (.iload_n 2, 1) := by decide +kernel
theorem dX0_stolenBy_3 : decode cX0_stolenBy 3 = .ok (.aload_n 0, 1) := by decide +kernel
theorem dX0_stolenBy_4 : decode cX0_stolenBy 4 = .ok (.getfield 22, 3) := by decide +kernel
theorem dX0_stolenBy_7 : decode cX0_stolenBy 7 = .ok (.if_icmp .ge 45, 3) := by decide +kernel
theorem dX0_stolenBy_10 : decode cX0_stolenBy 10 = .ok (.aload_n 0, 1) := by decide +kernel
theorem dX0_stolenBy_11 : decode cX0_stolenBy 11 = .ok (.getfield 11, 3) := by decide +kernel
theorem dX0_stolenBy_14 : decode cX0_stolenBy 14 = .ok (.iload_n 1, 1) := by decide +kernel
theorem dX0_stolenBy_15 : decode cX0_stolenBy 15 = .ok (.iload_n 2, 1) := by decide +kernel
theorem dX0_stolenBy_16 : decode cX0_stolenBy 16 = .ok (.iadd, 1) := by decide +kernel
theorem dX0_stolenBy_17 : decode cX0_stolenBy 17 = .ok (.aload_n 0, 1) := by decide +kernel
theorem dX0_stolenBy_18 : decode cX0_stolenBy 18 = .ok (.getfield 22, 3) := by decide +kernel
theorem dX0_stolenBy_21 : decode cX0_stolenBy 21 = .ok (.irem, 1) := by decide +kernel
theorem dX0_stolenBy_22 : decode cX0_stolenBy 22 = .ok (.aaload, 1) := by decide +kernel
theorem dX0_stolenBy_23 : decode cX0_stolenBy 23 = .ok (.astore_n 3, 1) := by decide +kernel
theorem dX0_stolenBy_24 : decode cX0_stolenBy 24 = .ok (.aload_n 3, 1) := by decide +kernel
theorem dX0_stolenBy_25 : decode cX0_stolenBy 25 = .ok (.invokevirtual 51, 3) := by decide +kernel
theorem dX0_stolenBy_28 : decode cX0_stolenBy 28 = .ok (.ifCond .eq 18, 3) := by decide +kernel
theorem dX0_stolenBy_31 : decode cX0_stolenBy 31 = .ok (.aload_n 0, 1) := by decide +kernel
theorem dX0_stolenBy_32 : decode cX0_stolenBy 32 = .ok (.dup, 1) := by decide +kernel
theorem dX0_stolenBy_33 : decode cX0_stolenBy 33 = .ok (.getfield 34, 3) := by decide +kernel
theorem dX0_stolenBy_36 : decode cX0_stolenBy 36 = .ok (.iconst 1, 1) := by decide +kernel
theorem dX0_stolenBy_37 : decode cX0_stolenBy 37 = .ok (.iadd, 1) := by decide +kernel
theorem dX0_stolenBy_38 : decode cX0_stolenBy 38 = .ok (.putfield 34, 3) := by decide +kernel
theorem dX0_stolenBy_41 : decode cX0_stolenBy 41 = .ok (.aload_n 3, 1) := by decide +kernel
theorem dX0_stolenBy_42 : decode cX0_stolenBy 42 = .ok (.invokevirtual 63, 3) := by decide +kernel
theorem dX0_stolenBy_45 : decode cX0_stolenBy 45 = .ok (.ireturn, 1) := by decide +kernel
theorem dX0_stolenBy_46 : decode cX0_stolenBy 46 = .ok (.iinc 2 1, 3) := by decide +kernel
theorem dX0_stolenBy_49 : decode cX0_stolenBy 49 = .ok (.goto (-47), 3) := by decide +kernel
theorem dX0_stolenBy_52 : decode cX0_stolenBy 52 = .ok (.iconst 0, 1) := by decide +kernel
theorem dX0_stolenBy_53 : decode cX0_stolenBy 53 = .ok (.ireturn, 1) := by decide +kernel
theorem dX1_init_0 : decode cX1_init 0 = .ok (.aload_n 0, 1) := by decide +kernel
theorem dX1_init_1 : decode cX1_init 1 = .ok (.invokespecial 3, 3) := by decide +kernel
theorem dX1_init_4 : decode cX1_init 4 = .ok (.aload_n 0, 1) := by decide +kernel
theorem dX1_init_5 : decode cX1_init 5 = .ok (.new 9, 3) := by decide +kernel
theorem dX1_init_8 : decode cX1_init 8 = .ok (.dup, 1) := by decide +kernel
theorem dX1_init_9 : decode cX1_init 9 = .ok (.sipush 600, 3) := by decide +kernel
theorem dX1_init_12 : decode cX1_init 12 = .ok (.invokespecial 11, 3) := by decide +kernel
theorem dX1_init_15 : decode cX1_init 15 = .ok (.putfield 14, 3) := by decide +kernel
theorem dX1_init_18 : decode cX1_init 18 = .ok (.aload_n 0, 1) := by decide +kernel
theorem dX1_init_19 : decode cX1_init 19 = .ok (.new 9, 3) := by decide +kernel
theorem dX1_init_22 : decode cX1_init 22 = .ok (.dup, 1) := by decide +kernel
theorem dX1_init_23 : decode cX1_init 23 = .ok (.sipush 600, 3) := by decide +kernel
theorem dX1_init_26 : decode cX1_init 26 = .ok (.invokespecial 11, 3) := by decide +kernel
theorem dX1_init_29 : decode cX1_init 29 = .ok (.putfield 20, 3) := by decide +kernel
theorem dX1_init_32 : decode cX1_init 32 = .ok (.return_, 1) := by decide +kernel
theorem dX1_begin_0 : decode cX1_begin 0 = .ok (.aload_n 0, 1) := by decide +kernel
theorem dX1_begin_1 : decode cX1_begin 1 = .ok (.iload_n 1, 1) := by decide +kernel
theorem dX1_begin_2 : decode cX1_begin 2 = .ok (.putfield 23, 3) := by decide +kernel
theorem dX1_begin_5 : decode cX1_begin 5 = .ok (.aload_n 0, 1) := by decide +kernel
theorem dX1_begin_6 : decode cX1_begin 6 = .ok (.iload_n 2, 1) := by decide +kernel
theorem dX1_begin_7 : decode cX1_begin 7 = .ok (.putfield 27, 3) := by decide +kernel
theorem dX1_begin_10 : decode cX1_begin 10 = .ok (.aload_n 0, 1) := by decide +kernel
theorem dX1_begin_11 : decode cX1_begin 11 = .ok (.iload_n 3, 1) := by decide +kernel
theorem dX1_begin_12 : decode cX1_begin 12 = .ok (.putfield 30, 3) := by decide +kernel
theorem dX1_begin_15 : decode cX1_begin 15 = .ok (.aload_n 0, 1) := by decide +kernel
theorem dX1_begin_16 : decode cX1_begin 16 = .ok (.iconst 0, 1) := by decide +kernel
theorem dX1_begin_17 : decode cX1_begin 17 = .ok (.putfield 33, 3) := by decide +kernel
theorem dX1_begin_20 : decode cX1_begin 20 = .ok (.aload_n 0, 1) := by decide +kernel
theorem dX1_begin_21 : decode cX1_begin 21 = .ok (.iload_n 1, 1) := by decide +kernel
theorem dX1_begin_22 : decode cX1_begin 22 = .ok (.bipush 8, 2) := by decide +kernel
theorem dX1_begin_24 : decode cX1_begin 24 = .ok (.if_icmp .ne 7, 3) := by decide +kernel
theorem dX1_begin_27 : decode cX1_begin 27 = .ok (.iload_n 3, 1) := by decide +kernel
theorem dX1_begin_28 : decode cX1_begin 28 = .ok (.goto 4, 3) := by decide +kernel
theorem dX1_begin_31 : decode cX1_begin 31 = .ok (.iconst 0, 1) := by decide +kernel
theorem dX1_begin_32 : decode cX1_begin 32 = .ok (.putfield 36, 3) := by decide +kernel
theorem dX1_begin_35 : decode cX1_begin 35 = .ok (.aload_n 0, 1) := by decide +kernel
theorem dX1_begin_36 : decode cX1_begin 36 = .ok (.iconst 0, 1) := by decide +kernel
theorem dX1_begin_37 : decode cX1_begin 37 = .ok (.putfield 39, 3) := by decide +kernel
theorem dX1_begin_40 : decode cX1_begin 40 = .ok (.aload_n 0, 1) := by decide +kernel
theorem dX1_begin_41 : decode cX1_begin 41 = .ok (.getfield 14, 3) := by decide +kernel
theorem dX1_begin_44 : decode cX1_begin 44 = .ok (.invokevirtual 43, 3) := by decide +kernel
theorem dX1_begin_47 : decode cX1_begin 47 = .ok (.iconst 0, 1) := by decide +kernel
theorem dX1_begin_48 : decode cX1_begin 48 = .ok (.istore 4, 2) := by decide +kernel
theorem dX1_begin_50 : decode cX1_begin 50 = .ok (.iload_n 1, 1) := by decide +kernel
theorem dX1_begin_51 : decode cX1_begin 51 = .ok (.bipush 10, 2) := by decide +kernel
theorem dX1_begin_53 : decode cX1_begin 53 = .ok (.if_icmp .ne 23, 3) := by decide +kernel
theorem dX1_begin_56 : decode cX1_begin 56 = .ok (.iload 4, 2) := by decide +kernel
theorem dX1_begin_58 : decode cX1_begin 58 = .ok (.iload_n 3, 1) := by decide +kernel
theorem dX1_begin_59 : decode cX1_begin 59 = .ok (.if_icmp .ge 17, 3) := by decide +kernel
theorem dX1_begin_62 : decode cX1_begin 62 = .ok (.aload_n 0, 1) := by decide +kernel
theorem dX1_begin_63 : decode cX1_begin 63 = .ok (.getfield 14, 3) := by decide +kernel
theorem dX1_begin_66 : decode cX1_begin 66 = .ok (.iconst 0, 1) := by decide +kernel
theorem dX1_begin_67 : decode cX1_begin 67 = .ok (.invokevirtual 46, 3) := by decide +kernel
theorem dX1_begin_70 : decode cX1_begin 70 = .ok (.iinc 4 1, 3) := by decide +kernel
theorem dX1_begin_73 : decode cX1_begin 73 = .ok (.goto (-23), 3) := by decide +kernel
theorem dX1_begin_76 : decode cX1_begin 76 = .ok (.return_, 1) := by decide +kernel
theorem dX1_wantsMore_0 : decode cX1_wantsMore 0 = .ok (.aload_n 0, 1) := by decide +kernel
theorem dX1_wantsMore_1 : decode cX1_wantsMore 1 = .ok (.getfield 39, 3) := by decide +kernel
theorem dX1_wantsMore_4 : decode cX1_wantsMore 4 = .ok (.ifCond .ne 7, 3) := by decide +kernel
theorem dX1_wantsMore_7 : decode cX1_wantsMore 7 = .ok (.iconst 1, 1) := by decide +kernel
theorem dX1_wantsMore_8 : decode cX1_wantsMore 8 = .ok (.goto 4, 3) := by decide +kernel
theorem dX1_wantsMore_11 : decode cX1_wantsMore 11 = .ok (.iconst 0, 1) := by decide +kernel
theorem dX1_wantsMore_12 : decode cX1_wantsMore 12 = .ok (.ireturn, 1) := by decide +kernel
theorem dX1_take_0 : decode cX1_take 0 = .ok (.aload_n 0, 1) := by decide +kernel
theorem dX1_take_1 : decode cX1_take 1 = .ok (.getfield 23, 3) := by decide +kernel
theorem dX1_take_4 : decode cX1_take 4 = .ok (.tableswitch 262 1 10 #[56, 69, 95, 121, 148, 182, 148, 216, 228, 239], 56) := by decide +kernel
theorem dX1_take_60 : decode cX1_take 60 = .ok (.aload_n 0, 1) := by decide +kernel
theorem dX1_take_61 : decode cX1_take 61 = .ok (.dup, 1) := by decide +kernel
theorem dX1_take_62 : decode cX1_take 62 = .ok (.getfield 36, 3) := by decide +kernel
theorem dX1_take_65 : decode cX1_take 65 = .ok (.iload_n 1, 1) := by decide +kernel
theorem dX1_take_66 : decode cX1_take 66 = .ok (.iadd, 1) := by decide +kernel
theorem dX1_take_67 : decode cX1_take 67 = .ok (.putfield 36, 3) := by decide +kernel
theorem dX1_take_70 : decode cX1_take 70 = .ok (.goto 196, 3) := by decide +kernel
theorem dX1_take_73 : decode cX1_take 73 = .ok (.aload_n 0, 1) := by decide +kernel
theorem dX1_take_74 : decode cX1_take 74 = .ok (.aload_n 0, 1) := by decide +kernel
theorem dX1_take_75 : decode cX1_take 75 = .ok (.getfield 33, 3) := by decide +kernel
theorem dX1_take_78 : decode cX1_take 78 = .ok (.ifCond .ne 7, 3) := by decide +kernel
theorem dX1_take_81 : decode cX1_take 81 = .ok (.iload_n 1, 1) := by decide +kernel
theorem dX1_take_82 : decode cX1_take 82 = .ok (.goto 11, 3) := by decide +kernel
theorem dX1_take_85 : decode cX1_take 85 = .ok (.aload_n 0, 1) := by decide +kernel
theorem dX1_take_86 : decode cX1_take 86 = .ok (.getfield 36, 3) := by decide +kernel
theorem dX1_take_89 : decode cX1_take 89 = .ok (.iload_n 1, 1) := by decide +kernel
theorem dX1_take_90 : decode cX1_take 90 = .ok (.invokestatic 49, 3) := by decide +kernel
theorem dX1_take_93 : decode cX1_take 93 = .ok (.putfield 36, 3) := by decide +kernel
theorem dX1_take_96 : decode cX1_take 96 = .ok (.goto 170, 3) := by decide +kernel
theorem dX1_take_99 : decode cX1_take 99 = .ok (.aload_n 0, 1) := by decide +kernel
theorem dX1_take_100 : decode cX1_take 100 = .ok (.aload_n 0, 1) := by decide +kernel
theorem dX1_take_101 : decode cX1_take 101 = .ok (.getfield 33, 3) := by decide +kernel
theorem dX1_take_104 : decode cX1_take 104 = .ok (.ifCond .ne 7, 3) := by decide +kernel
theorem dX1_take_107 : decode cX1_take 107 = .ok (.iload_n 1, 1) := by decide +kernel
theorem dX1_take_108 : decode cX1_take 108 = .ok (.goto 11, 3) := by decide +kernel
theorem dX1_take_111 : decode cX1_take 111 = .ok (.aload_n 0, 1) := by decide +kernel
theorem dX1_take_112 : decode cX1_take 112 = .ok (.getfield 36, 3) := by decide +kernel
theorem dX1_take_115 : decode cX1_take 115 = .ok (.iload_n 1, 1) := by decide +kernel
theorem dX1_take_116 : decode cX1_take 116 = .ok (.invokestatic 55, 3) := by decide +kernel
theorem dX1_take_119 : decode cX1_take 119 = .ok (.putfield 36, 3) := by decide +kernel
theorem dX1_take_122 : decode cX1_take 122 = .ok (.goto 144, 3) := by decide +kernel
theorem dX1_take_125 : decode cX1_take 125 = .ok (.aload_n 0, 1) := by decide +kernel
theorem dX1_take_126 : decode cX1_take 126 = .ok (.aload_n 0, 1) := by decide +kernel
theorem dX1_take_127 : decode cX1_take 127 = .ok (.getfield 39, 3) := by decide +kernel
theorem dX1_take_130 : decode cX1_take 130 = .ok (.ifCond .eq 10, 3) := by decide +kernel
theorem dX1_take_133 : decode cX1_take 133 = .ok (.aload_n 0, 1) := by decide +kernel
theorem dX1_take_134 : decode cX1_take 134 = .ok (.getfield 36, 3) := by decide +kernel
theorem dX1_take_137 : decode cX1_take 137 = .ok (.goto 4, 3) := by decide +kernel
theorem dX1_take_140 : decode cX1_take 140 = .ok (.iload_n 1, 1) := by decide +kernel
theorem dX1_take_141 : decode cX1_take 141 = .ok (.putfield 36, 3) := by decide +kernel
theorem dX1_take_144 : decode cX1_take 144 = .ok (.aload_n 0, 1) := by decide +kernel
theorem dX1_take_145 : decode cX1_take 145 = .ok (.iconst 1, 1) := by decide +kernel
theorem dX1_take_146 : decode cX1_take 146 = .ok (.putfield 39, 3) := by decide +kernel
theorem dX1_take_149 : decode cX1_take 149 = .ok (.goto 117, 3) := by decide +kernel
theorem dX1_take_152 : decode cX1_take 152 = .ok (.aload_n 0, 1) := by decide +kernel
theorem dX1_take_153 : decode cX1_take 153 = .ok (.aload_n 0, 1) := by decide +kernel
theorem dX1_take_154 : decode cX1_take 154 = .ok (.getfield 39, 3) := by decide +kernel
theorem dX1_take_157 : decode cX1_take 157 = .ok (.ifCond .ne 18, 3) := by decide +kernel
theorem dX1_take_160 : decode cX1_take 160 = .ok (.iload_n 1, 1) := by decide +kernel
theorem dX1_take_161 : decode cX1_take 161 = .ok (.aload_n 0, 1) := by decide +kernel
theorem dX1_take_162 : decode cX1_take 162 = .ok (.getfield 27, 3) := by decide +kernel
theorem dX1_take_165 : decode cX1_take 165 = .ok (.aload_n 0, 1) := by decide +kernel
theorem dX1_take_166 : decode cX1_take 166 = .ok (.getfield 30, 3) := by decide +kernel
theorem dX1_take_169 : decode cX1_take 169 = .ok (.invokestatic 58, 3) := by decide +kernel
theorem dX1_take_172 : decode cX1_take 172 = .ok (.ifCond .eq 7, 3) := by decide +kernel
theorem dX1_take_175 : decode cX1_take 175 = .ok (.iconst 1, 1) := by decide +kernel
theorem dX1_take_176 : decode cX1_take 176 = .ok (.goto 4, 3) := by decide +kernel
theorem dX1_take_179 : decode cX1_take 179 = .ok (.iconst 0, 1) := by decide +kernel
theorem dX1_take_180 : decode cX1_take 180 = .ok (.putfield 39, 3) := by decide +kernel
theorem dX1_take_183 : decode cX1_take 183 = .ok (.goto 83, 3) := by decide +kernel
theorem dX1_take_186 : decode cX1_take 186 = .ok (.aload_n 0, 1) := by decide +kernel
theorem dX1_take_187 : decode cX1_take 187 = .ok (.aload_n 0, 1) := by decide +kernel
theorem dX1_take_188 : decode cX1_take 188 = .ok (.getfield 39, 3) := by decide +kernel
theorem dX1_take_191 : decode cX1_take 191 = .ok (.ifCond .ne 18, 3) := by decide +kernel
theorem dX1_take_194 : decode cX1_take 194 = .ok (.iload_n 1, 1) := by decide +kernel
theorem dX1_take_195 : decode cX1_take 195 = .ok (.aload_n 0, 1) := by decide +kernel
theorem dX1_take_196 : decode cX1_take 196 = .ok (.getfield 27, 3) := by decide +kernel
theorem dX1_take_199 : decode cX1_take 199 = .ok (.aload_n 0, 1) := by decide +kernel
theorem dX1_take_200 : decode cX1_take 200 = .ok (.getfield 30, 3) := by decide +kernel
theorem dX1_take_203 : decode cX1_take 203 = .ok (.invokestatic 58, 3) := by decide +kernel
theorem dX1_take_206 : decode cX1_take 206 = .ok (.ifCond .ne 7, 3) := by decide +kernel
theorem dX1_take_209 : decode cX1_take 209 = .ok (.iconst 1, 1) := by decide +kernel
theorem dX1_take_210 : decode cX1_take 210 = .ok (.goto 4, 3) := by decide +kernel
theorem dX1_take_213 : decode cX1_take 213 = .ok (.iconst 0, 1) := by decide +kernel
theorem dX1_take_214 : decode cX1_take 214 = .ok (.putfield 39, 3) := by decide +kernel
theorem dX1_take_217 : decode cX1_take 217 = .ok (.goto 49, 3) := by decide +kernel
theorem dX1_take_220 : decode cX1_take 220 = .ok (.aload_n 0, 1) := by decide +kernel
theorem dX1_take_221 : decode cX1_take 221 = .ok (.aload_n 0, 1) := by decide +kernel
theorem dX1_take_222 : decode cX1_take 222 = .ok (.iload_n 1, 1) := by decide +kernel
theorem dX1_take_223 : decode cX1_take 223 = .ok (.invokevirtual 62, 3) := by decide +kernel
theorem dX1_take_226 : decode cX1_take 226 = .ok (.putfield 36, 3) := by decide +kernel
theorem dX1_take_229 : decode cX1_take 229 = .ok (.goto 37, 3) := by decide +kernel
theorem dX1_take_232 : decode cX1_take 232 = .ok (.aload_n 0, 1) := by decide +kernel
theorem dX1_take_233 : decode cX1_take 233 = .ok (.getfield 14, 3) := by decide +kernel
theorem dX1_take_236 : decode cX1_take 236 = .ok (.iload_n 1, 1) := by decide +kernel
theorem dX1_take_237 : decode cX1_take 237 = .ok (.invokevirtual 46, 3) := by decide +kernel
theorem dX1_take_240 : decode cX1_take 240 = .ok (.goto 26, 3) := by decide +kernel
theorem dX1_take_243 : decode cX1_take 243 = .ok (.aload_n 0, 1) := by decide +kernel
theorem dX1_take_244 : decode cX1_take 244 = .ok (.getfield 14, 3) := by decide +kernel
theorem dX1_take_247 : decode cX1_take 247 = .ok (.getfield 66, 3) := by decide +kernel
theorem dX1_take_250 : decode cX1_take 250 = .ok (.iload_n 1, 1) := by decide +kernel
theorem dX1_take_251 : decode cX1_take 251 = .ok (.aload_n 0, 1) := by decide +kernel
theorem dX1_take_252 : decode cX1_take 252 = .ok (.getfield 30, 3) := by decide +kernel
theorem dX1_take_255 : decode cX1_take 255 = .ok (.invokestatic 70, 3) := by decide +kernel
theorem dX1_take_258 : decode cX1_take 258 = .ok (.dup2, 1) := by decide +kernel
theorem dX1_take_259 : decode cX1_take 259 = .ok (.iaload, 1) := by decide +kernel
theorem dX1_take_260 : decode cX1_take 260 = .ok (.iconst 1, 1) := by decide +kernel
theorem dX1_take_261 : decode cX1_take 261 = .ok (.iadd, 1) := by decide +kernel
theorem dX1_take_262 : decode cX1_take 262 = .ok (.iastore, 1) := by decide +kernel
theorem dX1_take_263 : decode cX1_take 263 = .ok (.goto 3, 3) := by decide +kernel
theorem dX1_take_266 : decode cX1_take 266 = .ok (.aload_n 0, 1) := by decide +kernel
theorem dX1_take_267 : decode cX1_take 267 = .ok (.dup, 1) := by decide +kernel
theorem dX1_take_268 : decode cX1_take 268 = .ok (.getfield 33, 3) := by decide +kernel
theorem dX1_take_271 : decode cX1_take 271 = .ok (.iconst 1, 1) := by decide +kernel
theorem dX1_take_272 : decode cX1_take 272 = .ok (.iadd, 1) := by decide +kernel
theorem dX1_take_273 : decode cX1_take 273 = .ok (.putfield 33, 3) := by decide +kernel
theorem dX1_take_276 : decode cX1_take 276 = .ok (.return_, 1) := by decide +kernel
theorem dX1_hasResult_0 : decode cX1_hasResult 0 = .ok (.aload_n 0, 1) := by decide +kernel
theorem dX1_hasResult_1 : decode cX1_hasResult 1 = .ok (.getfield 33, 3) := by decide +kernel
theorem dX1_hasResult_4 : decode cX1_hasResult 4 = .ok (.ifCond .gt 27, 3) := by decide +kernel
theorem dX1_hasResult_7 : decode cX1_hasResult 7 = .ok (.aload_n 0, 1) := by decide +kernel
theorem dX1_hasResult_8 : decode cX1_hasResult 8 = .ok (.getfield 23, 3) := by decide +kernel
theorem dX1_hasResult_11 : decode cX1_hasResult 11 = .ok (.iconst 2, 1) := by decide +kernel
theorem dX1_hasResult_12 : decode cX1_hasResult 12 = .ok (.if_icmp .eq 23, 3) := by decide +kernel
theorem dX1_hasResult_15 : decode cX1_hasResult 15 = .ok (.aload_n 0, 1) := by decide +kernel
theorem dX1_hasResult_16 : decode cX1_hasResult 16 = .ok (.getfield 23, 3) := by decide +kernel
theorem dX1_hasResult_19 : decode cX1_hasResult 19 = .ok (.iconst 3, 1) := by decide +kernel
theorem dX1_hasResult_20 : decode cX1_hasResult 20 = .ok (.if_icmp .eq 15, 3) := by decide +kernel
theorem dX1_hasResult_23 : decode cX1_hasResult 23 = .ok (.aload_n 0, 1) := by decide +kernel
theorem dX1_hasResult_24 : decode cX1_hasResult 24 = .ok (.getfield 23, 3) := by decide +kernel
theorem dX1_hasResult_27 : decode cX1_hasResult 27 = .ok (.iconst 4, 1) := by decide +kernel
theorem dX1_hasResult_28 : decode cX1_hasResult 28 = .ok (.if_icmp .eq 7, 3) := by decide +kernel
theorem dX1_hasResult_31 : decode cX1_hasResult 31 = .ok (.iconst 1, 1) := by decide +kernel
theorem dX1_hasResult_32 : decode cX1_hasResult 32 = .ok (.goto 4, 3) := by decide +kernel
theorem dX1_hasResult_35 : decode cX1_hasResult 35 = .ok (.iconst 0, 1) := by decide +kernel
theorem dX1_hasResult_36 : decode cX1_hasResult 36 = .ok (.ireturn, 1) := by decide +kernel
theorem dX1_result_0 : decode cX1_result 0 = .ok (.aload_n 0, 1) := by decide +kernel
theorem dX1_result_1 : decode cX1_result 1 = .ok (.getfield 23, 3) := by decide +kernel
theorem dX1_result_4 : decode cX1_result 4 = .ok (.tableswitch 96 0 10 #[60, 96, 96, 96, 96, 65, 78, 78, 96, 60, 91], 60) := by decide +kernel
theorem dX1_result_64 : decode cX1_result 64 = .ok (.aload_n 0, 1) := by decide +kernel
theorem dX1_result_65 : decode cX1_result 65 = .ok (.getfield 33, 3) := by decide +kernel
theorem dX1_result_68 : decode cX1_result 68 = .ok (.ireturn, 1) := by decide +kernel
theorem dX1_result_69 : decode cX1_result 69 = .ok (.aload_n 0, 1) := by decide +kernel
theorem dX1_result_70 : decode cX1_result 70 = .ok (.getfield 39, 3) := by decide +kernel
theorem dX1_result_73 : decode cX1_result 73 = .ok (.ifCond .eq 7, 3) := by decide +kernel
theorem dX1_result_76 : decode cX1_result 76 = .ok (.iconst 1, 1) := by decide +kernel
theorem dX1_result_77 : decode cX1_result 77 = .ok (.goto 4, 3) := by decide +kernel
theorem dX1_result_80 : decode cX1_result 80 = .ok (.iconst 0, 1) := by decide +kernel
theorem dX1_result_81 : decode cX1_result 81 = .ok (.ireturn, 1) := by decide +kernel
theorem dX1_result_82 : decode cX1_result 82 = .ok (.aload_n 0, 1) := by decide +kernel
theorem dX1_result_83 : decode cX1_result 83 = .ok (.getfield 39, 3) := by decide +kernel
theorem dX1_result_86 : decode cX1_result 86 = .ok (.ifCond .eq 7, 3) := by decide +kernel
theorem dX1_result_89 : decode cX1_result 89 = .ok (.iconst 0, 1) := by decide +kernel
theorem dX1_result_90 : decode cX1_result 90 = .ok (.goto 4, 3) := by decide +kernel
theorem dX1_result_93 : decode cX1_result 93 = .ok (.iconst 1, 1) := by decide +kernel
theorem dX1_result_94 : decode cX1_result 94 = .ok (.ireturn, 1) := by decide +kernel
theorem dX1_result_95 : decode cX1_result 95 = .ok (.aload_n 0, 1) := by decide +kernel
theorem dX1_result_96 : decode cX1_result 96 = .ok (.invokevirtual 73, 3) := by decide +kernel
theorem dX1_result_99 : decode cX1_result 99 = .ok (.ireturn, 1) := by decide +kernel
theorem dX1_result_100 : decode cX1_result 100 = .ok (.aload_n 0, 1) := by decide +kernel
theorem dX1_result_101 : decode cX1_result 101 = .ok (.getfield 36, 3) := by decide +kernel
theorem dX1_result_104 : decode cX1_result 104 = .ok (.ireturn, 1) := by decide +kernel
theorem dX1_keepGathered_0 : decode cX1_keepGathered 0 = .ok (.aload_n 0, 1) := by decide +kernel
theorem dX1_keepGathered_1 : decode cX1_keepGathered 1 = .ok (.getfield 23, 3) := by decide +kernel
theorem dX1_keepGathered_4 : decode cX1_keepGathered 4 = .ok (.bipush 9, 2) := by decide +kernel
theorem dX1_keepGathered_6 : decode cX1_keepGathered 6 = .ok (.if_icmp .eq 12, 3) := by decide +kernel
theorem dX1_keepGathered_9 : decode cX1_keepGathered 9 = .ok (.aload_n 0, 1) := by decide +kernel
theorem dX1_keepGathered_10 : decode cX1_keepGathered 10 = .ok (.getfield 23, 3) := by decide +kernel
theorem dX1_keepGathered_13 : decode cX1_keepGathered 13 = .ok (.bipush 10, 2) := by decide +kernel
theorem dX1_keepGathered_15 : decode cX1_keepGathered 15 = .ok (.if_icmp .ne 21, 3) := by decide +kernel
theorem dX1_keepGathered_18 : decode cX1_keepGathered 18 = .ok (.aload_n 0, 1) := by decide +kernel
theorem dX1_keepGathered_19 : decode cX1_keepGathered 19 = .ok (.getfield 20, 3) := by decide +kernel
theorem dX1_keepGathered_22 : decode cX1_keepGathered 22 = .ok (.astore_n 1, 1) := by decide +kernel
theorem dX1_keepGathered_23 : decode cX1_keepGathered 23 = .ok (.aload_n 0, 1) := by decide +kernel
theorem dX1_keepGathered_24 : decode cX1_keepGathered 24 = .ok (.aload_n 0, 1) := by decide +kernel
theorem dX1_keepGathered_25 : decode cX1_keepGathered 25 = .ok (.getfield 14, 3) := by decide +kernel
theorem dX1_keepGathered_28 : decode cX1_keepGathered 28 = .ok (.putfield 20, 3) := by decide +kernel
theorem dX1_keepGathered_31 : decode cX1_keepGathered 31 = .ok (.aload_n 0, 1) := by decide +kernel
theorem dX1_keepGathered_32 : decode cX1_keepGathered 32 = .ok (.aload_n 1, 1) := by decide +kernel
theorem dX1_keepGathered_33 : decode cX1_keepGathered 33 = .ok (.putfield 14, 3) := by decide +kernel
theorem dX1_keepGathered_36 : decode cX1_keepGathered 36 = .ok (.return_, 1) := by decide +kernel
theorem dX1_folded_0 : decode cX1_folded 0 = .ok (.aload_n 0, 1) := by decide +kernel
theorem dX1_folded_1 : decode cX1_folded 1 = .ok (.getfield 27, 3) := by decide +kernel
theorem dX1_folded_4 : decode cX1_folded 4 = .ok (.lookupswitch 42 #[(0, 28), (1, 35)], 28) := by decide +kernel
theorem dX1_folded_32 : decode cX1_folded 32 = .ok (.aload_n 0, 1) := by decide +kernel
theorem dX1_folded_33 : decode cX1_folded 33 = .ok (.getfield 36, 3) := by decide +kernel
theorem dX1_folded_36 : decode cX1_folded 36 = .ok (.iload_n 1, 1) := by decide +kernel
theorem dX1_folded_37 : decode cX1_folded 37 = .ok (.iadd, 1) := by decide +kernel
theorem dX1_folded_38 : decode cX1_folded 38 = .ok (.ireturn, 1) := by decide +kernel
theorem dX1_folded_39 : decode cX1_folded 39 = .ok (.aload_n 0, 1) := by decide +kernel
theorem dX1_folded_40 : decode cX1_folded 40 = .ok (.getfield 36, 3) := by decide +kernel
theorem dX1_folded_43 : decode cX1_folded 43 = .ok (.iload_n 1, 1) := by decide +kernel
theorem dX1_folded_44 : decode cX1_folded 44 = .ok (.imul, 1) := by decide +kernel
theorem dX1_folded_45 : decode cX1_folded 45 = .ok (.ireturn, 1) := by decide +kernel
theorem dX1_folded_46 : decode cX1_folded 46 = .ok (.aload_n 0, 1) := by decide +kernel
theorem dX1_folded_47 : decode cX1_folded 47 = .ok (.getfield 36, 3) := by decide +kernel
theorem dX1_folded_50 : decode cX1_folded 50 = .ok (.bipush 31, 2) := by decide +kernel
theorem dX1_folded_52 : decode cX1_folded 52 = .ok (.imul, 1) := by decide +kernel
theorem dX1_folded_53 : decode cX1_folded 53 = .ok (.iload_n 1, 1) := by decide +kernel
theorem dX1_folded_54 : decode cX1_folded 54 = .ok (.iadd, 1) := by decide +kernel
theorem dX1_folded_55 : decode cX1_folded 55 = .ok (.ireturn, 1) := by decide +kernel
theorem dX1_differentRemainders_0 : decode cX1_differentRemainders 0 = .ok (.iconst 0, 1) := by decide +kernel
theorem dX1_differentRemainders_1 : decode cX1_differentRemainders 1 = .ok (.istore_n 1, 1) := by decide +kernel
theorem dX1_differentRemainders_2 : decode cX1_differentRemainders 2 = .ok (.iconst 0, 1) := by decide +kernel
theorem dX1_differentRemainders_3 : decode cX1_differentRemainders 3 = .ok (.istore_n 2, 1) := by decide +kernel
theorem dX1_differentRemainders_4 : decode cX1_differentRemainders 4 = .ok (.iload_n 2, 1) := by decide +kernel
theorem dX1_differentRemainders_5 : decode cX1_differentRemainders 5 = .ok (.aload_n 0, 1) := by decide +kernel
theorem dX1_differentRemainders_6 : decode cX1_differentRemainders 6 = .ok (.getfield 14, 3) := by decide +kernel
theorem dX1_differentRemainders_9 : decode cX1_differentRemainders 9 = .ok (.getfield 77, 3) := by decide +kernel
theorem dX1_differentRemainders_12 : decode cX1_differentRemainders 12 = .ok (.if_icmp .ge 29, 3) := by decide +kernel
theorem dX1_differentRemainders_15 : decode cX1_differentRemainders 15 = .ok (.iload_n 1, 1) := by decide +kernel
theorem dX1_differentRemainders_16 : decode cX1_differentRemainders 16 = .ok (.aload_n 0, 1) := by decide +kernel
theorem dX1_differentRemainders_17 : decode cX1_differentRemainders 17 = .ok (.getfield 14, 3) := by decide +kernel
theorem dX1_differentRemainders_20 : decode cX1_differentRemainders 20 = .ok (.getfield 66, 3) := by decide +kernel
theorem dX1_differentRemainders_23 : decode cX1_differentRemainders 23 = .ok (.iload_n 2, 1) := by decide +kernel
theorem dX1_differentRemainders_24 : decode cX1_differentRemainders 24 = .ok (.iaload, 1) := by decide +kernel
theorem dX1_differentRemainders_25 : decode cX1_differentRemainders 25 = .ok (.ifCond .le 7, 3) := by decide +kernel
theorem dX1_differentRemainders_28 : decode cX1_differentRemainders 28 = .ok (.iconst 1, 1) := by decide +kernel
theorem dX1_differentRemainders_29 : decode cX1_differentRemainders 29 = .ok (.goto 4, 3) := by decide +kernel
theorem dX1_differentRemainders_32 : decode cX1_differentRemainders 32 = .ok (.iconst 0, 1) := by decide +kernel
theorem dX1_differentRemainders_33 : decode cX1_differentRemainders 33 = .ok (.iadd, 1) := by decide +kernel
theorem dX1_differentRemainders_34 : decode cX1_differentRemainders 34 = .ok (.istore_n 1, 1) := by decide +kernel
theorem dX1_differentRemainders_35 : decode cX1_differentRemainders 35 = .ok (.iinc 2 1, 3) := by decide +kernel
theorem dX1_differentRemainders_38 : decode cX1_differentRemainders 38 = .ok (.goto (-34), 3) := by decide +kernel
theorem dX1_differentRemainders_41 : decode cX1_differentRemainders 41 = .ok (.iload_n 1, 1) := by decide +kernel
theorem dX1_differentRemainders_42 : decode cX1_differentRemainders 42 = .ok (.ireturn, 1) := by decide +kernel
theorem dX2_init_0 : decode cX2_init 0 = .ok (.aload_n 0, 1) := by decide +kernel
theorem dX2_init_1 : decode cX2_init 1 = .ok (.invokespecial 3, 3) := by decide +kernel
theorem dX2_init_4 : decode cX2_init 4 = .ok (.aload_n 0, 1) := by decide +kernel
theorem dX2_init_5 : decode cX2_init 5 = .ok (.aload_n 1, 1) := by decide +kernel
theorem dX2_init_6 : decode cX2_init 6 = .ok (.putfield 9, 3) := by decide +kernel
theorem dX2_init_9 : decode cX2_init 9 = .ok (.aload_n 0, 1) := by decide +kernel
theorem dX2_init_10 : decode cX2_init 10 = .ok (.aload_n 2, 1) := by decide +kernel
theorem dX2_init_11 : decode cX2_init 11 = .ok (.putfield 15, 3) := by decide +kernel
theorem dX2_init_14 : decode cX2_init 14 = .ok (.return_, 1) := by decide +kernel
theorem dX2_comesToEnd_0 : decode cX2_comesToEnd 0 = .ok (.aload_n 0, 1) := by decide +kernel
theorem dX2_comesToEnd_1 : decode cX2_comesToEnd 1 = .ok (.iconst 0, 1) := by decide +kernel
theorem dX2_comesToEnd_2 : decode cX2_comesToEnd 2 = .ok (.putfield 19, 3) := by decide +kernel
theorem dX2_comesToEnd_5 : decode cX2_comesToEnd 5 = .ok (.aload_n 0, 1) := by decide +kernel
theorem dX2_comesToEnd_6 : decode cX2_comesToEnd 6 = .ok (.iconst 0, 1) := by decide +kernel
theorem dX2_comesToEnd_7 : decode cX2_comesToEnd 7 = .ok (.putfield 23, 3) := by decide +kernel
theorem dX2_comesToEnd_10 : decode cX2_comesToEnd 10 = .ok (.aload_n 0, 1) := by decide +kernel
theorem dX2_comesToEnd_11 : decode cX2_comesToEnd 11 = .ok (.invokevirtual 27, 3) := by decide +kernel
theorem dX2_comesToEnd_14 : decode cX2_comesToEnd 14 = .ok (.iconst 0, 1) := by decide +kernel
theorem dX2_comesToEnd_15 : decode cX2_comesToEnd 15 = .ok (.istore_n 1, 1) := by decide +kernel
theorem dX2_comesToEnd_16 : decode cX2_comesToEnd 16 = .ok (.iload_n 1, 1) := by decide +kernel
theorem dX2_comesToEnd_17 : decode cX2_comesToEnd 17 = .ok (.aload_n 0, 1) := by decide +kernel
theorem dX2_comesToEnd_18 : decode cX2_comesToEnd 18 = .ok (.getfield 9, 3) := by decide +kernel
theorem dX2_comesToEnd_21 : decode cX2_comesToEnd 21 = .ok (.getfield 30, 3) := by decide +kernel
theorem dX2_comesToEnd_24 : decode cX2_comesToEnd 24 = .ok (.if_icmp .ge 30, 3) := by decide +kernel
theorem dX2_comesToEnd_27 : decode cX2_comesToEnd 27 = .ok (.aload_n 0, 1) := by decide +kernel
theorem dX2_comesToEnd_28 : decode cX2_comesToEnd 28 = .ok (.getfield 9, 3) := by decide +kernel
theorem dX2_comesToEnd_31 : decode cX2_comesToEnd 31 = .ok (.getfield 35, 3) := by decide +kernel
theorem dX2_comesToEnd_34 : decode cX2_comesToEnd 34 = .ok (.iload_n 1, 1) := by decide +kernel
theorem dX2_comesToEnd_35 : decode cX2_comesToEnd 35 = .ok (.aaload, 1) := by decide +kernel
theorem dX2_comesToEnd_36 : decode cX2_comesToEnd 36 = .ok (.getfield 39, 3) := by decide +kernel
theorem dX2_comesToEnd_39 : decode cX2_comesToEnd 39 = .ok (.iconst 4, 1) := by decide +kernel
theorem dX2_comesToEnd_40 : decode cX2_comesToEnd 40 = .ok (.if_icmp .ne 8, 3) := by decide +kernel
theorem dX2_comesToEnd_43 : decode cX2_comesToEnd 43 = .ok (.aload_n 0, 1) := by decide +kernel
theorem dX2_comesToEnd_44 : decode cX2_comesToEnd 44 = .ok (.iload_n 1, 1) := by decide +kernel
theorem dX2_comesToEnd_45 : decode cX2_comesToEnd 45 = .ok (.invokevirtual 44, 3) := by decide +kernel
theorem dX2_comesToEnd_48 : decode cX2_comesToEnd 48 = .ok (.iinc 1 1, 3) := by decide +kernel
theorem dX2_comesToEnd_51 : decode cX2_comesToEnd 51 = .ok (.goto (-35), 3) := by decide +kernel
theorem dX2_comesToEnd_54 : decode cX2_comesToEnd 54 = .ok (.aload_n 0, 1) := by decide +kernel
theorem dX2_comesToEnd_55 : decode cX2_comesToEnd 55 = .ok (.getfield 23, 3) := by decide +kernel
theorem dX2_comesToEnd_58 : decode cX2_comesToEnd 58 = .ok (.ifCond .ne 7, 3) := by decide +kernel
theorem dX2_comesToEnd_61 : decode cX2_comesToEnd 61 = .ok (.iconst 1, 1) := by decide +kernel
theorem dX2_comesToEnd_62 : decode cX2_comesToEnd 62 = .ok (.goto 4, 3) := by decide +kernel
theorem dX2_comesToEnd_65 : decode cX2_comesToEnd 65 = .ok (.iconst 0, 1) := by decide +kernel
theorem dX2_comesToEnd_66 : decode cX2_comesToEnd 66 = .ok (.ireturn, 1) := by decide +kernel
theorem dX2_giveFromSource_0 : decode cX2_giveFromSource 0 = .ok (.aload_n 0, 1) := by decide +kernel
theorem dX2_giveFromSource_1 : decode cX2_giveFromSource 1 = .ok (.getfield 9, 3) := by decide +kernel
theorem dX2_giveFromSource_4 : decode cX2_giveFromSource 4 = .ok (.getfield 48, 3) := by decide +kernel
theorem dX2_giveFromSource_7 : decode cX2_giveFromSource 7 = .ok (.astore_n 1, 1) := by decide +kernel
theorem dX2_giveFromSource_8 : decode cX2_giveFromSource 8 = .ok (.iconst 0, 1) := by decide +kernel
theorem dX2_giveFromSource_9 : decode cX2_giveFromSource 9 = .ok (.istore_n 2, 1) := by decide +kernel
theorem dX2_giveFromSource_10 : decode cX2_giveFromSource 10 = .ok (.iload_n 2, 1) := by decide +kernel
theorem dX2_giveFromSource_11 : decode cX2_giveFromSource 11 = .ok (.sipush 600, 3) := by decide +kernel
theorem dX2_giveFromSource_14 : decode cX2_giveFromSource 14 = .ok (.if_icmp .gt 33, 3) := by decide +kernel
theorem dX2_giveFromSource_17 : decode cX2_giveFromSource 17 = .ok (.aload_n 1, 1) := by decide +kernel
theorem dX2_giveFromSource_18 : decode cX2_giveFromSource 18 = .ok (.invokevirtual 52, 3) := by decide +kernel
theorem dX2_giveFromSource_21 : decode cX2_giveFromSource 21 = .ok (.ifCond .eq 26, 3) := by decide +kernel
theorem dX2_giveFromSource_24 : decode cX2_giveFromSource 24 = .ok (.aload_n 0, 1) := by decide +kernel
theorem dX2_giveFromSource_25 : decode cX2_giveFromSource 25 = .ok (.iconst 0, 1) := by decide +kernel
theorem dX2_giveFromSource_26 : decode cX2_giveFromSource 26 = .ok (.invokevirtual 58, 3) := by decide +kernel
theorem dX2_giveFromSource_29 : decode cX2_giveFromSource 29 = .ok (.ifCond .eq 18, 3) := by decide +kernel
theorem dX2_giveFromSource_32 : decode cX2_giveFromSource 32 = .ok (.aload_n 0, 1) := by decide +kernel
theorem dX2_giveFromSource_33 : decode cX2_giveFromSource 33 = .ok (.iconst 0, 1) := by decide +kernel
theorem dX2_giveFromSource_34 : decode cX2_giveFromSource 34 = .ok (.aload_n 1, 1) := by decide +kernel
theorem dX2_giveFromSource_35 : decode cX2_giveFromSource 35 = .ok (.invokevirtual 62, 3) := by decide +kernel
theorem dX2_giveFromSource_38 : decode cX2_giveFromSource 38 = .ok (.invokevirtual 66, 3) := by decide +kernel
theorem dX2_giveFromSource_41 : decode cX2_giveFromSource 41 = .ok (.iinc 2 1, 3) := by decide +kernel
theorem dX2_giveFromSource_44 : decode cX2_giveFromSource 44 = .ok (.goto (-34), 3) := by decide +kernel
theorem dX2_giveFromSource_47 : decode cX2_giveFromSource 47 = .ok (.return_, 1) := by decide +kernel
theorem dX2_giveSorted_0 : decode cX2_giveSorted 0 = .ok (.aload_n 0, 1) := by decide +kernel
theorem dX2_giveSorted_1 : decode cX2_giveSorted 1 = .ok (.getfield 9, 3) := by decide +kernel
theorem dX2_giveSorted_4 : decode cX2_giveSorted 4 = .ok (.getfield 35, 3) := by decide +kernel
theorem dX2_giveSorted_7 : decode cX2_giveSorted 7 = .ok (.iload_n 1, 1) := by decide +kernel
theorem dX2_giveSorted_8 : decode cX2_giveSorted 8 = .ok (.aaload, 1) := by decide +kernel
theorem dX2_giveSorted_9 : decode cX2_giveSorted 9 = .ok (.getfield 70, 3) := by decide +kernel
theorem dX2_giveSorted_12 : decode cX2_giveSorted 12 = .ok (.astore_n 2, 1) := by decide +kernel
theorem dX2_giveSorted_13 : decode cX2_giveSorted 13 = .ok (.iconst 0, 1) := by decide +kernel
theorem dX2_giveSorted_14 : decode cX2_giveSorted 14 = .ok (.istore_n 3, 1) := by decide +kernel
theorem dX2_giveSorted_15 : decode cX2_giveSorted 15 = .ok (.iload_n 3, 1) := by decide +kernel
theorem dX2_giveSorted_16 : decode cX2_giveSorted 16 = .ok (.aload_n 2, 1) := by decide +kernel
theorem dX2_giveSorted_17 : decode cX2_giveSorted 17 = .ok (.getfield 74, 3) := by decide +kernel
theorem dX2_giveSorted_20 : decode cX2_giveSorted 20 = .ok (.if_icmp .ge 32, 3) := by decide +kernel
theorem dX2_giveSorted_23 : decode cX2_giveSorted 23 = .ok (.aload_n 0, 1) := by decide +kernel
theorem dX2_giveSorted_24 : decode cX2_giveSorted 24 = .ok (.iload_n 1, 1) := by decide +kernel
theorem dX2_giveSorted_25 : decode cX2_giveSorted 25 = .ok (.iconst 1, 1) := by decide +kernel
theorem dX2_giveSorted_26 : decode cX2_giveSorted 26 = .ok (.iadd, 1) := by decide +kernel
theorem dX2_giveSorted_27 : decode cX2_giveSorted 27 = .ok (.invokevirtual 58, 3) := by decide +kernel
theorem dX2_giveSorted_30 : decode cX2_giveSorted 30 = .ok (.ifCond .eq 22, 3) := by decide +kernel
theorem dX2_giveSorted_33 : decode cX2_giveSorted 33 = .ok (.aload_n 0, 1) := by decide +kernel
theorem dX2_giveSorted_34 : decode cX2_giveSorted 34 = .ok (.iload_n 1, 1) := by decide +kernel
theorem dX2_giveSorted_35 : decode cX2_giveSorted 35 = .ok (.iconst 1, 1) := by decide +kernel
theorem dX2_giveSorted_36 : decode cX2_giveSorted 36 = .ok (.iadd, 1) := by decide +kernel
theorem dX2_giveSorted_37 : decode cX2_giveSorted 37 = .ok (.aload_n 2, 1) := by decide +kernel
theorem dX2_giveSorted_38 : decode cX2_giveSorted 38 = .ok (.getfield 79, 3) := by decide +kernel
theorem dX2_giveSorted_41 : decode cX2_giveSorted 41 = .ok (.iload_n 3, 1) := by decide +kernel
theorem dX2_giveSorted_42 : decode cX2_giveSorted 42 = .ok (.iaload, 1) := by decide +kernel
theorem dX2_giveSorted_43 : decode cX2_giveSorted 43 = .ok (.invokevirtual 66, 3) := by decide +kernel
theorem dX2_giveSorted_46 : decode cX2_giveSorted 46 = .ok (.iinc 3 1, 3) := by decide +kernel
theorem dX2_giveSorted_49 : decode cX2_giveSorted 49 = .ok (.goto (-34), 3) := by decide +kernel
theorem dX2_giveSorted_52 : decode cX2_giveSorted 52 = .ok (.return_, 1) := by decide +kernel
theorem dX2_giveFlat_0 : decode cX2_giveFlat 0 = .ok (.aload_n 0, 1) := by decide +kernel
theorem dX2_giveFlat_1 : decode cX2_giveFlat 1 = .ok (.getfield 9, 3) := by decide +kernel
theorem dX2_giveFlat_4 : decode cX2_giveFlat 4 = .ok (.getfield 35, 3) := by decide +kernel
theorem dX2_giveFlat_7 : decode cX2_giveFlat 7 = .ok (.iload_n 1, 1) := by decide +kernel
theorem dX2_giveFlat_8 : decode cX2_giveFlat 8 = .ok (.aaload, 1) := by decide +kernel
theorem dX2_giveFlat_9 : decode cX2_giveFlat 9 = .ok (.getfield 83, 3) := by decide +kernel
theorem dX2_giveFlat_12 : decode cX2_giveFlat 12 = .ok (.istore_n 3, 1) := by decide +kernel
theorem dX2_giveFlat_13 : decode cX2_giveFlat 13 = .ok (.iconst 0, 1) := by decide +kernel
theorem dX2_giveFlat_14 : decode cX2_giveFlat 14 = .ok (.istore 4, 2) := by decide +kernel
theorem dX2_giveFlat_16 : decode cX2_giveFlat 16 = .ok (.iload 4, 2) := by decide +kernel
theorem dX2_giveFlat_18 : decode cX2_giveFlat 18 = .ok (.iload_n 3, 1) := by decide +kernel
theorem dX2_giveFlat_19 : decode cX2_giveFlat 19 = .ok (.if_icmp .ge 30, 3) := by decide +kernel
theorem dX2_giveFlat_22 : decode cX2_giveFlat 22 = .ok (.aload_n 0, 1) := by decide +kernel
theorem dX2_giveFlat_23 : decode cX2_giveFlat 23 = .ok (.iload_n 1, 1) := by decide +kernel
theorem dX2_giveFlat_24 : decode cX2_giveFlat 24 = .ok (.iconst 1, 1) := by decide +kernel
theorem dX2_giveFlat_25 : decode cX2_giveFlat 25 = .ok (.iadd, 1) := by decide +kernel
theorem dX2_giveFlat_26 : decode cX2_giveFlat 26 = .ok (.invokevirtual 58, 3) := by decide +kernel
theorem dX2_giveFlat_29 : decode cX2_giveFlat 29 = .ok (.ifCond .eq 20, 3) := by decide +kernel
