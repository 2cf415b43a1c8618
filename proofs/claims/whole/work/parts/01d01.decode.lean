theorem dX2_giveFlat_32 : decode cX2_giveFlat 32 = .ok (.aload_n 0, 1) := by decide +kernel
theorem dX2_giveFlat_33 : decode cX2_giveFlat 33 = .ok (.iload_n 1, 1) := by decide +kernel
theorem dX2_giveFlat_34 : decode cX2_giveFlat 34 = .ok (.iconst 1, 1) := by decide +kernel
theorem dX2_giveFlat_35 : decode cX2_giveFlat 35 = .ok (.iadd, 1) := by decide +kernel
theorem dX2_giveFlat_36 : decode cX2_giveFlat 36 = .ok (.iload_n 2, 1) := by decide +kernel
theorem dX2_giveFlat_37 : decode cX2_giveFlat 37 = .ok (.iload 4, 2) := by decide +kernel
theorem dX2_giveFlat_39 : decode cX2_giveFlat 39 = .ok (.iadd, 1) := by decide +kernel
theorem dX2_giveFlat_40 : decode cX2_giveFlat 40 = .ok (.invokevirtual 66, 3) := by decide +kernel
theorem dX2_giveFlat_43 : decode cX2_giveFlat 43 = .ok (.iinc 4 1, 3) := by decide +kernel
theorem dX2_giveFlat_46 : decode cX2_giveFlat 46 = .ok (.goto (-30), 3) := by decide +kernel
theorem dX2_giveFlat_49 : decode cX2_giveFlat 49 = .ok (.return_, 1) := by decide +kernel
theorem dX2_mayGiveTo_0 : decode cX2_mayGiveTo 0 = .ok (.aload_n 0, 1) := by decide +kernel
theorem dX2_mayGiveTo_1 : decode cX2_mayGiveTo 1 = .ok (.getfield 23, 3) := by decide +kernel
theorem dX2_mayGiveTo_4 : decode cX2_mayGiveTo 4 = .ok (.ifCond .ne 11, 3) := by decide +kernel
theorem dX2_mayGiveTo_7 : decode cX2_mayGiveTo 7 = .ok (.aload_n 0, 1) := by decide +kernel
theorem dX2_mayGiveTo_8 : decode cX2_mayGiveTo 8 = .ok (.iload_n 1, 1) := by decide +kernel
theorem dX2_mayGiveTo_9 : decode cX2_mayGiveTo 9 = .ok (.invokevirtual 86, 3) := by decide +kernel
theorem dX2_mayGiveTo_12 : decode cX2_mayGiveTo 12 = .ok (.ifCond .ne 5, 3) := by decide +kernel
theorem dX2_mayGiveTo_15 : decode cX2_mayGiveTo 15 = .ok (.iconst 0, 1) := by decide +kernel
theorem dX2_mayGiveTo_16 : decode cX2_mayGiveTo 16 = .ok (.ireturn, 1) := by decide +kernel
theorem dX2_mayGiveTo_17 : decode cX2_mayGiveTo 17 = .ok (.aload_n 0, 1) := by decide +kernel
theorem dX2_mayGiveTo_18 : decode cX2_mayGiveTo 18 = .ok (.getfield 19, 3) := by decide +kernel
theorem dX2_mayGiveTo_21 : decode cX2_mayGiveTo 21 = .ok (.sipush 600, 3) := by decide +kernel
theorem dX2_mayGiveTo_24 : decode cX2_mayGiveTo 24 = .ok (.if_icmp .ne 10, 3) := by decide +kernel
theorem dX2_mayGiveTo_27 : decode cX2_mayGiveTo 27 = .ok (.aload_n 0, 1) := by decide +kernel
theorem dX2_mayGiveTo_28 : decode cX2_mayGiveTo 28 = .ok (.iconst 1, 1) := by decide +kernel
theorem dX2_mayGiveTo_29 : decode cX2_mayGiveTo 29 = .ok (.putfield 23, 3) := by decide +kernel
theorem dX2_mayGiveTo_32 : decode cX2_mayGiveTo 32 = .ok (.iconst 0, 1) := by decide +kernel
theorem dX2_mayGiveTo_33 : decode cX2_mayGiveTo 33 = .ok (.ireturn, 1) := by decide +kernel
theorem dX2_mayGiveTo_34 : decode cX2_mayGiveTo 34 = .ok (.aload_n 0, 1) := by decide +kernel
theorem dX2_mayGiveTo_35 : decode cX2_mayGiveTo 35 = .ok (.dup, 1) := by decide +kernel
theorem dX2_mayGiveTo_36 : decode cX2_mayGiveTo 36 = .ok (.getfield 19, 3) := by decide +kernel
theorem dX2_mayGiveTo_39 : decode cX2_mayGiveTo 39 = .ok (.iconst 1, 1) := by decide +kernel
theorem dX2_mayGiveTo_40 : decode cX2_mayGiveTo 40 = .ok (.iadd, 1) := by decide +kernel
theorem dX2_mayGiveTo_41 : decode cX2_mayGiveTo 41 = .ok (.putfield 19, 3) := by decide +kernel
theorem dX2_mayGiveTo_44 : decode cX2_mayGiveTo 44 = .ok (.iconst 1, 1) := by decide +kernel
theorem dX2_mayGiveTo_45 : decode cX2_mayGiveTo 45 = .ok (.ireturn, 1) := by decide +kernel
theorem dX2_isWantedFrom_0 : decode cX2_isWantedFrom 0 = .ok (.iload_n 1, 1) := by decide +kernel
theorem dX2_isWantedFrom_1 : decode cX2_isWantedFrom 1 = .ok (.istore_n 2, 1) := by decide +kernel
theorem dX2_isWantedFrom_2 : decode cX2_isWantedFrom 2 = .ok (.iload_n 2, 1) := by decide +kernel
theorem dX2_isWantedFrom_3 : decode cX2_isWantedFrom 3 = .ok (.aload_n 0, 1) := by decide +kernel
theorem dX2_isWantedFrom_4 : decode cX2_isWantedFrom 4 = .ok (.getfield 9, 3) := by decide +kernel
theorem dX2_isWantedFrom_7 : decode cX2_isWantedFrom 7 = .ok (.getfield 30, 3) := by decide +kernel
theorem dX2_isWantedFrom_10 : decode cX2_isWantedFrom 10 = .ok (.if_icmp .ge 44, 3) := by decide +kernel
theorem dX2_isWantedFrom_13 : decode cX2_isWantedFrom 13 = .ok (.aload_n 0, 1) := by decide +kernel
theorem dX2_isWantedFrom_14 : decode cX2_isWantedFrom 14 = .ok (.getfield 9, 3) := by decide +kernel
theorem dX2_isWantedFrom_17 : decode cX2_isWantedFrom 17 = .ok (.getfield 35, 3) := by decide +kernel
theorem dX2_isWantedFrom_20 : decode cX2_isWantedFrom 20 = .ok (.iload_n 2, 1) := by decide +kernel
theorem dX2_isWantedFrom_21 : decode cX2_isWantedFrom 21 = .ok (.aaload, 1) := by decide +kernel
theorem dX2_isWantedFrom_22 : decode cX2_isWantedFrom 22 = .ok (.getfield 39, 3) := by decide +kernel
theorem dX2_isWantedFrom_25 : decode cX2_isWantedFrom 25 = .ok (.iconst 4, 1) := by decide +kernel
theorem dX2_isWantedFrom_26 : decode cX2_isWantedFrom 26 = .ok (.if_icmp .ne 5, 3) := by decide +kernel
theorem dX2_isWantedFrom_29 : decode cX2_isWantedFrom 29 = .ok (.iconst 1, 1) := by decide +kernel
theorem dX2_isWantedFrom_30 : decode cX2_isWantedFrom 30 = .ok (.ireturn, 1) := by decide +kernel
theorem dX2_isWantedFrom_31 : decode cX2_isWantedFrom 31 = .ok (.aload_n 0, 1) := by decide +kernel
theorem dX2_isWantedFrom_32 : decode cX2_isWantedFrom 32 = .ok (.getfield 9, 3) := by decide +kernel
theorem dX2_isWantedFrom_35 : decode cX2_isWantedFrom 35 = .ok (.getfield 35, 3) := by decide +kernel
theorem dX2_isWantedFrom_38 : decode cX2_isWantedFrom 38 = .ok (.iload_n 2, 1) := by decide +kernel
theorem dX2_isWantedFrom_39 : decode cX2_isWantedFrom 39 = .ok (.aaload, 1) := by decide +kernel
theorem dX2_isWantedFrom_40 : decode cX2_isWantedFrom 40 = .ok (.invokevirtual 89, 3) := by decide +kernel
theorem dX2_isWantedFrom_43 : decode cX2_isWantedFrom 43 = .ok (.ifCond .eq 5, 3) := by decide +kernel
theorem dX2_isWantedFrom_46 : decode cX2_isWantedFrom 46 = .ok (.iconst 0, 1) := by decide +kernel
theorem dX2_isWantedFrom_47 : decode cX2_isWantedFrom 47 = .ok (.ireturn, 1) := by decide +kernel
theorem dX2_isWantedFrom_48 : decode cX2_isWantedFrom 48 = .ok (.iinc 2 1, 3) := by decide +kernel
theorem dX2_isWantedFrom_51 : decode cX2_isWantedFrom 51 = .ok (.goto (-49), 3) := by decide +kernel
theorem dX2_isWantedFrom_54 : decode cX2_isWantedFrom 54 = .ok (.aload_n 0, 1) := by decide +kernel
theorem dX2_isWantedFrom_55 : decode cX2_isWantedFrom 55 = .ok (.getfield 15, 3) := by decide +kernel
theorem dX2_isWantedFrom_58 : decode cX2_isWantedFrom 58 = .ok (.invokevirtual 92, 3) := by decide +kernel
theorem dX2_isWantedFrom_61 : decode cX2_isWantedFrom 61 = .ok (.ireturn, 1) := by decide +kernel
theorem dX2_passOn_0 : decode cX2_passOn 0 = .ok (.iload_n 2, 1) := by decide +kernel
theorem dX2_passOn_1 : decode cX2_passOn 1 = .ok (.istore_n 3, 1) := by decide +kernel
theorem dX2_passOn_2 : decode cX2_passOn 2 = .ok (.iload_n 1, 1) := by decide +kernel
theorem dX2_passOn_3 : decode cX2_passOn 3 = .ok (.istore 4, 2) := by decide +kernel
theorem dX2_passOn_5 : decode cX2_passOn 5 = .ok (.iload 4, 2) := by decide +kernel
theorem dX2_passOn_7 : decode cX2_passOn 7 = .ok (.aload_n 0, 1) := by decide +kernel
theorem dX2_passOn_8 : decode cX2_passOn 8 = .ok (.getfield 9, 3) := by decide +kernel
theorem dX2_passOn_11 : decode cX2_passOn 11 = .ok (.getfield 30, 3) := by decide +kernel
theorem dX2_passOn_14 : decode cX2_passOn 14 = .ok (.if_icmp .ge 66, 3) := by decide +kernel
theorem dX2_passOn_17 : decode cX2_passOn 17 = .ok (.aload_n 0, 1) := by decide +kernel
theorem dX2_passOn_18 : decode cX2_passOn 18 = .ok (.getfield 9, 3) := by decide +kernel
theorem dX2_passOn_21 : decode cX2_passOn 21 = .ok (.getfield 35, 3) := by decide +kernel
theorem dX2_passOn_24 : decode cX2_passOn 24 = .ok (.iload 4, 2) := by decide +kernel
theorem dX2_passOn_26 : decode cX2_passOn 26 = .ok (.aaload, 1) := by decide +kernel
theorem dX2_passOn_27 : decode cX2_passOn 27 = .ok (.astore 5, 2) := by decide +kernel
theorem dX2_passOn_29 : decode cX2_passOn 29 = .ok (.aload 5, 2) := by decide +kernel
theorem dX2_passOn_31 : decode cX2_passOn 31 = .ok (.dup, 1) := by decide +kernel
theorem dX2_passOn_32 : decode cX2_passOn 32 = .ok (.getfield 97, 3) := by decide +kernel
theorem dX2_passOn_35 : decode cX2_passOn 35 = .ok (.iconst 1, 1) := by decide +kernel
theorem dX2_passOn_36 : decode cX2_passOn 36 = .ok (.iadd, 1) := by decide +kernel
theorem dX2_passOn_37 : decode cX2_passOn 37 = .ok (.putfield 97, 3) := by decide +kernel
theorem dX2_passOn_40 : decode cX2_passOn 40 = .ok (.aload 5, 2) := by decide +kernel
theorem dX2_passOn_42 : decode cX2_passOn 42 = .ok (.getfield 39, 3) := by decide +kernel
theorem dX2_passOn_45 : decode cX2_passOn 45 = .ok (.iconst 2, 1) := by decide +kernel
theorem dX2_passOn_46 : decode cX2_passOn 46 = .ok (.if_icmp .ne 11, 3) := by decide +kernel
theorem dX2_passOn_49 : decode cX2_passOn 49 = .ok (.aload_n 0, 1) := by decide +kernel
theorem dX2_passOn_50 : decode cX2_passOn 50 = .ok (.iload 4, 2) := by decide +kernel
theorem dX2_passOn_52 : decode cX2_passOn 52 = .ok (.iload_n 3, 1) := by decide +kernel
theorem dX2_passOn_53 : decode cX2_passOn 53 = .ok (.invokevirtual 100, 3) := by decide +kernel
theorem dX2_passOn_56 : decode cX2_passOn 56 = .ok (.return_, 1) := by decide +kernel
theorem dX2_passOn_57 : decode cX2_passOn 57 = .ok (.aload 5, 2) := by decide +kernel
theorem dX2_passOn_59 : decode cX2_passOn 59 = .ok (.iload_n 3, 1) := by decide +kernel
theorem dX2_passOn_60 : decode cX2_passOn 60 = .ok (.invokevirtual 103, 3) := by decide +kernel
theorem dX2_passOn_63 : decode cX2_passOn 63 = .ok (.ifCond .ne 4, 3) := by decide +kernel
theorem dX2_passOn_66 : decode cX2_passOn 66 = .ok (.return_, 1) := by decide +kernel
theorem dX2_passOn_67 : decode cX2_passOn 67 = .ok (.aload 5, 2) := by decide +kernel
theorem dX2_passOn_69 : decode cX2_passOn 69 = .ok (.iload_n 3, 1) := by decide +kernel
theorem dX2_passOn_70 : decode cX2_passOn 70 = .ok (.invokevirtual 106, 3) := by decide +kernel
theorem dX2_passOn_73 : decode cX2_passOn 73 = .ok (.istore_n 3, 1) := by decide +kernel
theorem dX2_passOn_74 : decode cX2_passOn 74 = .ok (.iinc 4 1, 3) := by decide +kernel
theorem dX2_passOn_77 : decode cX2_passOn 77 = .ok (.goto (-72), 3) := by decide +kernel
theorem dX2_passOn_80 : decode cX2_passOn 80 = .ok (.aload_n 0, 1) := by decide +kernel
theorem dX2_passOn_81 : decode cX2_passOn 81 = .ok (.getfield 15, 3) := by decide +kernel
theorem dX2_passOn_84 : decode cX2_passOn 84 = .ok (.iload_n 3, 1) := by decide +kernel
theorem dX2_passOn_85 : decode cX2_passOn 85 = .ok (.invokevirtual 110, 3) := by decide +kernel
theorem dX2_passOn_88 : decode cX2_passOn 88 = .ok (.return_, 1) := by decide +kernel
theorem dX3_init_0 : decode cX3_init 0 = .ok (.aload_n 0, 1) := by decide +kernel
theorem dX3_init_1 : decode cX3_init 1 = .ok (.invokespecial 3, 3) := by decide +kernel
theorem dX3_init_4 : decode cX3_init 4 = .ok (.aload_n 0, 1) := by decide +kernel
theorem dX3_init_5 : decode cX3_init 5 = .ok (.aload_n 1, 1) := by decide +kernel
theorem dX3_init_6 : decode cX3_init 6 = .ok (.putfield 9, 3) := by decide +kernel
theorem dX3_init_9 : decode cX3_init 9 = .ok (.aload_n 0, 1) := by decide +kernel
theorem dX3_init_10 : decode cX3_init 10 = .ok (.bipush 6, 2) := by decide +kernel
theorem dX3_init_12 : decode cX3_init 12 = .ok (.anewarray 15, 3) := by decide +kernel
theorem dX3_init_15 : decode cX3_init 15 = .ok (.putfield 17, 3) := by decide +kernel
theorem dX3_init_18 : decode cX3_init 18 = .ok (.iconst 0, 1) := by decide +kernel
theorem dX3_init_19 : decode cX3_init 19 = .ok (.istore_n 2, 1) := by decide +kernel
theorem dX3_init_20 : decode cX3_init 20 = .ok (.iload_n 2, 1) := by decide +kernel
theorem dX3_init_21 : decode cX3_init 21 = .ok (.bipush 6, 2) := by decide +kernel
theorem dX3_init_23 : decode cX3_init 23 = .ok (.if_icmp .ge 22, 3) := by decide +kernel
theorem dX3_init_26 : decode cX3_init 26 = .ok (.aload_n 0, 1) := by decide +kernel
theorem dX3_init_27 : decode cX3_init 27 = .ok (.getfield 17, 3) := by decide +kernel
theorem dX3_init_30 : decode cX3_init 30 = .ok (.iload_n 2, 1) := by decide +kernel
theorem dX3_init_31 : decode cX3_init 31 = .ok (.new 15, 3) := by decide +kernel
theorem dX3_init_34 : decode cX3_init 34 = .ok (.dup, 1) := by decide +kernel
theorem dX3_init_35 : decode cX3_init 35 = .ok (.invokespecial 21, 3) := by decide +kernel
theorem dX3_init_38 : decode cX3_init 38 = .ok (.aastore, 1) := by decide +kernel
theorem dX3_init_39 : decode cX3_init 39 = .ok (.iinc 2 1, 3) := by decide +kernel
theorem dX3_init_42 : decode cX3_init 42 = .ok (.goto (-22), 3) := by decide +kernel
theorem dX3_init_45 : decode cX3_init 45 = .ok (.return_, 1) := by decide +kernel
theorem dX3_begin_0 : decode cX3_begin 0 = .ok (.aload_n 0, 1) := by decide +kernel
theorem dX3_begin_1 : decode cX3_begin 1 = .ok (.iconst 0, 1) := by decide +kernel
theorem dX3_begin_2 : decode cX3_begin 2 = .ok (.putfield 22, 3) := by decide +kernel
theorem dX3_begin_5 : decode cX3_begin 5 = .ok (.aload_n 0, 1) := by decide +kernel
theorem dX3_begin_6 : decode cX3_begin 6 = .ok (.iconst 1, 1) := by decide +kernel
theorem dX3_begin_7 : decode cX3_begin 7 = .ok (.putfield 26, 3) := by decide +kernel
theorem dX3_begin_10 : decode cX3_begin 10 = .ok (.aload_n 0, 1) := by decide +kernel
theorem dX3_begin_11 : decode cX3_begin 11 = .ok (.iconst 0, 1) := by decide +kernel
theorem dX3_begin_12 : decode cX3_begin 12 = .ok (.putfield 30, 3) := by decide +kernel
theorem dX3_begin_15 : decode cX3_begin 15 = .ok (.return_, 1) := by decide +kernel
theorem dX3_add_0 : decode cX3_add 0 = .ok (.aload_n 0, 1) := by decide +kernel
theorem dX3_add_1 : decode cX3_add 1 = .ok (.getfield 22, 3) := by decide +kernel
theorem dX3_add_4 : decode cX3_add 4 = .ok (.bipush 6, 2) := by decide +kernel
theorem dX3_add_6 : decode cX3_add 6 = .ok (.if_icmp .ge 28, 3) := by decide +kernel
theorem dX3_add_9 : decode cX3_add 9 = .ok (.aload_n 0, 1) := by decide +kernel
theorem dX3_add_10 : decode cX3_add 10 = .ok (.getfield 17, 3) := by decide +kernel
theorem dX3_add_13 : decode cX3_add 13 = .ok (.aload_n 0, 1) := by decide +kernel
theorem dX3_add_14 : decode cX3_add 14 = .ok (.getfield 22, 3) := by decide +kernel
theorem dX3_add_17 : decode cX3_add 17 = .ok (.aaload, 1) := by decide +kernel
theorem dX3_add_18 : decode cX3_add 18 = .ok (.iload_n 1, 1) := by decide +kernel
theorem dX3_add_19 : decode cX3_add 19 = .ok (.iload_n 2, 1) := by decide +kernel
theorem dX3_add_20 : decode cX3_add 20 = .ok (.iload_n 3, 1) := by decide +kernel
theorem dX3_add_21 : decode cX3_add 21 = .ok (.invokevirtual 33, 3) := by decide +kernel
theorem dX3_add_24 : decode cX3_add 24 = .ok (.aload_n 0, 1) := by decide +kernel
theorem dX3_add_25 : decode cX3_add 25 = .ok (.dup, 1) := by decide +kernel
theorem dX3_add_26 : decode cX3_add 26 = .ok (.getfield 22, 3) := by decide +kernel
theorem dX3_add_29 : decode cX3_add 29 = .ok (.iconst 1, 1) := by decide +kernel
theorem dX3_add_30 : decode cX3_add 30 = .ok (.iadd, 1) := by decide +kernel
theorem dX3_add_31 : decode cX3_add 31 = .ok (.putfield 22, 3) := by decide +kernel
theorem dX3_add_34 : decode cX3_add 34 = .ok (.return_, 1) := by decide +kernel
theorem dX3_allFlags_0 : decode cX3_allFlags 0 = .ok (.aload_n 0, 1) := by decide +kernel
theorem dX3_allFlags_1 : decode cX3_allFlags 1 = .ok (.invokevirtual 37, 3) := by decide +kernel
theorem dX3_allFlags_4 : decode cX3_allFlags 4 = .ok (.istore_n 1, 1) := by decide +kernel
theorem dX3_allFlags_5 : decode cX3_allFlags 5 = .ok (.iconst 0, 1) := by decide +kernel
theorem dX3_allFlags_6 : decode cX3_allFlags 6 = .ok (.istore_n 2, 1) := by decide +kernel
theorem dX3_allFlags_7 : decode cX3_allFlags 7 = .ok (.iload_n 2, 1) := by decide +kernel
theorem dX3_allFlags_8 : decode cX3_allFlags 8 = .ok (.aload_n 0, 1) := by decide +kernel
theorem dX3_allFlags_9 : decode cX3_allFlags 9 = .ok (.getfield 22, 3) := by decide +kernel
theorem dX3_allFlags_12 : decode cX3_allFlags 12 = .ok (.if_icmp .ge 20, 3) := by decide +kernel
theorem dX3_allFlags_15 : decode cX3_allFlags 15 = .ok (.aload_n 0, 1) := by decide +kernel
theorem dX3_allFlags_16 : decode cX3_allFlags 16 = .ok (.getfield 17, 3) := by decide +kernel
theorem dX3_allFlags_19 : decode cX3_allFlags 19 = .ok (.iload_n 2, 1) := by decide +kernel
theorem dX3_allFlags_20 : decode cX3_allFlags 20 = .ok (.aaload, 1) := by decide +kernel
theorem dX3_allFlags_21 : decode cX3_allFlags 21 = .ok (.iload_n 1, 1) := by decide +kernel
theorem dX3_allFlags_22 : decode cX3_allFlags 22 = .ok (.invokevirtual 41, 3) := by decide +kernel
theorem dX3_allFlags_25 : decode cX3_allFlags 25 = .ok (.istore_n 1, 1) := by decide +kernel
theorem dX3_allFlags_26 : decode cX3_allFlags 26 = .ok (.iinc 2 1, 3) := by decide +kernel
theorem dX3_allFlags_29 : decode cX3_allFlags 29 = .ok (.goto (-22), 3) := by decide +kernel
theorem dX3_allFlags_32 : decode cX3_allFlags 32 = .ok (.iload_n 1, 1) := by decide +kernel
theorem dX3_allFlags_33 : decode cX3_allFlags 33 = .ok (.ireturn, 1) := by decide +kernel
theorem dX3_sourceFlags_0 : decode cX3_sourceFlags 0 = .ok (.aload_n 0, 1) := by decide +kernel
theorem dX3_sourceFlags_1 : decode cX3_sourceFlags 1 = .ok (.getfield 9, 3) := by decide +kernel
theorem dX3_sourceFlags_4 : decode cX3_sourceFlags 4 = .ok (.getfield 45, 3) := by decide +kernel
theorem dX3_sourceFlags_7 : decode cX3_sourceFlags 7 = .ok (.lookupswitch 30 #[(0, 25), (1, 27)], 25) := by decide +kernel
theorem dX3_sourceFlags_32 : decode cX3_sourceFlags 32 = .ok (.iconst 1, 1) := by decide +kernel
theorem dX3_sourceFlags_33 : decode cX3_sourceFlags 33 = .ok (.ireturn, 1) := by decide +kernel
theorem dX3_sourceFlags_34 : decode cX3_sourceFlags 34 = .ok (.bipush 7, 2) := by decide +kernel
theorem dX3_sourceFlags_36 : decode cX3_sourceFlags 36 = .ok (.ireturn, 1) := by decide +kernel
theorem dX3_sourceFlags_37 : decode cX3_sourceFlags 37 = .ok (.iconst 0, 1) := by decide +kernel
theorem dX3_sourceFlags_38 : decode cX3_sourceFlags 38 = .ok (.ireturn, 1) := by decide +kernel
theorem dX4_init_0 : decode cX4_init 0 = .ok (.aload_n 0, 1) := by decide +kernel
theorem dX4_init_1 : decode cX4_init 1 = .ok (.invokespecial 3, 3) := by decide +kernel
theorem dX4_init_4 : decode cX4_init 4 = .ok (.aload_n 0, 1) := by decide +kernel
theorem dX4_init_5 : decode cX4_init 5 = .ok (.aload_n 1, 1) := by decide +kernel
theorem dX4_init_6 : decode cX4_init 6 = .ok (.putfield 9, 3) := by decide +kernel
theorem dX4_init_9 : decode cX4_init 9 = .ok (.aload_n 0, 1) := by decide +kernel
theorem dX4_init_10 : decode cX4_init 10 = .ok (.aload_n 2, 1) := by decide +kernel
theorem dX4_init_11 : decode cX4_init 11 = .ok (.putfield 15, 3) := by decide +kernel
theorem dX4_init_14 : decode cX4_init 14 = .ok (.aload_n 0, 1) := by decide +kernel
theorem dX4_init_15 : decode cX4_init 15 = .ok (.new 19, 3) := by decide +kernel
theorem dX4_init_18 : decode cX4_init 18 = .ok (.dup, 1) := by decide +kernel
theorem dX4_init_19 : decode cX4_init 19 = .ok (.sipush 600, 3) := by decide +kernel
theorem dX4_init_22 : decode cX4_init 22 = .ok (.invokespecial 21, 3) := by decide +kernel
theorem dX4_init_25 : decode cX4_init 25 = .ok (.putfield 24, 3) := by decide +kernel
theorem dX4_init_28 : decode cX4_init 28 = .ok (.aload_n 0, 1) := by decide +kernel
theorem dX4_init_29 : decode cX4_init 29 = .ok (.new 19, 3) := by decide +kernel
theorem dX4_init_32 : decode cX4_init 32 = .ok (.dup, 1) := by decide +kernel
theorem dX4_init_33 : decode cX4_init 33 = .ok (.sipush 600, 3) := by decide +kernel
theorem dX4_init_36 : decode cX4_init 36 = .ok (.invokespecial 21, 3) := by decide +kernel
theorem dX4_init_39 : decode cX4_init 39 = .ok (.putfield 28, 3) := by decide +kernel
theorem dX4_init_42 : decode cX4_init 42 = .ok (.return_, 1) := by decide +kernel
theorem dX4_comesToEnd_0 : decode cX4_comesToEnd 0 = .ok (.aload_n 0, 1) := by decide +kernel
theorem dX4_comesToEnd_1 : decode cX4_comesToEnd 1 = .ok (.invokevirtual 31, 3) := by decide +kernel
theorem dX4_comesToEnd_4 : decode cX4_comesToEnd 4 = .ok (.iconst 0, 1) := by decide +kernel
theorem dX4_comesToEnd_5 : decode cX4_comesToEnd 5 = .ok (.istore_n 1, 1) := by decide +kernel
theorem dX4_comesToEnd_6 : decode cX4_comesToEnd 6 = .ok (.iload_n 1, 1) := by decide +kernel
theorem dX4_comesToEnd_7 : decode cX4_comesToEnd 7 = .ok (.aload_n 0, 1) := by decide +kernel
theorem dX4_comesToEnd_8 : decode cX4_comesToEnd 8 = .ok (.getfield 9, 3) := by decide +kernel
theorem dX4_comesToEnd_11 : decode cX4_comesToEnd 11 = .ok (.getfield 34, 3) := by decide +kernel
theorem dX4_comesToEnd_14 : decode cX4_comesToEnd 14 = .ok (.if_icmp .ge 38, 3) := by decide +kernel
theorem dX4_comesToEnd_17 : decode cX4_comesToEnd 17 = .ok (.aload_n 0, 1) := by decide +kernel
theorem dX4_comesToEnd_18 : decode cX4_comesToEnd 18 = .ok (.aload_n 0, 1) := by decide +kernel
theorem dX4_comesToEnd_19 : decode cX4_comesToEnd 19 = .ok (.getfield 9, 3) := by decide +kernel
theorem dX4_comesToEnd_22 : decode cX4_comesToEnd 22 = .ok (.getfield 40, 3) := by decide +kernel
theorem dX4_comesToEnd_25 : decode cX4_comesToEnd 25 = .ok (.iload_n 1, 1) := by decide +kernel
theorem dX4_comesToEnd_26 : decode cX4_comesToEnd 26 = .ok (.aaload, 1) := by decide +kernel
theorem dX4_comesToEnd_27 : decode cX4_comesToEnd 27 = .ok (.invokevirtual 44, 3) := by decide +kernel
theorem dX4_comesToEnd_30 : decode cX4_comesToEnd 30 = .ok (.ifCond .ne 5, 3) := by decide +kernel
theorem dX4_comesToEnd_33 : decode cX4_comesToEnd 33 = .ok (.iconst 0, 1) := by decide +kernel
theorem dX4_comesToEnd_34 : decode cX4_comesToEnd 34 = .ok (.ireturn, 1) := by decide +kernel
theorem dX4_comesToEnd_35 : decode cX4_comesToEnd 35 = .ok (.aload_n 0, 1) := by decide +kernel
theorem dX4_comesToEnd_36 : decode cX4_comesToEnd 36 = .ok (.getfield 24, 3) := by decide +kernel
theorem dX4_comesToEnd_39 : decode cX4_comesToEnd 39 = .ok (.aload_n 0, 1) := by decide +kernel
theorem dX4_comesToEnd_40 : decode cX4_comesToEnd 40 = .ok (.getfield 28, 3) := by decide +kernel
theorem dX4_comesToEnd_43 : decode cX4_comesToEnd 43 = .ok (.invokevirtual 48, 3) := by decide +kernel
theorem dX4_comesToEnd_46 : decode cX4_comesToEnd 46 = .ok (.iinc 1 1, 3) := by decide +kernel
theorem dX4_comesToEnd_49 : decode cX4_comesToEnd 49 = .ok (.goto (-43), 3) := by decide +kernel
theorem dX4_comesToEnd_52 : decode cX4_comesToEnd 52 = .ok (.iconst 0, 1) := by decide +kernel
theorem dX4_comesToEnd_53 : decode cX4_comesToEnd 53 = .ok (.istore_n 1, 1) := by decide +kernel
theorem dX4_comesToEnd_54 : decode cX4_comesToEnd 54 = .ok (.iload_n 1, 1) := by decide +kernel
theorem dX4_comesToEnd_55 : decode cX4_comesToEnd 55 = .ok (.aload_n 0, 1) := by decide +kernel
theorem dX4_comesToEnd_56 : decode cX4_comesToEnd 56 = .ok (.getfield 24, 3) := by decide +kernel
theorem dX4_comesToEnd_59 : decode cX4_comesToEnd 59 = .ok (.getfield 52, 3) := by decide +kernel
theorem dX4_comesToEnd_62 : decode cX4_comesToEnd 62 = .ok (.if_icmp .ge 25, 3) := by decide +kernel
theorem dX4_comesToEnd_65 : decode cX4_comesToEnd 65 = .ok (.aload_n 0, 1) := by decide +kernel
theorem dX4_comesToEnd_66 : decode cX4_comesToEnd 66 = .ok (.getfield 15, 3) := by decide +kernel
theorem dX4_comesToEnd_69 : decode cX4_comesToEnd 69 = .ok (.aload_n 0, 1) := by decide +kernel
theorem dX4_comesToEnd_70 : decode cX4_comesToEnd 70 = .ok (.getfield 24, 3) := by decide +kernel
theorem dX4_comesToEnd_73 : decode cX4_comesToEnd 73 = .ok (.getfield 55, 3) := by decide +kernel
theorem dX4_comesToEnd_76 : decode cX4_comesToEnd 76 = .ok (.iload_n 1, 1) := by decide +kernel
theorem dX4_comesToEnd_77 : decode cX4_comesToEnd 77 = .ok (.iaload, 1) := by decide +kernel
theorem dX4_comesToEnd_78 : decode cX4_comesToEnd 78 = .ok (.invokevirtual 59, 3) := by decide +kernel
theorem dX4_comesToEnd_81 : decode cX4_comesToEnd 81 = .ok (.iinc 1 1, 3) := by decide +kernel
theorem dX4_comesToEnd_84 : decode cX4_comesToEnd 84 = .ok (.goto (-30), 3) := by decide +kernel
theorem dX4_comesToEnd_87 : decode cX4_comesToEnd 87 = .ok (.iconst 1, 1) := by decide +kernel
theorem dX4_comesToEnd_88 : decode cX4_comesToEnd 88 = .ok (.ireturn, 1) := by decide +kernel
theorem dX4_takeSource_0 : decode cX4_takeSource 0 = .ok (.aload_n 0, 1) := by decide +kernel
theorem dX4_takeSource_1 : decode cX4_takeSource 1 = .ok (.getfield 24, 3) := by decide +kernel
theorem dX4_takeSource_4 : decode cX4_takeSource 4 = .ok (.invokevirtual 64, 3) := by decide +kernel
theorem dX4_takeSource_7 : decode cX4_takeSource 7 = .ok (.iconst 0, 1) := by decide +kernel
theorem dX4_takeSource_8 : decode cX4_takeSource 8 = .ok (.istore_n 1, 1) := by decide +kernel
theorem dX4_takeSource_9 : decode cX4_takeSource 9 = .ok (.iload_n 1, 1) := by decide +kernel
theorem dX4_takeSource_10 : decode cX4_takeSource 10 = .ok (.bipush 40, 2) := by decide +kernel
theorem dX4_takeSource_12 : decode cX4_takeSource 12 = .ok (.if_icmp .ge 39, 3) := by decide +kernel
theorem dX4_takeSource_15 : decode cX4_takeSource 15 = .ok (.aload_n 0, 1) := by decide +kernel
theorem dX4_takeSource_16 : decode cX4_takeSource 16 = .ok (.getfield 9, 3) := by decide +kernel
theorem dX4_takeSource_19 : decode cX4_takeSource 19 = .ok (.getfield 67, 3) := by decide +kernel
theorem dX4_takeSource_22 : decode cX4_takeSource 22 = .ok (.invokevirtual 71, 3) := by decide +kernel
theorem dX4_takeSource_25 : decode cX4_takeSource 25 = .ok (.ifCond .eq 26, 3) := by decide +kernel
theorem dX4_takeSource_28 : decode cX4_takeSource 28 = .ok (.aload_n 0, 1) := by decide +kernel
theorem dX4_takeSource_29 : decode cX4_takeSource 29 = .ok (.getfield 24, 3) := by decide +kernel
theorem dX4_takeSource_32 : decode cX4_takeSource 32 = .ok (.aload_n 0, 1) := by decide +kernel
theorem dX4_takeSource_33 : decode cX4_takeSource 33 = .ok (.getfield 9, 3) := by decide +kernel
theorem dX4_takeSource_36 : decode cX4_takeSource 36 = .ok (.getfield 67, 3) := by decide +kernel
theorem dX4_takeSource_39 : decode cX4_takeSource 39 = .ok (.invokevirtual 77, 3) := by decide +kernel
theorem dX4_takeSource_42 : decode cX4_takeSource 42 = .ok (.invokevirtual 81, 3) := by decide +kernel
theorem dX4_takeSource_45 : decode cX4_takeSource 45 = .ok (.iinc 1 1, 3) := by decide +kernel
theorem dX4_takeSource_48 : decode cX4_takeSource 48 = .ok (.goto (-39), 3) := by decide +kernel
theorem dX4_takeSource_51 : decode cX4_takeSource 51 = .ok (.return_, 1) := by decide +kernel
theorem dX4_workOn_0 : decode cX4_workOn 0 = .ok (.aload_n 0, 1) := by decide +kernel
theorem dX4_workOn_1 : decode cX4_workOn 1 = .ok (.getfield 28, 3) := by decide +kernel
theorem dX4_workOn_4 : decode cX4_workOn 4 = .ok (.invokevirtual 64, 3) := by decide +kernel
theorem dX4_workOn_7 : decode cX4_workOn 7 = .ok (.iconst 0, 1) := by decide +kernel
theorem dX4_workOn_8 : decode cX4_workOn 8 = .ok (.istore_n 2, 1) := by decide +kernel
theorem dX4_workOn_9 : decode cX4_workOn 9 = .ok (.iload_n 2, 1) := by decide +kernel
theorem dX4_workOn_10 : decode cX4_workOn 10 = .ok (.aload_n 0, 1) := by decide +kernel
theorem dX4_workOn_11 : decode cX4_workOn 11 = .ok (.getfield 24, 3) := by decide +kernel
theorem dX4_workOn_14 : decode cX4_workOn 14 = .ok (.getfield 52, 3) := by decide +kernel
theorem dX4_workOn_17 : decode cX4_workOn 17 = .ok (.if_icmp .ge 85, 3) := by decide +kernel
theorem dX4_workOn_20 : decode cX4_workOn 20 = .ok (.aload_n 1, 1) := by decide +kernel
theorem dX4_workOn_21 : decode cX4_workOn 21 = .ok (.dup, 1) := by decide +kernel
theorem dX4_workOn_22 : decode cX4_workOn 22 = .ok (.getfield 84, 3) := by decide +kernel
theorem dX4_workOn_25 : decode cX4_workOn 25 = .ok (.iconst 1, 1) := by decide +kernel
theorem dX4_workOn_26 : decode cX4_workOn 26 = .ok (.iadd, 1) := by decide +kernel
theorem dX4_workOn_27 : decode cX4_workOn 27 = .ok (.putfield 84, 3) := by decide +kernel
theorem dX4_workOn_30 : decode cX4_workOn 30 = .ok (.aload_n 1, 1) := by decide +kernel
theorem dX4_workOn_31 : decode cX4_workOn 31 = .ok (.getfield 89, 3) := by decide +kernel
theorem dX4_workOn_34 : decode cX4_workOn 34 = .ok (.iconst 2, 1) := by decide +kernel
theorem dX4_workOn_35 : decode cX4_workOn 35 = .ok (.if_icmp .ne 25, 3) := by decide +kernel
theorem dX4_workOn_38 : decode cX4_workOn 38 = .ok (.aload_n 0, 1) := by decide +kernel
theorem dX4_workOn_39 : decode cX4_workOn 39 = .ok (.aload_n 0, 1) := by decide +kernel
theorem dX4_workOn_40 : decode cX4_workOn 40 = .ok (.getfield 24, 3) := by decide +kernel
theorem dX4_workOn_43 : decode cX4_workOn 43 = .ok (.getfield 55, 3) := by decide +kernel
theorem dX4_workOn_46 : decode cX4_workOn 46 = .ok (.iload_n 2, 1) := by decide +kernel
theorem dX4_workOn_47 : decode cX4_workOn 47 = .ok (.iaload, 1) := by decide +kernel
theorem dX4_workOn_48 : decode cX4_workOn 48 = .ok (.aload_n 1, 1) := by decide +kernel
theorem dX4_workOn_49 : decode cX4_workOn 49 = .ok (.getfield 92, 3) := by decide +kernel
theorem dX4_workOn_52 : decode cX4_workOn 52 = .ok (.invokevirtual 95, 3) := by decide +kernel
theorem dX4_workOn_55 : decode cX4_workOn 55 = .ok (.ifCond .ne 41, 3) := by decide +kernel
theorem dX4_workOn_58 : decode cX4_workOn 58 = .ok (.iconst 0, 1) := by decide +kernel
theorem dX4_workOn_59 : decode cX4_workOn 59 = .ok (.ireturn, 1) := by decide +kernel
theorem dX4_workOn_60 : decode cX4_workOn 60 = .ok (.aload_n 1, 1) := by decide +kernel
theorem dX4_workOn_61 : decode cX4_workOn 61 = .ok (.aload_n 0, 1) := by decide +kernel
theorem dX4_workOn_62 : decode cX4_workOn 62 = .ok (.getfield 24, 3) := by decide +kernel
theorem dX4_workOn_65 : decode cX4_workOn 65 = .ok (.getfield 55, 3) := by decide +kernel
theorem dX4_workOn_68 : decode cX4_workOn 68 = .ok (.iload_n 2, 1) := by decide +kernel
theorem dX4_workOn_69 : decode cX4_workOn 69 = .ok (.iaload, 1) := by decide +kernel
theorem dX4_workOn_70 : decode cX4_workOn 70 = .ok (.invokevirtual 99, 3) := by decide +kernel
theorem dX4_workOn_73 : decode cX4_workOn 73 = .ok (.ifCond .eq 23, 3) := by decide +kernel
theorem dX4_workOn_76 : decode cX4_workOn 76 = .ok (.aload_n 0, 1) := by decide +kernel
theorem dX4_workOn_77 : decode cX4_workOn 77 = .ok (.getfield 28, 3) := by decide +kernel
theorem dX4_workOn_80 : decode cX4_workOn 80 = .ok (.aload_n 1, 1) := by decide +kernel
theorem dX4_workOn_81 : decode cX4_workOn 81 = .ok (.aload_n 0, 1) := by decide +kernel
theorem dX4_workOn_82 : decode cX4_workOn 82 = .ok (.getfield 24, 3) := by decide +kernel
theorem dX4_workOn_85 : decode cX4_workOn 85 = .ok (.getfield 55, 3) := by decide +kernel
theorem dX4_workOn_88 : decode cX4_workOn 88 = .ok (.iload_n 2, 1) := by decide +kernel
theorem dX4_workOn_89 : decode cX4_workOn 89 = .ok (.iaload, 1) := by decide +kernel
theorem dX4_workOn_90 : decode cX4_workOn 90 = .ok (.invokevirtual 103, 3) := by decide +kernel
theorem dX4_workOn_93 : decode cX4_workOn 93 = .ok (.invokevirtual 81, 3) := by decide +kernel
theorem dX4_workOn_96 : decode cX4_workOn 96 = .ok (.iinc 2 1, 3) := by decide +kernel
theorem dX4_workOn_99 : decode cX4_workOn 99 = .ok (.goto (-90), 3) := by decide +kernel
theorem dX4_workOn_102 : decode cX4_workOn 102 = .ok (.aload_n 1, 1) := by decide +kernel
theorem dX4_workOn_103 : decode cX4_workOn 103 = .ok (.getfield 89, 3) := by decide +kernel
theorem dX4_workOn_106 : decode cX4_workOn 106 = .ok (.iconst 4, 1) := by decide +kernel
theorem dX4_workOn_107 : decode cX4_workOn 107 = .ok (.if_icmp .ne 14, 3) := by decide +kernel
theorem dX4_workOn_110 : decode cX4_workOn 110 = .ok (.aload_n 0, 1) := by decide +kernel
theorem dX4_workOn_111 : decode cX4_workOn 111 = .ok (.getfield 28, 3) := by decide +kernel
theorem dX4_workOn_114 : decode cX4_workOn 114 = .ok (.aload_n 1, 1) := by decide +kernel
theorem dX4_workOn_115 : decode cX4_workOn 115 = .ok (.getfield 107, 3) := by decide +kernel
theorem dX4_workOn_118 : decode cX4_workOn 118 = .ok (.invokevirtual 48, 3) := by decide +kernel
theorem dX4_workOn_121 : decode cX4_workOn 121 = .ok (.iconst 1, 1) := by decide +kernel
theorem dX4_workOn_122 : decode cX4_workOn 122 = .ok (.ireturn, 1) := by decide +kernel
theorem dX4_letFlat_0 : decode cX4_letFlat 0 = .ok (.iconst 0, 1) := by decide +kernel
theorem dX4_letFlat_1 : decode cX4_letFlat 1 = .ok (.istore_n 3, 1) := by decide +kernel
theorem dX4_letFlat_2 : decode cX4_letFlat 2 = .ok (.iload_n 3, 1) := by decide +kernel
theorem dX4_letFlat_3 : decode cX4_letFlat 3 = .ok (.iload_n 2, 1) := by decide +kernel
theorem dX4_letFlat_4 : decode cX4_letFlat 4 = .ok (.if_icmp .ge 31, 3) := by decide +kernel
theorem dX4_letFlat_7 : decode cX4_letFlat 7 = .ok (.aload_n 0, 1) := by decide +kernel
theorem dX4_letFlat_8 : decode cX4_letFlat 8 = .ok (.getfield 28, 3) := by decide +kernel
theorem dX4_letFlat_11 : decode cX4_letFlat 11 = .ok (.invokevirtual 110, 3) := by decide +kernel
theorem dX4_letFlat_14 : decode cX4_letFlat 14 = .ok (.ifCond .eq 5, 3) := by decide +kernel
theorem dX4_letFlat_17 : decode cX4_letFlat 17 = .ok (.iconst 0, 1) := by decide +kernel
theorem dX4_letFlat_18 : decode cX4_letFlat 18 = .ok (.ireturn, 1) := by decide +kernel
theorem dX4_letFlat_19 : decode cX4_letFlat 19 = .ok (.aload_n 0, 1) := by decide +kernel
theorem dX4_letFlat_20 : decode cX4_letFlat 20 = .ok (.getfield 28, 3) := by decide +kernel
theorem dX4_letFlat_23 : decode cX4_letFlat 23 = .ok (.iload_n 1, 1) := by decide +kernel
theorem dX4_letFlat_24 : decode cX4_letFlat 24 = .ok (.iload_n 3, 1) := by decide +kernel
theorem dX4_letFlat_25 : decode cX4_letFlat 25 = .ok (.iadd, 1) := by decide +kernel
theorem dX4_letFlat_26 : decode cX4_letFlat 26 = .ok (.invokevirtual 81, 3) := by decide +kernel
theorem dX4_letFlat_29 : decode cX4_letFlat 29 = .ok (.iinc 3 1, 3) := by decide +kernel
theorem dX4_letFlat_32 : decode cX4_letFlat 32 = .ok (.goto (-30), 3) := by decide +kernel
theorem dX4_letFlat_35 : decode cX4_letFlat 35 = .ok (.iconst 1, 1) := by decide +kernel
theorem dX4_letFlat_36 : decode cX4_letFlat 36 = .ok (.ireturn, 1) := by decide +kernel
theorem dX5_init_0 : decode cX5_init 0 = .ok (.aload_n 0, 1) := by decide +kernel
theorem dX5_init_1 : decode cX5_init 1 = .ok (.invokespecial 1, 3) := by decide +kernel
theorem dX5_init_4 : decode cX5_init 4 = .ok (.aload_n 0, 1) := by decide +kernel
theorem dX5_init_5 : decode cX5_init 5 = .ok (.iload_n 1, 1) := by decide +kernel
theorem dX5_init_6 : decode cX5_init 6 = .ok (.newarray .int, 2) := by decide +kernel
theorem dX5_init_8 : decode cX5_init 8 = .ok (.putfield 7, 3) := by decide +kernel
theorem dX5_init_11 : decode cX5_init 11 = .ok (.return_, 1) := by decide +kernel
theorem dX5_isFull_0 : decode cX5_isFull 0 = .ok (.aload_n 0, 1) := by decide +kernel
theorem dX5_isFull_1 : decode cX5_isFull 1 = .ok (.getfield 13, 3) := by decide +kernel
theorem dX5_isFull_4 : decode cX5_isFull 4 = .ok (.aload_n 0, 1) := by decide +kernel
theorem dX5_isFull_5 : decode cX5_isFull 5 = .ok (.getfield 7, 3) := by decide +kernel
theorem dX5_isFull_8 : decode cX5_isFull 8 = .ok (.arraylength, 1) := by decide +kernel
theorem dX5_isFull_9 : decode cX5_isFull 9 = .ok (.if_icmp .ne 7, 3) := by decide +kernel
theorem dX5_isFull_12 : decode cX5_isFull 12 = .ok (.iconst 1, 1) := by decide +kernel
theorem dX5_isFull_13 : decode cX5_isFull 13 = .ok (.goto 4, 3) := by decide +kernel
theorem dX5_isFull_16 : decode cX5_isFull 16 = .ok (.iconst 0, 1) := by decide +kernel
theorem dX5_isFull_17 : decode cX5_isFull 17 = .ok (.ireturn, 1) := by decide +kernel
theorem dX5_clear_0 : decode cX5_clear 0 = .ok (.aload_n 0, 1) := by decide +kernel
theorem dX5_clear_1 : decode cX5_clear 1 = .ok (.iconst 0, 1) := by decide +kernel
theorem dX5_clear_2 : decode cX5_clear 2 = .ok (.putfield 13, 3) := by decide +kernel
theorem dX5_clear_5 : decode cX5_clear 5 = .ok (.return_, 1) := by decide +kernel
theorem dX5_add_0 : decode cX5_add 0 = .ok (.aload_n 0, 1) := by decide +kernel
theorem dX5_add_1 : decode cX5_add 1 = .ok (.aload_n 0, 1) := by decide +kernel
theorem dX5_add_2 : decode cX5_add 2 = .ok (.getfield 13, 3) := by decide +kernel
theorem dX5_add_5 : decode cX5_add 5 = .ok (.iload_n 1, 1) := by decide +kernel
theorem dX5_add_6 : decode cX5_add 6 = .ok (.invokevirtual 17, 3) := by decide +kernel
theorem dX5_add_9 : decode cX5_add 9 = .ok (.return_, 1) := by decide +kernel
theorem dX5_insertAscending_0 : decode cX5_insertAscending 0 = .ok (.aload_n 0, 1) := by decide +kernel
theorem dX5_insertAscending_1 : decode cX5_insertAscending 1 = .ok (.aload_n 0, 1) := by decide +kernel
theorem dX5_insertAscending_2 : decode cX5_insertAscending 2 = .ok (.iload_n 1, 1) := by decide +kernel
theorem dX5_insertAscending_3 : decode cX5_insertAscending 3 = .ok (.invokevirtual 21, 3) := by decide +kernel
theorem dX5_insertAscending_6 : decode cX5_insertAscending 6 = .ok (.iload_n 1, 1) := by decide +kernel
theorem dX5_insertAscending_7 : decode cX5_insertAscending 7 = .ok (.invokevirtual 17, 3) := by decide +kernel
theorem dX5_insertAscending_10 : decode cX5_insertAscending 10 = .ok (.return_, 1) := by decide +kernel
theorem dX5_insertIfNew_0 : decode cX5_insertIfNew 0 = .ok (.aload_n 0, 1) := by decide +kernel
theorem dX5_insertIfNew_1 : decode cX5_insertIfNew 1 = .ok (.iload_n 1, 1) := by decide +kernel
theorem dX5_insertIfNew_2 : decode cX5_insertIfNew 2 = .ok (.invokevirtual 21, 3) := by decide +kernel
theorem dX5_insertIfNew_5 : decode cX5_insertIfNew 5 = .ok (.istore_n 2, 1) := by decide +kernel
theorem dX5_insertIfNew_6 : decode cX5_insertIfNew 6 = .ok (.iload_n 2, 1) := by decide +kernel
theorem dX5_insertIfNew_7 : decode cX5_insertIfNew 7 = .ok (.aload_n 0, 1) := by decide +kernel
theorem dX5_insertIfNew_8 : decode cX5_insertIfNew 8 = .ok (.getfield 13, 3) := by decide +kernel
theorem dX5_insertIfNew_11 : decode cX5_insertIfNew 11 = .ok (.if_icmp .ge 15, 3) := by decide +kernel
theorem dX5_insertIfNew_14 : decode cX5_insertIfNew 14 = .ok (.aload_n 0, 1) := by decide +kernel
theorem dX5_insertIfNew_15 : decode cX5_insertIfNew 15 = .ok (.getfield 7, 3) := by decide +kernel
theorem dX5_insertIfNew_18 : decode cX5_insertIfNew 18 = .ok (.iload_n 2, 1) := by decide +kernel
theorem dX5_insertIfNew_19 : decode cX5_insertIfNew 19 = .ok (.iaload, 1) := by decide +kernel
theorem dX5_insertIfNew_20 : decode cX5_insertIfNew 20 = .ok (.iload_n 1, 1) := by decide +kernel
theorem dX5_insertIfNew_21 : decode cX5_insertIfNew 21 = .ok (.if_icmp .ne 5, 3) := by decide +kernel
theorem dX5_insertIfNew_24 : decode cX5_insertIfNew 24 = .ok (.iconst 0, 1) := by decide +kernel
theorem dX5_insertIfNew_25 : decode cX5_insertIfNew 25 = .ok (.ireturn, 1) := by decide +kernel
theorem dX5_insertIfNew_26 : decode cX5_insertIfNew 26 = .ok (.aload_n 0, 1) := by decide +kernel
theorem dX5_insertIfNew_27 : decode cX5_insertIfNew 27 = .ok (.iload_n 2, 1) := by decide +kernel
theorem dX5_insertIfNew_28 : decode cX5_insertIfNew 28 = .ok (.iload_n 1, 1) := by decide +kernel
theorem dX5_insertIfNew_29 : decode cX5_insertIfNew 29 = .ok (.invokevirtual 17, 3) := by decide +kernel
theorem dX5_insertIfNew_32 : decode cX5_insertIfNew 32 = .ok (.iconst 1, 1) := by decide +kernel
theorem dX5_insertIfNew_33 : decode cX5_insertIfNew 33 = .ok (.ireturn, 1) := by decide +kernel
theorem dX5_copyFrom_0 : decode cX5_copyFrom 0 = .ok (.aload_n 0, 1) := by decide +kernel
theorem dX5_copyFrom_1 : decode cX5_copyFrom 1 = .ok (.invokevirtual 25, 3) := by decide +kernel
theorem dX5_copyFrom_4 : decode cX5_copyFrom 4 = .ok (.iconst 0, 1) := by decide +kernel
theorem dX5_copyFrom_5 : decode cX5_copyFrom 5 = .ok (.istore_n 2, 1) := by decide +kernel
theorem dX5_copyFrom_6 : decode cX5_copyFrom 6 = .ok (.iload_n 2, 1) := by decide +kernel
theorem dX5_copyFrom_7 : decode cX5_copyFrom 7 = .ok (.aload_n 1, 1) := by decide +kernel
theorem dX5_copyFrom_8 : decode cX5_copyFrom 8 = .ok (.getfield 13, 3) := by decide +kernel
theorem dX5_copyFrom_11 : decode cX5_copyFrom 11 = .ok (.if_icmp .ge 19, 3) := by decide +kernel
theorem dX5_copyFrom_14 : decode cX5_copyFrom 14 = .ok (.aload_n 0, 1) := by decide +kernel
theorem dX5_copyFrom_15 : decode cX5_copyFrom 15 = .ok (.aload_n 1, 1) := by decide +kernel
theorem dX5_copyFrom_16 : decode cX5_copyFrom 16 = .ok (.getfield 7, 3) := by decide +kernel
theorem dX5_copyFrom_19 : decode cX5_copyFrom 19 = .ok (.iload_n 2, 1) := by decide +kernel
theorem dX5_copyFrom_20 : decode cX5_copyFrom 20 = .ok (.iaload, 1) := by decide +kernel
theorem dX5_copyFrom_21 : decode cX5_copyFrom 21 = .ok (.invokevirtual 28, 3) := by decide +kernel
theorem dX5_copyFrom_24 : decode cX5_copyFrom 24 = .ok (.iinc 2 1, 3) := by decide +kernel
theorem dX5_copyFrom_27 : decode cX5_copyFrom 27 = .ok (.goto (-21), 3) := by decide +kernel
theorem dX5_copyFrom_30 : decode cX5_copyFrom 30 = .ok (.return_, 1) := by decide +kernel
theorem dX5_insertAt_0 : decode cX5_insertAt 0 = .ok (.aload_n 0, 1) := by decide +kernel
theorem dX5_insertAt_1 : decode cX5_insertAt 1 = .ok (.invokevirtual 32, 3) := by decide +kernel
theorem dX5_insertAt_4 : decode cX5_insertAt 4 = .ok (.ifCond .eq 4, 3) := by decide +kernel
theorem dX5_insertAt_7 : decode cX5_insertAt 7 = .ok (.return_, 1) := by decide +kernel
theorem dX5_insertAt_8 : decode cX5_insertAt 8 = .ok (.aload_n 0, 1) := by decide +kernel
theorem dX5_insertAt_9 : decode cX5_insertAt 9 = .ok (.getfield 7, 3) := by decide +kernel
theorem dX5_insertAt_12 : decode cX5_insertAt 12 = .ok (.iload_n 1, 1) := by decide +kernel
theorem dX5_insertAt_13 : decode cX5_insertAt 13 = .ok (.aload_n 0, 1) := by decide +kernel
theorem dX5_insertAt_14 : decode cX5_insertAt 14 = .ok (.getfield 7, 3) := by decide +kernel
theorem dX5_insertAt_17 : decode cX5_insertAt 17 = .ok (.iload_n 1, 1) := by decide +kernel
theorem dX5_insertAt_18 : decode cX5_insertAt 18 = .ok (.iconst 1, 1) := by decide +kernel
theorem dX5_insertAt_19 : decode cX5_insertAt 19 = .ok (.iadd, 1) := by decide +kernel
theorem dX5_insertAt_20 : decode cX5_insertAt 20 = .ok (.aload_n 0, 1) := by decide +kernel
theorem dX5_insertAt_21 : decode cX5_insertAt 21 = .ok (.getfield 13, 3) := by decide +kernel
theorem dX5_insertAt_24 : decode cX5_insertAt 24 = .ok (.iload_n 1, 1) := by decide +kernel
theorem dX5_insertAt_25 : decode cX5_insertAt 25 = .ok (.isub, 1) := by decide +kernel
theorem dX5_insertAt_26 : decode cX5_insertAt 26 = .ok (.invokestatic 36, 3) := by decide +kernel
theorem dX5_insertAt_29 : decode cX5_insertAt 29 = .ok (.aload_n 0, 1) := by decide +kernel
theorem dX5_insertAt_30 : decode cX5_insertAt 30 = .ok (.getfield 7, 3) := by decide +kernel
theorem dX5_insertAt_33 : decode cX5_insertAt 33 = .ok (.iload_n 1, 1) := by decide +kernel
theorem dX5_insertAt_34 : decode cX5_insertAt 34 = .ok (.iload_n 2, 1) := by decide +kernel
theorem dX5_insertAt_35 : decode cX5_insertAt 35 = .ok (.iastore, 1) := by decide +kernel
theorem dX5_insertAt_36 : decode cX5_insertAt 36 = .ok (.aload_n 0, 1) := by decide +kernel
theorem dX5_insertAt_37 : decode cX5_insertAt 37 = .ok (.dup, 1) := by decide +kernel
theorem dX5_insertAt_38 : decode cX5_insertAt 38 = .ok (.getfield 13, 3) := by decide +kernel
theorem dX5_insertAt_41 : decode cX5_insertAt 41 = .ok (.iconst 1, 1) := by decide +kernel
theorem dX5_insertAt_42 : decode cX5_insertAt 42 = .ok (.iadd, 1) := by decide +kernel
theorem dX5_insertAt_43 : decode cX5_insertAt 43 = .ok (.putfield 13, 3) := by decide +kernel
theorem dX5_insertAt_46 : decode cX5_insertAt 46 = .ok (.return_, 1) := by decide +kernel
theorem dX5_placeAscending_0 : decode cX5_placeAscending 0 = .ok (.iconst 0, 1) := by decide +kernel
theorem dX5_placeAscending_1 : decode cX5_placeAscending 1 = .ok (.istore_n 2, 1) := by decide +kernel
theorem dX5_placeAscending_2 : decode cX5_placeAscending 2 = .ok (.aload_n 0, 1) := by decide +kernel
theorem dX5_placeAscending_3 : decode cX5_placeAscending 3 = .ok (.getfield 13, 3) := by decide +kernel
theorem dX5_placeAscending_6 : decode cX5_placeAscending 6 = .ok (.istore_n 3, 1) := by decide +kernel
theorem dX5_placeAscending_7 : decode cX5_placeAscending 7 = .ok (.iload_n 3, 1) := by decide +kernel
theorem dX5_placeAscending_8 : decode cX5_placeAscending 8 = .ok (.ifCond .le 44, 3) := by decide +kernel
theorem dX5_placeAscending_11 : decode cX5_placeAscending 11 = .ok (.iload_n 3, 1) := by decide +kernel
theorem dX5_placeAscending_12 : decode cX5_placeAscending 12 = .ok (.iconst 2, 1) := by decide +kernel
theorem dX5_placeAscending_13 : decode cX5_placeAscending 13 = .ok (.idiv, 1) := by decide +kernel
theorem dX5_placeAscending_14 : decode cX5_placeAscending 14 = .ok (.istore 4, 2) := by decide +kernel
theorem dX5_placeAscending_16 : decode cX5_placeAscending 16 = .ok (.aload_n 0, 1) := by decide +kernel
theorem dX5_placeAscending_17 : decode cX5_placeAscending 17 = .ok (.getfield 7, 3) := by decide +kernel
theorem dX5_placeAscending_20 : decode cX5_placeAscending 20 = .ok (.iload_n 2, 1) := by decide +kernel
theorem dX5_placeAscending_21 : decode cX5_placeAscending 21 = .ok (.iload 4, 2) := by decide +kernel
theorem dX5_placeAscending_23 : decode cX5_placeAscending 23 = .ok (.iadd, 1) := by decide +kernel
theorem dX5_placeAscending_24 : decode cX5_placeAscending 24 = .ok (.iaload, 1) := by decide +kernel
theorem dX5_placeAscending_25 : decode cX5_placeAscending 25 = .ok (.iload_n 1, 1) := by decide +kernel
theorem dX5_placeAscending_26 : decode cX5_placeAscending 26 = .ok (.if_icmp .ge 20, 3) := by decide +kernel
theorem dX5_placeAscending_29 : decode cX5_placeAscending 29 = .ok (.iload_n 2, 1) := by decide +kernel
theorem dX5_placeAscending_30 : decode cX5_placeAscending 30 = .ok (.iload 4, 2) := by decide +kernel
theorem dX5_placeAscending_32 : decode cX5_placeAscending 32 = .ok (.iconst 1, 1) := by decide +kernel
theorem dX5_placeAscending_33 : decode cX5_placeAscending 33 = .ok (.iadd, 1) := by decide +kernel
theorem dX5_placeAscending_34 : decode cX5_placeAscending 34 = .ok (.iadd, 1) := by decide +kernel
theorem dX5_placeAscending_35 : decode cX5_placeAscending 35 = .ok (.istore_n 2, 1) := by decide +kernel
theorem dX5_placeAscending_36 : decode cX5_placeAscending 36 = .ok (.iload_n 3, 1) := by decide +kernel
theorem dX5_placeAscending_37 : decode cX5_placeAscending 37 = .ok (.iload 4, 2) := by decide +kernel
theorem dX5_placeAscending_39 : decode cX5_placeAscending 39 = .ok (.iconst 1, 1) := by decide +kernel
theorem dX5_placeAscending_40 : decode cX5_placeAscending 40 = .ok (.iadd, 1) := by decide +kernel
theorem dX5_placeAscending_41 : decode cX5_placeAscending 41 = .ok (.isub, 1) := by decide +kernel
theorem dX5_placeAscending_42 : decode cX5_placeAscending 42 = .ok (.istore_n 3, 1) := by decide +kernel
theorem dX5_placeAscending_43 : decode cX5_placeAscending 43 = .ok (.goto 6, 3) := by decide +kernel
theorem dX5_placeAscending_46 : decode cX5_placeAscending 46 = .ok (.iload 4, 2) := by decide +kernel
theorem dX5_placeAscending_48 : decode cX5_placeAscending 48 = .ok (.istore_n 3, 1) := by decide +kernel
theorem dX5_placeAscending_49 : decode cX5_placeAscending 49 = .ok (.goto (-42), 3) := by decide +kernel
theorem dX5_placeAscending_52 : decode cX5_placeAscending 52 = .ok (.iload_n 2, 1) := by decide +kernel
theorem dX5_placeAscending_53 : decode cX5_placeAscending 53 = .ok (.ireturn, 1) := by decide +kernel
theorem dX6_init_0 : decode cX6_init 0 = .ok (.aload_n 0, 1) := by decide +kernel
theorem dX6_init_1 : decode cX6_init 1 = .ok (.invokespecial 3, 3) := by decide +kernel
theorem dX6_init_4 : decode cX6_init 4 = .ok (.aload_n 0, 1) := by decide +kernel
theorem dX6_init_5 : decode cX6_init 5 = .ok (.aload_n 1, 1) := by decide +kernel
theorem dX6_init_6 : decode cX6_init 6 = .ok (.putfield 9, 3) := by decide +kernel
theorem dX6_init_9 : decode cX6_init 9 = .ok (.return_, 1) := by decide +kernel
theorem dX6_become_0 : decode cX6_become 0 = .ok (.aload_n 0, 1) := by decide +kernel
theorem dX6_become_1 : decode cX6_become 1 = .ok (.iload_n 1, 1) := by decide +kernel
theorem dX6_become_2 : decode cX6_become 2 = .ok (.putfield 15, 3) := by decide +kernel
theorem dX6_become_5 : decode cX6_become 5 = .ok (.aload_n 0, 1) := by decide +kernel
theorem dX6_become_6 : decode cX6_become 6 = .ok (.iload_n 3, 1) := by decide +kernel
theorem dX6_become_7 : decode cX6_become 7 = .ok (.putfield 19, 3) := by decide +kernel
theorem dX6_become_10 : decode cX6_become 10 = .ok (.aload_n 0, 1) := by decide +kernel
theorem dX6_become_11 : decode cX6_become 11 = .ok (.iload 4, 2) := by decide +kernel
theorem dX6_become_13 : decode cX6_become 13 = .ok (.putfield 22, 3) := by decide +kernel
theorem dX6_become_16 : decode cX6_become 16 = .ok (.aload_n 0, 1) := by decide +kernel
theorem dX6_become_17 : decode cX6_become 17 = .ok (.iconst 0, 1) := by decide +kernel
theorem dX6_become_18 : decode cX6_become 18 = .ok (.putfield 25, 3) := by decide +kernel
theorem dX6_become_21 : decode cX6_become 21 = .ok (.aload_n 0, 1) := by decide +kernel
theorem dX6_become_22 : decode cX6_become 22 = .ok (.iload_n 2, 1) := by decide +kernel
theorem dX6_become_23 : decode cX6_become 23 = .ok (.putfield 28, 3) := by decide +kernel
theorem dX6_become_26 : decode cX6_become 26 = .ok (.return_, 1) := by decide +kernel
theorem dX6_size_0 : decode cX6_size 0 = .ok (.aload_n 0, 1) := by decide +kernel
theorem dX6_size_1 : decode cX6_size 1 = .ok (.getfield 15, 3) := by decide +kernel
theorem dX6_size_4 : decode cX6_size 4 = .ok (.ifCond .ne 13, 3) := by decide +kernel
theorem dX6_size_7 : decode cX6_size 7 = .ok (.aload_n 0, 1) := by decide +kernel
theorem dX6_size_8 : decode cX6_size 8 = .ok (.getfield 9, 3) := by decide +kernel
theorem dX6_size_11 : decode cX6_size 11 = .ok (.getfield 31, 3) := by decide +kernel
theorem dX6_size_14 : decode cX6_size 14 = .ok (.goto 7, 3) := by decide +kernel
theorem dX6_size_17 : decode cX6_size 17 = .ok (.aload_n 0, 1) := by decide +kernel
theorem dX6_size_18 : decode cX6_size 18 = .ok (.getfield 19, 3) := by decide +kernel
theorem dX6_size_21 : decode cX6_size 21 = .ok (.ireturn, 1) := by decide +kernel
theorem dX6_hasMore_0 : decode cX6_hasMore 0 = .ok (.aload_n 0, 1) := by decide +kernel
theorem dX6_hasMore_1 : decode cX6_hasMore 1 = .ok (.getfield 15, 3) := by decide +kernel
theorem dX6_hasMore_4 : decode cX6_hasMore 4 = .ok (.iconst 2, 1) := by decide +kernel
theorem dX6_hasMore_5 : decode cX6_hasMore 5 = .ok (.if_icmp .eq 14, 3) := by decide +kernel
theorem dX6_hasMore_8 : decode cX6_hasMore 8 = .ok (.aload_n 0, 1) := by decide +kernel
theorem dX6_hasMore_9 : decode cX6_hasMore 9 = .ok (.getfield 25, 3) := by decide +kernel
theorem dX6_hasMore_12 : decode cX6_hasMore 12 = .ok (.aload_n 0, 1) := by decide +kernel
theorem dX6_hasMore_13 : decode cX6_hasMore 13 = .ok (.invokevirtual 36, 3) := by decide +kernel
theorem dX6_hasMore_16 : decode cX6_hasMore 16 = .ok (.if_icmp .ge 7, 3) := by decide +kernel
theorem dX6_hasMore_19 : decode cX6_hasMore 19 = .ok (.iconst 1, 1) := by decide +kernel
theorem dX6_hasMore_20 : decode cX6_hasMore 20 = .ok (.goto 4, 3) := by decide +kernel
theorem dX6_hasMore_23 : decode cX6_hasMore 23 = .ok (.iconst 0, 1) := by decide +kernel
theorem dX6_hasMore_24 : decode cX6_hasMore 24 = .ok (.ireturn, 1) := by decide +kernel
theorem dX6_next_0 : decode cX6_next 0 = .ok (.aload_n 0, 1) := by decide +kernel
theorem dX6_next_1 : decode cX6_next 1 = .ok (.getfield 15, 3) := by decide +kernel
theorem dX6_next_4 : decode cX6_next 4 = .ok (.ifCond .ne 18, 3) := by decide +kernel
theorem dX6_next_7 : decode cX6_next 7 = .ok (.aload_n 0, 1) := by decide +kernel
theorem dX6_next_8 : decode cX6_next 8 = .ok (.getfield 9, 3) := by decide +kernel
theorem dX6_next_11 : decode cX6_next 11 = .ok (.getfield 39, 3) := by decide +kernel
theorem dX6_next_14 : decode cX6_next 14 = .ok (.aload_n 0, 1) := by decide +kernel
theorem dX6_next_15 : decode cX6_next 15 = .ok (.getfield 25, 3) := by decide +kernel
theorem dX6_next_18 : decode cX6_next 18 = .ok (.iaload, 1) := by decide +kernel
theorem dX6_next_19 : decode cX6_next 19 = .ok (.goto 7, 3) := by decide +kernel
theorem dX6_next_22 : decode cX6_next 22 = .ok (.aload_n 0, 1) := by decide +kernel
theorem dX6_next_23 : decode cX6_next 23 = .ok (.getfield 28, 3) := by decide +kernel
theorem dX6_next_26 : decode cX6_next 26 = .ok (.istore_n 1, 1) := by decide +kernel
theorem dX6_next_27 : decode cX6_next 27 = .ok (.aload_n 0, 1) := by decide +kernel
theorem dX6_next_28 : decode cX6_next 28 = .ok (.aload_n 0, 1) := by decide +kernel
theorem dX6_next_29 : decode cX6_next 29 = .ok (.getfield 15, 3) := by decide +kernel
theorem dX6_next_32 : decode cX6_next 32 = .ok (.iconst 2, 1) := by decide +kernel
theorem dX6_next_33 : decode cX6_next 33 = .ok (.if_icmp .ne 20, 3) := by decide +kernel
theorem dX6_next_36 : decode cX6_next 36 = .ok (.aload_n 0, 1) := by decide +kernel
theorem dX6_next_37 : decode cX6_next 37 = .ok (.getfield 28, 3) := by decide +kernel
theorem dX6_next_40 : decode cX6_next 40 = .ok (.aload_n 0, 1) := by decide +kernel
theorem dX6_next_41 : decode cX6_next 41 = .ok (.getfield 19, 3) := by decide +kernel
theorem dX6_next_44 : decode cX6_next 44 = .ok (.imul, 1) := by decide +kernel
theorem dX6_next_45 : decode cX6_next 45 = .ok (.aload_n 0, 1) := by decide +kernel
theorem dX6_next_46 : decode cX6_next 46 = .ok (.getfield 22, 3) := by decide +kernel
theorem dX6_next_49 : decode cX6_next 49 = .ok (.iadd, 1) := by decide +kernel
theorem dX6_next_50 : decode cX6_next 50 = .ok (.goto 9, 3) := by decide +kernel
theorem dX6_next_53 : decode cX6_next 53 = .ok (.aload_n 0, 1) := by decide +kernel
theorem dX6_next_54 : decode cX6_next 54 = .ok (.getfield 28, 3) := by decide +kernel
theorem dX6_next_57 : decode cX6_next 57 = .ok (.iconst 1, 1) := by decide +kernel
theorem dX6_next_58 : decode cX6_next 58 = .ok (.iadd, 1) := by decide +kernel
theorem dX6_next_59 : decode cX6_next 59 = .ok (.putfield 28, 3) := by decide +kernel
theorem dX6_next_62 : decode cX6_next 62 = .ok (.aload_n 0, 1) := by decide +kernel
theorem dX6_next_63 : decode cX6_next 63 = .ok (.dup, 1) := by decide +kernel
theorem dX6_next_64 : decode cX6_next 64 = .ok (.getfield 25, 3) := by decide +kernel
theorem dX6_next_67 : decode cX6_next 67 = .ok (.iconst 1, 1) := by decide +kernel
theorem dX6_next_68 : decode cX6_next 68 = .ok (.iadd, 1) := by decide +kernel
theorem dX6_next_69 : decode cX6_next 69 = .ok (.putfield 25, 3) := by decide +kernel
theorem dX6_next_72 : decode cX6_next 72 = .ok (.iload_n 1, 1) := by decide +kernel
theorem dX6_next_73 : decode cX6_next 73 = .ok (.ireturn, 1) := by decide +kernel
theorem dX7_init_0 : decode cX7_init 0 = .ok (.aload_n 0, 1) := by decide +kernel
theorem dX7_init_1 : decode cX7_init 1 = .ok (.invokespecial 3, 3) := by decide +kernel
theorem dX7_init_4 : decode cX7_init 4 = .ok (.aload_n 0, 1) := by decide +kernel
theorem dX7_init_5 : decode cX7_init 5 = .ok (.new 9, 3) := by decide +kernel
