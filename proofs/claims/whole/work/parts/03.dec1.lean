theorem dX3_init_0 : decode cX3_init 0 = .ok (.aload_n 0, 1) := by decide +kernel
theorem dX3_init_1 : decode cX3_init 1 = .ok (.invokespecial 3, 3) := by decide +kernel
theorem dX3_init_4 : decode cX3_init 4 = .ok (.aload_n 0, 1) := by decide +kernel
theorem dX3_init_5 : decode cX3_init 5 = .ok (.iconst 0, 1) := by decide +kernel
theorem dX3_init_6 : decode cX3_init 6 = .ok (.putfield 9, 3) := by decide +kernel
theorem dX3_init_9 : decode cX3_init 9 = .ok (.aload_n 0, 1) := by decide +kernel
theorem dX3_init_10 : decode cX3_init 10 = .ok (.bipush 15, 2) := by decide +kernel
theorem dX3_init_12 : decode cX3_init 12 = .ok (.newarray .int, 2) := by decide +kernel
theorem dX3_init_14 : decode cX3_init 14 = .ok (.putfield 15, 3) := by decide +kernel
theorem dX3_init_17 : decode cX3_init 17 = .ok (.aload_n 0, 1) := by decide +kernel
theorem dX3_init_18 : decode cX3_init 18 = .ok (.bipush 15, 2) := by decide +kernel
theorem dX3_init_20 : decode cX3_init 20 = .ok (.newarray .int, 2) := by decide +kernel
theorem dX3_init_22 : decode cX3_init 22 = .ok (.putfield 19, 3) := by decide +kernel
theorem dX3_init_25 : decode cX3_init 25 = .ok (.aload_n 0, 1) := by decide +kernel
theorem dX3_init_26 : decode cX3_init 26 = .ok (.bipush 15, 2) := by decide +kernel
theorem dX3_init_28 : decode cX3_init 28 = .ok (.newarray .int, 2) := by decide +kernel
theorem dX3_init_30 : decode cX3_init 30 = .ok (.putfield 22, 3) := by decide +kernel
theorem dX3_init_33 : decode cX3_init 33 = .ok (.aload_n 0, 1) := by decide +kernel
theorem dX3_init_34 : decode cX3_init 34 = .ok (.bipush 15, 2) := by decide +kernel
theorem dX3_init_36 : decode cX3_init 36 = .ok (.newarray .int, 2) := by decide +kernel
theorem dX3_init_38 : decode cX3_init 38 = .ok (.putfield 25, 3) := by decide +kernel
theorem dX3_init_41 : decode cX3_init 41 = .ok (.aload_n 0, 1) := by decide +kernel
theorem dX3_init_42 : decode cX3_init 42 = .ok (.bipush 10, 2) := by decide +kernel
theorem dX3_init_44 : decode cX3_init 44 = .ok (.newarray .int, 2) := by decide +kernel
theorem dX3_init_46 : decode cX3_init 46 = .ok (.putfield 28, 3) := by decide +kernel
theorem dX3_init_49 : decode cX3_init 49 = .ok (.return_, 1) := by decide +kernel
theorem dX1_init_0 : decode cX1_init 0 = .ok (.aload_n 0, 1) := by decide +kernel
theorem dX1_init_1 : decode cX1_init 1 = .ok (.invokespecial 3, 3) := by decide +kernel
theorem dX1_init_4 : decode cX1_init 4 = .ok (.aload_n 0, 1) := by decide +kernel
theorem dX1_init_5 : decode cX1_init 5 = .ok (.iconst 0, 1) := by decide +kernel
theorem dX1_init_6 : decode cX1_init 6 = .ok (.putfield 9, 3) := by decide +kernel
theorem dX1_init_9 : decode cX1_init 9 = .ok (.aload_n 0, 1) := by decide +kernel
theorem dX1_init_10 : decode cX1_init 10 = .ok (.bipush 6, 2) := by decide +kernel
theorem dX1_init_12 : decode cX1_init 12 = .ok (.newarray .int, 2) := by decide +kernel
theorem dX1_init_14 : decode cX1_init 14 = .ok (.putfield 15, 3) := by decide +kernel
theorem dX1_init_17 : decode cX1_init 17 = .ok (.aload_n 0, 1) := by decide +kernel
theorem dX1_init_18 : decode cX1_init 18 = .ok (.bipush 6, 2) := by decide +kernel
theorem dX1_init_20 : decode cX1_init 20 = .ok (.newarray .int, 2) := by decide +kernel
theorem dX1_init_22 : decode cX1_init 22 = .ok (.putfield 19, 3) := by decide +kernel
theorem dX1_init_25 : decode cX1_init 25 = .ok (.aload_n 0, 1) := by decide +kernel
theorem dX1_init_26 : decode cX1_init 26 = .ok (.bipush 6, 2) := by decide +kernel
theorem dX1_init_28 : decode cX1_init 28 = .ok (.newarray .int, 2) := by decide +kernel
theorem dX1_init_30 : decode cX1_init 30 = .ok (.putfield 22, 3) := by decide +kernel
theorem dX1_init_33 : decode cX1_init 33 = .ok (.return_, 1) := by decide +kernel
theorem dX0_init_0 : decode cX0_init 0 = .ok (.aload_n 0, 1) := by decide +kernel
theorem dX0_init_1 : decode cX0_init 1 = .ok (.invokespecial 3, 3) := by decide +kernel
theorem dX0_init_4 : decode cX0_init 4 = .ok (.aload_n 0, 1) := by decide +kernel
theorem dX0_init_5 : decode cX0_init 5 = .ok (.iconst 0, 1) := by decide +kernel
theorem dX0_init_6 : decode cX0_init 6 = .ok (.putfield 9, 3) := by decide +kernel
theorem dX0_init_9 : decode cX0_init 9 = .ok (.aload_n 0, 1) := by decide +kernel
theorem dX0_init_10 : decode cX0_init 10 = .ok (.bipush 20, 2) := by decide +kernel
theorem dX0_init_12 : decode cX0_init 12 = .ok (.newarray .int, 2) := by decide +kernel
theorem dX0_init_14 : decode cX0_init 14 = .ok (.putfield 15, 3) := by decide +kernel
theorem dX0_init_17 : decode cX0_init 17 = .ok (.aload_n 0, 1) := by decide +kernel
theorem dX0_init_18 : decode cX0_init 18 = .ok (.bipush 20, 2) := by decide +kernel
theorem dX0_init_20 : decode cX0_init 20 = .ok (.newarray .int, 2) := by decide +kernel
theorem dX0_init_22 : decode cX0_init 22 = .ok (.putfield 19, 3) := by decide +kernel
theorem dX0_init_25 : decode cX0_init 25 = .ok (.aload_n 0, 1) := by decide +kernel
theorem dX0_init_26 : decode cX0_init 26 = .ok (.bipush 20, 2) := by decide +kernel
theorem dX0_init_28 : decode cX0_init 28 = .ok (.newarray .int, 2) := by decide +kernel
theorem dX0_init_30 : decode cX0_init 30 = .ok (.putfield 22, 3) := by decide +kernel
theorem dX0_init_33 : decode cX0_init 33 = .ok (.aload_n 0, 1) := by decide +kernel
theorem dX0_init_34 : decode cX0_init 34 = .ok (.bipush 20, 2) := by decide +kernel
theorem dX0_init_36 : decode cX0_init 36 = .ok (.newarray .int, 2) := by decide +kernel
theorem dX0_init_38 : decode cX0_init 38 = .ok (.putfield 25, 3) := by decide +kernel
theorem dX0_init_41 : decode cX0_init 41 = .ok (.aload_n 0, 1) := by decide +kernel
theorem dX0_init_42 : decode cX0_init 42 = .ok (.bipush 20, 2) := by decide +kernel
theorem dX0_init_44 : decode cX0_init 44 = .ok (.newarray .int, 2) := by decide +kernel
theorem dX0_init_46 : decode cX0_init 46 = .ok (.putfield 28, 3) := by decide +kernel
theorem dX0_init_49 : decode cX0_init 49 = .ok (.aload_n 0, 1) := by decide +kernel
theorem dX0_init_50 : decode cX0_init 50 = .ok (.bipush 20, 2) := by decide +kernel
theorem dX0_init_52 : decode cX0_init 52 = .ok (.bipush 9, 2) := by decide +kernel
theorem dX0_init_54 : decode cX0_init 54 = .ok (.multianewarray 31 2, 4) := by decide +kernel
theorem dX0_init_58 : decode cX0_init 58 = .ok (.putfield 33, 3) := by decide +kernel
theorem dX0_init_61 : decode cX0_init 61 = .ok (.return_, 1) := by decide +kernel
theorem dX2_init_0 : decode cX2_init 0 = .ok (.aload_n 0, 1) := by decide +kernel
theorem dX2_init_1 : decode cX2_init 1 = .ok (.invokespecial 3, 3) := by decide +kernel
theorem dX2_init_4 : decode cX2_init 4 = .ok (.aload_n 0, 1) := by decide +kernel
theorem dX2_init_5 : decode cX2_init 5 = .ok (.aload_n 1, 1) := by decide +kernel
theorem dX2_init_6 : decode cX2_init 6 = .ok (.putfield 9, 3) := by decide +kernel
theorem dX2_init_9 : decode cX2_init 9 = .ok (.aload_n 0, 1) := by decide +kernel
theorem dX2_init_10 : decode cX2_init 10 = .ok (.aload_n 2, 1) := by decide +kernel
theorem dX2_init_11 : decode cX2_init 11 = .ok (.putfield 15, 3) := by decide +kernel
theorem dX2_init_14 : decode cX2_init 14 = .ok (.aload_n 0, 1) := by decide +kernel
theorem dX2_init_15 : decode cX2_init 15 = .ok (.aload_n 3, 1) := by decide +kernel
theorem dX2_init_16 : decode cX2_init 16 = .ok (.putfield 19, 3) := by decide +kernel
theorem dX2_init_19 : decode cX2_init 19 = .ok (.aload_n 0, 1) := by decide +kernel
theorem dX2_init_20 : decode cX2_init 20 = .ok (.bipush 20, 2) := by decide +kernel
theorem dX2_init_22 : decode cX2_init 22 = .ok (.newarray .int, 2) := by decide +kernel
theorem dX2_init_24 : decode cX2_init 24 = .ok (.putfield 23, 3) := by decide +kernel
theorem dX2_init_27 : decode cX2_init 27 = .ok (.aload_n 0, 1) := by decide +kernel
theorem dX2_init_28 : decode cX2_init 28 = .ok (.bipush 15, 2) := by decide +kernel
theorem dX2_init_30 : decode cX2_init 30 = .ok (.newarray .int, 2) := by decide +kernel
theorem dX2_init_32 : decode cX2_init 32 = .ok (.putfield 27, 3) := by decide +kernel
theorem dX2_init_35 : decode cX2_init 35 = .ok (.return_, 1) := by decide +kernel
theorem dX2_climb_0 : decode cX2_climb 0 = .ok (.aload_n 0, 1) := by decide +kernel
theorem dX2_climb_1 : decode cX2_climb 1 = .ok (.getfield 23, 3) := by decide +kernel
theorem dX2_climb_4 : decode cX2_climb 4 = .ok (.iconst 0, 1) := by decide +kernel
theorem dX2_climb_5 : decode cX2_climb 5 = .ok (.invokestatic 30, 3) := by decide +kernel
theorem dX2_climb_8 : decode cX2_climb 8 = .ok (.aload_n 0, 1) := by decide +kernel
theorem dX2_climb_9 : decode cX2_climb 9 = .ok (.getfield 19, 3) := by decide +kernel
theorem dX2_climb_12 : decode cX2_climb 12 = .ok (.getfield 36, 3) := by decide +kernel
theorem dX2_climb_15 : decode cX2_climb 15 = .ok (.ifCond .le 15, 3) := by decide +kernel
theorem dX2_climb_18 : decode cX2_climb 18 = .ok (.aload_n 0, 1) := by decide +kernel
theorem dX2_climb_19 : decode cX2_climb 19 = .ok (.getfield 15, 3) := by decide +kernel
theorem dX2_climb_22 : decode cX2_climb 22 = .ok (.getfield 42, 3) := by decide +kernel
theorem dX2_climb_25 : decode cX2_climb 25 = .ok (.ifCond .ne 5, 3) := by decide +kernel
theorem dX2_climb_28 : decode cX2_climb 28 = .ok (.iconst 0, 1) := by decide +kernel
theorem dX2_climb_29 : decode cX2_climb 29 = .ok (.ireturn, 1) := by decide +kernel
theorem dX2_climb_30 : decode cX2_climb 30 = .ok (.iconst 0, 1) := by decide +kernel
theorem dX2_climb_31 : decode cX2_climb 31 = .ok (.istore_n 2, 1) := by decide +kernel
theorem dX2_climb_32 : decode cX2_climb 32 = .ok (.iload_n 2, 1) := by decide +kernel
theorem dX2_climb_33 : decode cX2_climb 33 = .ok (.bipush 101, 2) := by decide +kernel
theorem dX2_climb_35 : decode cX2_climb 35 = .ok (.if_icmp .ge 33, 3) := by decide +kernel
theorem dX2_climb_38 : decode cX2_climb 38 = .ok (.aload_n 0, 1) := by decide +kernel
theorem dX2_climb_39 : decode cX2_climb 39 = .ok (.invokevirtual 45, 3) := by decide +kernel
theorem dX2_climb_42 : decode cX2_climb 42 = .ok (.aload_n 0, 1) := by decide +kernel
theorem dX2_climb_43 : decode cX2_climb 43 = .ok (.iload_n 1, 1) := by decide +kernel
theorem dX2_climb_44 : decode cX2_climb 44 = .ok (.invokevirtual 48, 3) := by decide +kernel
theorem dX2_climb_47 : decode cX2_climb 47 = .ok (.ifCond .eq 5, 3) := by decide +kernel
theorem dX2_climb_50 : decode cX2_climb 50 = .ok (.iconst 1, 1) := by decide +kernel
theorem dX2_climb_51 : decode cX2_climb 51 = .ok (.ireturn, 1) := by decide +kernel
theorem dX2_climb_52 : decode cX2_climb 52 = .ok (.aload_n 0, 1) := by decide +kernel
theorem dX2_climb_53 : decode cX2_climb 53 = .ok (.iload_n 1, 1) := by decide +kernel
theorem dX2_climb_54 : decode cX2_climb 54 = .ok (.invokevirtual 52, 3) := by decide +kernel
theorem dX2_climb_57 : decode cX2_climb 57 = .ok (.ifCond .ne 5, 3) := by decide +kernel
theorem dX2_climb_60 : decode cX2_climb 60 = .ok (.iconst 0, 1) := by decide +kernel
theorem dX2_climb_61 : decode cX2_climb 61 = .ok (.ireturn, 1) := by decide +kernel
theorem dX2_climb_62 : decode cX2_climb 62 = .ok (.iinc 2 1, 3) := by decide +kernel
theorem dX2_climb_65 : decode cX2_climb 65 = .ok (.goto (-33), 3) := by decide +kernel
theorem dX2_climb_68 : decode cX2_climb 68 = .ok (.iconst 0, 1) := by decide +kernel
theorem dX2_climb_69 : decode cX2_climb 69 = .ok (.ireturn, 1) := by decide +kernel
theorem dJ_fill_0 : decode cJ_fill 0 = .ok (.iconst 0, 1) := by decide +kernel
theorem dJ_fill_1 : decode cJ_fill 1 = .ok (.istore_n 2, 1) := by decide +kernel
theorem dJ_fill_2 : decode cJ_fill 2 = .ok (.aload_n 0, 1) := by decide +kernel
theorem dJ_fill_3 : decode cJ_fill 3 = .ok (.arraylength, 1) := by decide +kernel
theorem dJ_fill_4 : decode cJ_fill 4 = .ok (.istore_n 3, 1) := by decide +kernel
theorem dJ_fill_5 : decode cJ_fill 5 = .ok (.iload_n 2, 1) := by decide +kernel
theorem dJ_fill_6 : decode cJ_fill 6 = .ok (.iload_n 3, 1) := by decide +kernel
theorem dJ_fill_7 : decode cJ_fill 7 = .ok (.if_icmp .ge 13, 3) := by decide +kernel
theorem dJ_fill_10 : decode cJ_fill 10 = .ok (.aload_n 0, 1) := by decide +kernel
theorem dJ_fill_11 : decode cJ_fill 11 = .ok (.iload_n 2, 1) := by decide +kernel
theorem dJ_fill_12 : decode cJ_fill 12 = .ok (.iload_n 1, 1) := by decide +kernel
theorem dJ_fill_13 : decode cJ_fill 13 = .ok (.iastore, 1) := by decide +kernel
theorem dJ_fill_14 : decode cJ_fill 14 = .ok (.iinc 2 1, 3) := by decide +kernel
theorem dJ_fill_17 : decode cJ_fill 17 = .ok (.goto (-12), 3) := by decide +kernel
theorem dJ_fill_20 : decode cJ_fill 20 = .ok (.return_, 1) := by decide +kernel
theorem dX2_fillTrays_0 : decode cX2_fillTrays 0 = .ok (.aload_n 0, 1) := by decide +kernel
theorem dX2_fillTrays_1 : decode cX2_fillTrays 1 = .ok (.getfield 27, 3) := by decide +kernel
theorem dX2_fillTrays_4 : decode cX2_fillTrays 4 = .ok (.iconst 0, 1) := by decide +kernel
theorem dX2_fillTrays_5 : decode cX2_fillTrays 5 = .ok (.invokestatic 30, 3) := by decide +kernel
theorem dX2_fillTrays_8 : decode cX2_fillTrays 8 = .ok (.iconst 0, 1) := by decide +kernel
theorem dX2_fillTrays_9 : decode cX2_fillTrays 9 = .ok (.istore_n 1, 1) := by decide +kernel
theorem dX2_fillTrays_10 : decode cX2_fillTrays 10 = .ok (.iload_n 1, 1) := by decide +kernel
theorem dX2_fillTrays_11 : decode cX2_fillTrays 11 = .ok (.aload_n 0, 1) := by decide +kernel
theorem dX2_fillTrays_12 : decode cX2_fillTrays 12 = .ok (.getfield 19, 3) := by decide +kernel
theorem dX2_fillTrays_15 : decode cX2_fillTrays 15 = .ok (.getfield 36, 3) := by decide +kernel
theorem dX2_fillTrays_18 : decode cX2_fillTrays 18 = .ok (.if_icmp .ge 63, 3) := by decide +kernel
theorem dX2_fillTrays_21 : decode cX2_fillTrays 21 = .ok (.iconst 0, 1) := by decide +kernel
theorem dX2_fillTrays_22 : decode cX2_fillTrays 22 = .ok (.istore_n 2, 1) := by decide +kernel
theorem dX2_fillTrays_23 : decode cX2_fillTrays 23 = .ok (.iload_n 2, 1) := by decide +kernel
theorem dX2_fillTrays_24 : decode cX2_fillTrays 24 = .ok (.aload_n 0, 1) := by decide +kernel
theorem dX2_fillTrays_25 : decode cX2_fillTrays 25 = .ok (.getfield 19, 3) := by decide +kernel
theorem dX2_fillTrays_28 : decode cX2_fillTrays 28 = .ok (.getfield 59, 3) := by decide +kernel
theorem dX2_fillTrays_31 : decode cX2_fillTrays 31 = .ok (.iload_n 1, 1) := by decide +kernel
theorem dX2_fillTrays_32 : decode cX2_fillTrays 32 = .ok (.iaload, 1) := by decide +kernel
theorem dX2_fillTrays_33 : decode cX2_fillTrays 33 = .ok (.if_icmp .ge 42, 3) := by decide +kernel
theorem dX2_fillTrays_36 : decode cX2_fillTrays 36 = .ok (.aload_n 0, 1) := by decide +kernel
theorem dX2_fillTrays_37 : decode cX2_fillTrays 37 = .ok (.getfield 27, 3) := by decide +kernel
theorem dX2_fillTrays_40 : decode cX2_fillTrays 40 = .ok (.aload_n 0, 1) := by decide +kernel
theorem dX2_fillTrays_41 : decode cX2_fillTrays 41 = .ok (.getfield 19, 3) := by decide +kernel
theorem dX2_fillTrays_44 : decode cX2_fillTrays 44 = .ok (.getfield 62, 3) := by decide +kernel
theorem dX2_fillTrays_47 : decode cX2_fillTrays 47 = .ok (.iload_n 1, 1) := by decide +kernel
theorem dX2_fillTrays_48 : decode cX2_fillTrays 48 = .ok (.aaload, 1) := by decide +kernel
theorem dX2_fillTrays_49 : decode cX2_fillTrays 49 = .ok (.iload_n 2, 1) := by decide +kernel
theorem dX2_fillTrays_50 : decode cX2_fillTrays 50 = .ok (.iaload, 1) := by decide +kernel
theorem dX2_fillTrays_51 : decode cX2_fillTrays 51 = .ok (.dup2, 1) := by decide +kernel
theorem dX2_fillTrays_52 : decode cX2_fillTrays 52 = .ok (.iaload, 1) := by decide +kernel
theorem dX2_fillTrays_53 : decode cX2_fillTrays 53 = .ok (.aload_n 0, 1) := by decide +kernel
theorem dX2_fillTrays_54 : decode cX2_fillTrays 54 = .ok (.getfield 15, 3) := by decide +kernel
theorem dX2_fillTrays_57 : decode cX2_fillTrays 57 = .ok (.getfield 66, 3) := by decide +kernel
theorem dX2_fillTrays_60 : decode cX2_fillTrays 60 = .ok (.aload_n 0, 1) := by decide +kernel
theorem dX2_fillTrays_61 : decode cX2_fillTrays 61 = .ok (.getfield 23, 3) := by decide +kernel
theorem dX2_fillTrays_64 : decode cX2_fillTrays 64 = .ok (.iload_n 1, 1) := by decide +kernel
theorem dX2_fillTrays_65 : decode cX2_fillTrays 65 = .ok (.iaload, 1) := by decide +kernel
theorem dX2_fillTrays_66 : decode cX2_fillTrays 66 = .ok (.iaload, 1) := by decide +kernel
theorem dX2_fillTrays_67 : decode cX2_fillTrays 67 = .ok (.iadd, 1) := by decide +kernel
theorem dX2_fillTrays_68 : decode cX2_fillTrays 68 = .ok (.iastore, 1) := by decide +kernel
theorem dX2_fillTrays_69 : decode cX2_fillTrays 69 = .ok (.iinc 2 1, 3) := by decide +kernel
theorem dX2_fillTrays_72 : decode cX2_fillTrays 72 = .ok (.goto (-49), 3) := by decide +kernel
theorem dX2_fillTrays_75 : decode cX2_fillTrays 75 = .ok (.iinc 1 1, 3) := by decide +kernel
theorem dX2_fillTrays_78 : decode cX2_fillTrays 78 = .ok (.goto (-68), 3) := by decide +kernel
theorem dX2_fillTrays_81 : decode cX2_fillTrays 81 = .ok (.iconst 0, 1) := by decide +kernel
theorem dX2_fillTrays_82 : decode cX2_fillTrays 82 = .ok (.istore_n 1, 1) := by decide +kernel
theorem dX2_fillTrays_83 : decode cX2_fillTrays 83 = .ok (.iload_n 1, 1) := by decide +kernel
theorem dX2_fillTrays_84 : decode cX2_fillTrays 84 = .ok (.aload_n 0, 1) := by decide +kernel
theorem dX2_fillTrays_85 : decode cX2_fillTrays 85 = .ok (.getfield 9, 3) := by decide +kernel
theorem dX2_fillTrays_88 : decode cX2_fillTrays 88 = .ok (.getfield 69, 3) := by decide +kernel
theorem dX2_fillTrays_91 : decode cX2_fillTrays 91 = .ok (.if_icmp .ge 35, 3) := by decide +kernel
theorem dX2_fillTrays_94 : decode cX2_fillTrays 94 = .ok (.aload_n 0, 1) := by decide +kernel
theorem dX2_fillTrays_95 : decode cX2_fillTrays 95 = .ok (.getfield 27, 3) := by decide +kernel
theorem dX2_fillTrays_98 : decode cX2_fillTrays 98 = .ok (.iload_n 1, 1) := by decide +kernel
theorem dX2_fillTrays_99 : decode cX2_fillTrays 99 = .ok (.aload_n 0, 1) := by decide +kernel
theorem dX2_fillTrays_100 : decode cX2_fillTrays 100 = .ok (.getfield 27, 3) := by decide +kernel
theorem dX2_fillTrays_103 : decode cX2_fillTrays 103 = .ok (.iload_n 1, 1) := by decide +kernel
theorem dX2_fillTrays_104 : decode cX2_fillTrays 104 = .ok (.iaload, 1) := by decide +kernel
theorem dX2_fillTrays_105 : decode cX2_fillTrays 105 = .ok (.sipush 1000, 3) := by decide +kernel
theorem dX2_fillTrays_108 : decode cX2_fillTrays 108 = .ok (.imul, 1) := by decide +kernel
theorem dX2_fillTrays_109 : decode cX2_fillTrays 109 = .ok (.aload_n 0, 1) := by decide +kernel
theorem dX2_fillTrays_110 : decode cX2_fillTrays 110 = .ok (.getfield 9, 3) := by decide +kernel
theorem dX2_fillTrays_113 : decode cX2_fillTrays 113 = .ok (.getfield 72, 3) := by decide +kernel
theorem dX2_fillTrays_116 : decode cX2_fillTrays 116 = .ok (.iload_n 1, 1) := by decide +kernel
theorem dX2_fillTrays_117 : decode cX2_fillTrays 117 = .ok (.iaload, 1) := by decide +kernel
theorem dX2_fillTrays_118 : decode cX2_fillTrays 118 = .ok (.idiv, 1) := by decide +kernel
theorem dX2_fillTrays_119 : decode cX2_fillTrays 119 = .ok (.iastore, 1) := by decide +kernel
theorem dX2_fillTrays_120 : decode cX2_fillTrays 120 = .ok (.iinc 1 1, 3) := by decide +kernel
theorem dX2_fillTrays_123 : decode cX2_fillTrays 123 = .ok (.goto (-40), 3) := by decide +kernel
theorem dX2_fillTrays_126 : decode cX2_fillTrays 126 = .ok (.return_, 1) := by decide +kernel
theorem dX2_allAreRight_0 : decode cX2_allAreRight 0 = .ok (.iconst 0, 1) := by decide +kernel
theorem dX2_allAreRight_1 : decode cX2_allAreRight 1 = .ok (.istore_n 2, 1) := by decide +kernel
theorem dX2_allAreRight_2 : decode cX2_allAreRight 2 = .ok (.iload_n 2, 1) := by decide +kernel
theorem dX2_allAreRight_3 : decode cX2_allAreRight 3 = .ok (.aload_n 0, 1) := by decide +kernel
theorem dX2_allAreRight_4 : decode cX2_allAreRight 4 = .ok (.getfield 19, 3) := by decide +kernel
theorem dX2_allAreRight_7 : decode cX2_allAreRight 7 = .ok (.getfield 36, 3) := by decide +kernel
theorem dX2_allAreRight_10 : decode cX2_allAreRight 10 = .ok (.if_icmp .ge 20, 3) := by decide +kernel
theorem dX2_allAreRight_13 : decode cX2_allAreRight 13 = .ok (.aload_n 0, 1) := by decide +kernel
theorem dX2_allAreRight_14 : decode cX2_allAreRight 14 = .ok (.iload_n 2, 1) := by decide +kernel
theorem dX2_allAreRight_15 : decode cX2_allAreRight 15 = .ok (.iload_n 1, 1) := by decide +kernel
theorem dX2_allAreRight_16 : decode cX2_allAreRight 16 = .ok (.invokevirtual 55, 3) := by decide +kernel
theorem dX2_allAreRight_19 : decode cX2_allAreRight 19 = .ok (.ifCond .ne 5, 3) := by decide +kernel
theorem dX2_allAreRight_22 : decode cX2_allAreRight 22 = .ok (.iconst 0, 1) := by decide +kernel
theorem dX2_allAreRight_23 : decode cX2_allAreRight 23 = .ok (.ireturn, 1) := by decide +kernel
theorem dX2_allAreRight_24 : decode cX2_allAreRight 24 = .ok (.iinc 2 1, 3) := by decide +kernel
theorem dX2_allAreRight_27 : decode cX2_allAreRight 27 = .ok (.goto (-25), 3) := by decide +kernel
theorem dX2_allAreRight_30 : decode cX2_allAreRight 30 = .ok (.iconst 1, 1) := by decide +kernel
theorem dX2_allAreRight_31 : decode cX2_allAreRight 31 = .ok (.ireturn, 1) := by decide +kernel
theorem dX2_isRightAt_0 : decode cX2_isRightAt 0 = .ok (.aload_n 0, 1) := by decide +kernel
theorem dX2_isRightAt_1 : decode cX2_isRightAt 1 = .ok (.getfield 19, 3) := by decide +kernel
theorem dX2_isRightAt_4 : decode cX2_isRightAt 4 = .ok (.iload_n 1, 1) := by decide +kernel
theorem dX2_isRightAt_5 : decode cX2_isRightAt 5 = .ok (.invokevirtual 75, 3) := by decide +kernel
theorem dX2_isRightAt_8 : decode cX2_isRightAt 8 = .ok (.ifCond .eq 5, 3) := by decide +kernel
theorem dX2_isRightAt_11 : decode cX2_isRightAt 11 = .ok (.iconst 1, 1) := by decide +kernel
theorem dX2_isRightAt_12 : decode cX2_isRightAt 12 = .ok (.ireturn, 1) := by decide +kernel
theorem dX2_isRightAt_13 : decode cX2_isRightAt 13 = .ok (.aload_n 0, 1) := by decide +kernel
theorem dX2_isRightAt_14 : decode cX2_isRightAt 14 = .ok (.iload_n 1, 1) := by decide +kernel
theorem dX2_isRightAt_15 : decode cX2_isRightAt 15 = .ok (.invokevirtual 78, 3) := by decide +kernel
theorem dX2_isRightAt_18 : decode cX2_isRightAt 18 = .ok (.aload_n 0, 1) := by decide +kernel
theorem dX2_isRightAt_19 : decode cX2_isRightAt 19 = .ok (.getfield 19, 3) := by decide +kernel
theorem dX2_isRightAt_22 : decode cX2_isRightAt 22 = .ok (.getfield 82, 3) := by decide +kernel
theorem dX2_isRightAt_25 : decode cX2_isRightAt 25 = .ok (.iload_n 1, 1) := by decide +kernel
theorem dX2_isRightAt_26 : decode cX2_isRightAt 26 = .ok (.iaload, 1) := by decide +kernel
theorem dX2_isRightAt_27 : decode cX2_isRightAt 27 = .ok (.if_icmp .lt 16, 3) := by decide +kernel
theorem dX2_isRightAt_30 : decode cX2_isRightAt 30 = .ok (.aload_n 0, 1) := by decide +kernel
theorem dX2_isRightAt_31 : decode cX2_isRightAt 31 = .ok (.iload_n 1, 1) := by decide +kernel
theorem dX2_isRightAt_32 : decode cX2_isRightAt 32 = .ok (.invokevirtual 85, 3) := by decide +kernel
theorem dX2_isRightAt_35 : decode cX2_isRightAt 35 = .ok (.iload_n 2, 1) := by decide +kernel
theorem dX2_isRightAt_36 : decode cX2_isRightAt 36 = .ok (.if_icmp .gt 7, 3) := by decide +kernel
theorem dX2_isRightAt_39 : decode cX2_isRightAt 39 = .ok (.iconst 1, 1) := by decide +kernel
theorem dX2_isRightAt_40 : decode cX2_isRightAt 40 = .ok (.goto 4, 3) := by decide +kernel
theorem dX2_isRightAt_43 : decode cX2_isRightAt 43 = .ok (.iconst 0, 1) := by decide +kernel
theorem dX2_isRightAt_44 : decode cX2_isRightAt 44 = .ok (.ireturn, 1) := by decide +kernel
theorem dX0_isLoose_0 : decode cX0_isLoose 0 = .ok (.aload_n 0, 1) := by decide +kernel
theorem dX0_isLoose_1 : decode cX0_isLoose 1 = .ok (.getfield 25, 3) := by decide +kernel
theorem dX0_isLoose_4 : decode cX0_isLoose 4 = .ok (.iload_n 1, 1) := by decide +kernel
theorem dX0_isLoose_5 : decode cX0_isLoose 5 = .ok (.iaload, 1) := by decide +kernel
theorem dX0_isLoose_6 : decode cX0_isLoose 6 = .ok (.ifCond .ne 7, 3) := by decide +kernel
theorem dX0_isLoose_9 : decode cX0_isLoose 9 = .ok (.iconst 1, 1) := by decide +kernel
theorem dX0_isLoose_10 : decode cX0_isLoose 10 = .ok (.goto 4, 3) := by decide +kernel
theorem dX0_isLoose_13 : decode cX0_isLoose 13 = .ok (.iconst 0, 1) := by decide +kernel
theorem dX0_isLoose_14 : decode cX0_isLoose 14 = .ok (.ireturn, 1) := by decide +kernel
theorem dX2_carriedBy_0 : decode cX2_carriedBy 0 = .ok (.sipush 1000, 3) := by decide +kernel
theorem dX2_carriedBy_3 : decode cX2_carriedBy 3 = .ok (.istore_n 2, 1) := by decide +kernel
theorem dX2_carriedBy_4 : decode cX2_carriedBy 4 = .ok (.iconst 0, 1) := by decide +kernel
theorem dX2_carriedBy_5 : decode cX2_carriedBy 5 = .ok (.istore_n 3, 1) := by decide +kernel
theorem dX2_carriedBy_6 : decode cX2_carriedBy 6 = .ok (.iload_n 3, 1) := by decide +kernel
theorem dX2_carriedBy_7 : decode cX2_carriedBy 7 = .ok (.aload_n 0, 1) := by decide +kernel
theorem dX2_carriedBy_8 : decode cX2_carriedBy 8 = .ok (.getfield 19, 3) := by decide +kernel
theorem dX2_carriedBy_11 : decode cX2_carriedBy 11 = .ok (.getfield 59, 3) := by decide +kernel
theorem dX2_carriedBy_14 : decode cX2_carriedBy 14 = .ok (.iload_n 1, 1) := by decide +kernel
theorem dX2_carriedBy_15 : decode cX2_carriedBy 15 = .ok (.iaload, 1) := by decide +kernel
theorem dX2_carriedBy_16 : decode cX2_carriedBy 16 = .ok (.if_icmp .ge 29, 3) := by decide +kernel
theorem dX2_carriedBy_19 : decode cX2_carriedBy 19 = .ok (.iload_n 2, 1) := by decide +kernel
theorem dX2_carriedBy_20 : decode cX2_carriedBy 20 = .ok (.aload_n 0, 1) := by decide +kernel
theorem dX2_carriedBy_21 : decode cX2_carriedBy 21 = .ok (.aload_n 0, 1) := by decide +kernel
theorem dX2_carriedBy_22 : decode cX2_carriedBy 22 = .ok (.getfield 19, 3) := by decide +kernel
theorem dX2_carriedBy_25 : decode cX2_carriedBy 25 = .ok (.getfield 62, 3) := by decide +kernel
theorem dX2_carriedBy_28 : decode cX2_carriedBy 28 = .ok (.iload_n 1, 1) := by decide +kernel
theorem dX2_carriedBy_29 : decode cX2_carriedBy 29 = .ok (.aaload, 1) := by decide +kernel
theorem dX2_carriedBy_30 : decode cX2_carriedBy 30 = .ok (.iload_n 3, 1) := by decide +kernel
theorem dX2_carriedBy_31 : decode cX2_carriedBy 31 = .ok (.iaload, 1) := by decide +kernel
theorem dX2_carriedBy_32 : decode cX2_carriedBy 32 = .ok (.invokevirtual 88, 3) := by decide +kernel
theorem dX2_carriedBy_35 : decode cX2_carriedBy 35 = .ok (.invokestatic 91, 3) := by decide +kernel
theorem dX2_carriedBy_38 : decode cX2_carriedBy 38 = .ok (.istore_n 2, 1) := by decide +kernel
theorem dX2_carriedBy_39 : decode cX2_carriedBy 39 = .ok (.iinc 3 1, 3) := by decide +kernel
theorem dX2_carriedBy_42 : decode cX2_carriedBy 42 = .ok (.goto (-36), 3) := by decide +kernel
theorem dX2_carriedBy_45 : decode cX2_carriedBy 45 = .ok (.aload_n 0, 1) := by decide +kernel
theorem dX2_carriedBy_46 : decode cX2_carriedBy 46 = .ok (.getfield 15, 3) := by decide +kernel
theorem dX2_carriedBy_49 : decode cX2_carriedBy 49 = .ok (.getfield 97, 3) := by decide +kernel
theorem dX2_carriedBy_52 : decode cX2_carriedBy 52 = .ok (.aload_n 0, 1) := by decide +kernel
theorem dX2_carriedBy_53 : decode cX2_carriedBy 53 = .ok (.getfield 23, 3) := by decide +kernel
theorem dX2_carriedBy_56 : decode cX2_carriedBy 56 = .ok (.iload_n 1, 1) := by decide +kernel
theorem dX2_carriedBy_57 : decode cX2_carriedBy 57 = .ok (.iaload, 1) := by decide +kernel
theorem dX2_carriedBy_58 : decode cX2_carriedBy 58 = .ok (.iaload, 1) := by decide +kernel
theorem dX2_carriedBy_59 : decode cX2_carriedBy 59 = .ok (.iload_n 2, 1) := by decide +kernel
theorem dX2_carriedBy_60 : decode cX2_carriedBy 60 = .ok (.imul, 1) := by decide +kernel
theorem dX2_carriedBy_61 : decode cX2_carriedBy 61 = .ok (.sipush 1000, 3) := by decide +kernel
theorem dX2_carriedBy_64 : decode cX2_carriedBy 64 = .ok (.idiv, 1) := by decide +kernel
theorem dX2_carriedBy_65 : decode cX2_carriedBy 65 = .ok (.ireturn, 1) := by decide +kernel
theorem dX2_factorOf_0 : decode cX2_factorOf 0 = .ok (.aload_n 0, 1) := by decide +kernel
theorem dX2_factorOf_1 : decode cX2_factorOf 1 = .ok (.getfield 27, 3) := by decide +kernel
theorem dX2_factorOf_4 : decode cX2_factorOf 4 = .ok (.iload_n 1, 1) := by decide +kernel
theorem dX2_factorOf_5 : decode cX2_factorOf 5 = .ok (.iaload, 1) := by decide +kernel
theorem dX2_factorOf_6 : decode cX2_factorOf 6 = .ok (.istore_n 2, 1) := by decide +kernel
theorem dX2_factorOf_7 : decode cX2_factorOf 7 = .ok (.iload_n 2, 1) := by decide +kernel
theorem dX2_factorOf_8 : decode cX2_factorOf 8 = .ok (.sipush 200, 3) := by decide +kernel
theorem dX2_factorOf_11 : decode cX2_factorOf 11 = .ok (.if_icmp .gt 7, 3) := by decide +kernel
theorem dX2_factorOf_14 : decode cX2_factorOf 14 = .ok (.sipush 1000, 3) := by decide +kernel
theorem dX2_factorOf_17 : decode cX2_factorOf 17 = .ok (.ireturn, 1) := by decide +kernel
theorem dX2_factorOf_18 : decode cX2_factorOf 18 = .ok (.iload_n 2, 1) := by decide +kernel
theorem dX2_factorOf_19 : decode cX2_factorOf 19 = .ok (.sipush 400, 3) := by decide +kernel
theorem dX2_factorOf_22 : decode cX2_factorOf 22 = .ok (.if_icmp .gt 7, 3) := by decide +kernel
theorem dX2_factorOf_25 : decode cX2_factorOf 25 = .ok (.sipush 800, 3) := by decide +kernel
theorem dX2_factorOf_28 : decode cX2_factorOf 28 = .ok (.ireturn, 1) := by decide +kernel
theorem dX2_factorOf_29 : decode cX2_factorOf 29 = .ok (.iload_n 2, 1) := by decide +kernel
theorem dX2_factorOf_30 : decode cX2_factorOf 30 = .ok (.sipush 600, 3) := by decide +kernel
theorem dX2_factorOf_33 : decode cX2_factorOf 33 = .ok (.if_icmp .gt 7, 3) := by decide +kernel
theorem dX2_factorOf_36 : decode cX2_factorOf 36 = .ok (.sipush 650, 3) := by decide +kernel
theorem dX2_factorOf_39 : decode cX2_factorOf 39 = .ok (.ireturn, 1) := by decide +kernel
theorem dX2_factorOf_40 : decode cX2_factorOf 40 = .ok (.iload_n 2, 1) := by decide +kernel
theorem dX2_factorOf_41 : decode cX2_factorOf 41 = .ok (.sipush 800, 3) := by decide +kernel
theorem dX2_factorOf_44 : decode cX2_factorOf 44 = .ok (.if_icmp .gt 7, 3) := by decide +kernel
theorem dX2_factorOf_47 : decode cX2_factorOf 47 = .ok (.sipush 550, 3) := by decide +kernel
theorem dX2_factorOf_50 : decode cX2_factorOf 50 = .ok (.ireturn, 1) := by decide +kernel
theorem dX2_factorOf_51 : decode cX2_factorOf 51 = .ok (.iload_n 2, 1) := by decide +kernel
theorem dX2_factorOf_52 : decode cX2_factorOf 52 = .ok (.sipush 1000, 3) := by decide +kernel
theorem dX2_factorOf_55 : decode cX2_factorOf 55 = .ok (.if_icmp .gt 9, 3) := by decide +kernel
theorem dX2_factorOf_58 : decode cX2_factorOf 58 = .ok (.sipush 500, 3) := by decide +kernel
theorem dX2_factorOf_61 : decode cX2_factorOf 61 = .ok (.goto 4, 3) := by decide +kernel
theorem dX2_factorOf_64 : decode cX2_factorOf 64 = .ok (.iconst 0, 1) := by decide +kernel
theorem dX2_factorOf_65 : decode cX2_factorOf 65 = .ok (.ireturn, 1) := by decide +kernel
theorem dJ_min_0 : decode cJ_min 0 = .ok (.iload_n 0, 1) := by decide +kernel
theorem dJ_min_1 : decode cJ_min 1 = .ok (.iload_n 1, 1) := by decide +kernel
theorem dJ_min_2 : decode cJ_min 2 = .ok (.if_icmp .gt 7, 3) := by decide +kernel
theorem dJ_min_5 : decode cJ_min 5 = .ok (.iload_n 0, 1) := by decide +kernel
theorem dJ_min_6 : decode cJ_min 6 = .ok (.goto 4, 3) := by decide +kernel
theorem dJ_min_9 : decode cJ_min 9 = .ok (.iload_n 1, 1) := by decide +kernel
theorem dJ_min_10 : decode cJ_min 10 = .ok (.ireturn, 1) := by decide +kernel
theorem dX2_dropOf_0 : decode cX2_dropOf 0 = .ok (.aload_n 0, 1) := by decide +kernel
theorem dX2_dropOf_1 : decode cX2_dropOf 1 = .ok (.getfield 19, 3) := by decide +kernel
theorem dX2_dropOf_4 : decode cX2_dropOf 4 = .ok (.getfield 82, 3) := by decide +kernel
theorem dX2_dropOf_7 : decode cX2_dropOf 7 = .ok (.iload_n 1, 1) := by decide +kernel
theorem dX2_dropOf_8 : decode cX2_dropOf 8 = .ok (.iaload, 1) := by decide +kernel
theorem dX2_dropOf_9 : decode cX2_dropOf 9 = .ok (.aload_n 0, 1) := by decide +kernel
theorem dX2_dropOf_10 : decode cX2_dropOf 10 = .ok (.getfield 15, 3) := by decide +kernel
theorem dX2_dropOf_13 : decode cX2_dropOf 13 = .ok (.getfield 100, 3) := by decide +kernel
theorem dX2_dropOf_16 : decode cX2_dropOf 16 = .ok (.aload_n 0, 1) := by decide +kernel
theorem dX2_dropOf_17 : decode cX2_dropOf 17 = .ok (.getfield 23, 3) := by decide +kernel
theorem dX2_dropOf_20 : decode cX2_dropOf 20 = .ok (.iload_n 1, 1) := by decide +kernel
theorem dX2_dropOf_21 : decode cX2_dropOf 21 = .ok (.iaload, 1) := by decide +kernel
theorem dX2_dropOf_22 : decode cX2_dropOf 22 = .ok (.iaload, 1) := by decide +kernel
theorem dX2_dropOf_23 : decode cX2_dropOf 23 = .ok (.imul, 1) := by decide +kernel
theorem dX2_dropOf_24 : decode cX2_dropOf 24 = .ok (.aload_n 0, 1) := by decide +kernel
theorem dX2_dropOf_25 : decode cX2_dropOf 25 = .ok (.getfield 19, 3) := by decide +kernel
theorem dX2_dropOf_28 : decode cX2_dropOf 28 = .ok (.getfield 103, 3) := by decide +kernel
theorem dX2_dropOf_31 : decode cX2_dropOf 31 = .ok (.iload_n 1, 1) := by decide +kernel
theorem dX2_dropOf_32 : decode cX2_dropOf 32 = .ok (.iaload, 1) := by decide +kernel
theorem dX2_dropOf_33 : decode cX2_dropOf 33 = .ok (.imul, 1) := by decide +kernel
theorem dX2_dropOf_34 : decode cX2_dropOf 34 = .ok (.sipush 1000, 3) := by decide +kernel
theorem dX2_dropOf_37 : decode cX2_dropOf 37 = .ok (.idiv, 1) := by decide +kernel
theorem dX2_dropOf_38 : decode cX2_dropOf 38 = .ok (.ireturn, 1) := by decide +kernel
theorem dX2_raiseWrongOnes_0 : decode cX2_raiseWrongOnes 0 = .ok (.iconst 0, 1) := by decide +kernel
theorem dX2_raiseWrongOnes_1 : decode cX2_raiseWrongOnes 1 = .ok (.istore_n 2, 1) := by decide +kernel
theorem dX2_raiseWrongOnes_2 : decode cX2_raiseWrongOnes 2 = .ok (.iload_n 2, 1) := by decide +kernel
theorem dX2_raiseWrongOnes_3 : decode cX2_raiseWrongOnes 3 = .ok (.aload_n 0, 1) := by decide +kernel
theorem dX2_raiseWrongOnes_4 : decode cX2_raiseWrongOnes 4 = .ok (.getfield 19, 3) := by decide +kernel
theorem dX2_raiseWrongOnes_7 : decode cX2_raiseWrongOnes 7 = .ok (.getfield 36, 3) := by decide +kernel
theorem dX2_raiseWrongOnes_10 : decode cX2_raiseWrongOnes 10 = .ok (.if_icmp .ge 48, 3) := by decide +kernel
theorem dX2_raiseWrongOnes_13 : decode cX2_raiseWrongOnes 13 = .ok (.aload_n 0, 1) := by decide +kernel
theorem dX2_raiseWrongOnes_14 : decode cX2_raiseWrongOnes 14 = .ok (.iload_n 2, 1) := by decide +kernel
theorem dX2_raiseWrongOnes_15 : decode cX2_raiseWrongOnes 15 = .ok (.iload_n 1, 1) := by decide +kernel
theorem dX2_raiseWrongOnes_16 : decode cX2_raiseWrongOnes 16 = .ok (.invokevirtual 55, 3) := by decide +kernel
theorem dX2_raiseWrongOnes_19 : decode cX2_raiseWrongOnes 19 = .ok (.ifCond .ne 33, 3) := by decide +kernel
theorem dX2_raiseWrongOnes_22 : decode cX2_raiseWrongOnes 22 = .ok (.aload_n 0, 1) := by decide +kernel
theorem dX2_raiseWrongOnes_23 : decode cX2_raiseWrongOnes 23 = .ok (.getfield 23, 3) := by decide +kernel
theorem dX2_raiseWrongOnes_26 : decode cX2_raiseWrongOnes 26 = .ok (.iload_n 2, 1) := by decide +kernel
theorem dX2_raiseWrongOnes_27 : decode cX2_raiseWrongOnes 27 = .ok (.iaload, 1) := by decide +kernel
theorem dX2_raiseWrongOnes_28 : decode cX2_raiseWrongOnes 28 = .ok (.iconst 1, 1) := by decide +kernel
theorem dX2_raiseWrongOnes_29 : decode cX2_raiseWrongOnes 29 = .ok (.iadd, 1) := by decide +kernel
theorem dX2_raiseWrongOnes_30 : decode cX2_raiseWrongOnes 30 = .ok (.aload_n 0, 1) := by decide +kernel
theorem dX2_raiseWrongOnes_31 : decode cX2_raiseWrongOnes 31 = .ok (.getfield 15, 3) := by decide +kernel
theorem dX2_raiseWrongOnes_34 : decode cX2_raiseWrongOnes 34 = .ok (.getfield 42, 3) := by decide +kernel
theorem dX2_raiseWrongOnes_37 : decode cX2_raiseWrongOnes 37 = .ok (.if_icmp .lt 5, 3) := by decide +kernel
theorem dX2_raiseWrongOnes_40 : decode cX2_raiseWrongOnes 40 = .ok (.iconst 0, 1) := by decide +kernel
theorem dX2_raiseWrongOnes_41 : decode cX2_raiseWrongOnes 41 = .ok (.ireturn, 1) := by decide +kernel
theorem dX2_raiseWrongOnes_42 : decode cX2_raiseWrongOnes 42 = .ok (.aload_n 0, 1) := by decide +kernel
theorem dX2_raiseWrongOnes_43 : decode cX2_raiseWrongOnes 43 = .ok (.getfield 23, 3) := by decide +kernel
theorem dX2_raiseWrongOnes_46 : decode cX2_raiseWrongOnes 46 = .ok (.iload_n 2, 1) := by decide +kernel
theorem dX2_raiseWrongOnes_47 : decode cX2_raiseWrongOnes 47 = .ok (.dup2, 1) := by decide +kernel
theorem dX2_raiseWrongOnes_48 : decode cX2_raiseWrongOnes 48 = .ok (.iaload, 1) := by decide +kernel
theorem dX2_raiseWrongOnes_49 : decode cX2_raiseWrongOnes 49 = .ok (.iconst 1, 1) := by decide +kernel
theorem dX2_raiseWrongOnes_50 : decode cX2_raiseWrongOnes 50 = .ok (.iadd, 1) := by decide +kernel
theorem dX2_raiseWrongOnes_51 : decode cX2_raiseWrongOnes 51 = .ok (.iastore, 1) := by decide +kernel
theorem dX2_raiseWrongOnes_52 : decode cX2_raiseWrongOnes 52 = .ok (.iinc 2 1, 3) := by decide +kernel
theorem dX2_raiseWrongOnes_55 : decode cX2_raiseWrongOnes 55 = .ok (.goto (-53), 3) := by decide +kernel
theorem dX2_raiseWrongOnes_58 : decode cX2_raiseWrongOnes 58 = .ok (.iconst 1, 1) := by decide +kernel
theorem dX2_raiseWrongOnes_59 : decode cX2_raiseWrongOnes 59 = .ok (.ireturn, 1) := by decide +kernel
theorem dX2_sumOfCopper_0 : decode cX2_sumOfCopper 0 = .ok (.iconst 0, 1) := by decide +kernel
theorem dX2_sumOfCopper_1 : decode cX2_sumOfCopper 1 = .ok (.istore_n 1, 1) := by decide +kernel
theorem dX2_sumOfCopper_2 : decode cX2_sumOfCopper 2 = .ok (.iconst 0, 1) := by decide +kernel
theorem dX2_sumOfCopper_3 : decode cX2_sumOfCopper 3 = .ok (.istore_n 2, 1) := by decide +kernel
theorem dX2_sumOfCopper_4 : decode cX2_sumOfCopper 4 = .ok (.iload_n 2, 1) := by decide +kernel
theorem dX2_sumOfCopper_5 : decode cX2_sumOfCopper 5 = .ok (.aload_n 0, 1) := by decide +kernel
theorem dX2_sumOfCopper_6 : decode cX2_sumOfCopper 6 = .ok (.getfield 19, 3) := by decide +kernel
theorem dX2_sumOfCopper_9 : decode cX2_sumOfCopper 9 = .ok (.getfield 36, 3) := by decide +kernel
theorem dX2_sumOfCopper_12 : decode cX2_sumOfCopper 12 = .ok (.if_icmp .ge 36, 3) := by decide +kernel
theorem dX2_sumOfCopper_15 : decode cX2_sumOfCopper 15 = .ok (.iload_n 1, 1) := by decide +kernel
theorem dX2_sumOfCopper_16 : decode cX2_sumOfCopper 16 = .ok (.aload_n 0, 1) := by decide +kernel
theorem dX2_sumOfCopper_17 : decode cX2_sumOfCopper 17 = .ok (.getfield 15, 3) := by decide +kernel
theorem dX2_sumOfCopper_20 : decode cX2_sumOfCopper 20 = .ok (.getfield 66, 3) := by decide +kernel
theorem dX2_sumOfCopper_23 : decode cX2_sumOfCopper 23 = .ok (.aload_n 0, 1) := by decide +kernel
theorem dX2_sumOfCopper_24 : decode cX2_sumOfCopper 24 = .ok (.getfield 23, 3) := by decide +kernel
theorem dX2_sumOfCopper_27 : decode cX2_sumOfCopper 27 = .ok (.iload_n 2, 1) := by decide +kernel
theorem dX2_sumOfCopper_28 : decode cX2_sumOfCopper 28 = .ok (.iaload, 1) := by decide +kernel
theorem dX2_sumOfCopper_29 : decode cX2_sumOfCopper 29 = .ok (.iaload, 1) := by decide +kernel
theorem dX2_sumOfCopper_30 : decode cX2_sumOfCopper 30 = .ok (.aload_n 0, 1) := by decide +kernel
theorem dX2_sumOfCopper_31 : decode cX2_sumOfCopper 31 = .ok (.getfield 19, 3) := by decide +kernel
theorem dX2_sumOfCopper_34 : decode cX2_sumOfCopper 34 = .ok (.getfield 103, 3) := by decide +kernel
theorem dX2_sumOfCopper_37 : decode cX2_sumOfCopper 37 = .ok (.iload_n 2, 1) := by decide +kernel
theorem dX2_sumOfCopper_38 : decode cX2_sumOfCopper 38 = .ok (.iaload, 1) := by decide +kernel
theorem dX2_sumOfCopper_39 : decode cX2_sumOfCopper 39 = .ok (.imul, 1) := by decide +kernel
theorem dX2_sumOfCopper_40 : decode cX2_sumOfCopper 40 = .ok (.iadd, 1) := by decide +kernel
theorem dX2_sumOfCopper_41 : decode cX2_sumOfCopper 41 = .ok (.istore_n 1, 1) := by decide +kernel
theorem dX2_sumOfCopper_42 : decode cX2_sumOfCopper 42 = .ok (.iinc 2 1, 3) := by decide +kernel
theorem dX2_sumOfCopper_45 : decode cX2_sumOfCopper 45 = .ok (.goto (-41), 3) := by decide +kernel
theorem dX2_sumOfCopper_48 : decode cX2_sumOfCopper 48 = .ok (.iload_n 1, 1) := by decide +kernel
theorem dX2_sumOfCopper_49 : decode cX2_sumOfCopper 49 = .ok (.ireturn, 1) := by decide +kernel
theorem dX3_add_0 : decode cX3_add 0 = .ok (.aload_n 0, 1) := by decide +kernel
theorem dX3_add_1 : decode cX3_add 1 = .ok (.getfield 9, 3) := by decide +kernel
theorem dX3_add_4 : decode cX3_add 4 = .ok (.istore 5, 2) := by decide +kernel
theorem dX3_add_6 : decode cX3_add 6 = .ok (.aload_n 0, 1) := by decide +kernel
theorem dX3_add_7 : decode cX3_add 7 = .ok (.getfield 15, 3) := by decide +kernel
theorem dX3_add_10 : decode cX3_add 10 = .ok (.iload 5, 2) := by decide +kernel
theorem dX3_add_12 : decode cX3_add 12 = .ok (.iload_n 1, 1) := by decide +kernel
theorem dX3_add_13 : decode cX3_add 13 = .ok (.iastore, 1) := by decide +kernel
theorem dX3_add_14 : decode cX3_add 14 = .ok (.aload_n 0, 1) := by decide +kernel
theorem dX3_add_15 : decode cX3_add 15 = .ok (.getfield 19, 3) := by decide +kernel
theorem dX3_add_18 : decode cX3_add 18 = .ok (.iload 5, 2) := by decide +kernel
theorem dX3_add_20 : decode cX3_add 20 = .ok (.iload_n 2, 1) := by decide +kernel
theorem dX3_add_21 : decode cX3_add 21 = .ok (.iastore, 1) := by decide +kernel
theorem dX3_add_22 : decode cX3_add 22 = .ok (.aload_n 0, 1) := by decide +kernel
theorem dX3_add_23 : decode cX3_add 23 = .ok (.getfield 22, 3) := by decide +kernel
theorem dX3_add_26 : decode cX3_add 26 = .ok (.iload 5, 2) := by decide +kernel
theorem dX3_add_28 : decode cX3_add 28 = .ok (.iload_n 3, 1) := by decide +kernel
theorem dX3_add_29 : decode cX3_add 29 = .ok (.iastore, 1) := by decide +kernel
theorem dX3_add_30 : decode cX3_add 30 = .ok (.aload_n 0, 1) := by decide +kernel
theorem dX3_add_31 : decode cX3_add 31 = .ok (.getfield 25, 3) := by decide +kernel
theorem dX3_add_34 : decode cX3_add 34 = .ok (.iload 5, 2) := by decide +kernel
theorem dX3_add_36 : decode cX3_add 36 = .ok (.iload 4, 2) := by decide +kernel
theorem dX3_add_38 : decode cX3_add 38 = .ok (.iastore, 1) := by decide +kernel
theorem dX3_add_39 : decode cX3_add 39 = .ok (.aload_n 0, 1) := by decide +kernel
theorem dX3_add_40 : decode cX3_add 40 = .ok (.iload 5, 2) := by decide +kernel
theorem dX3_add_42 : decode cX3_add 42 = .ok (.iconst 1, 1) := by decide +kernel
theorem dX3_add_43 : decode cX3_add 43 = .ok (.iadd, 1) := by decide +kernel
theorem dX3_add_44 : decode cX3_add 44 = .ok (.putfield 9, 3) := by decide +kernel
theorem dX3_add_47 : decode cX3_add 47 = .ok (.iload 5, 2) := by decide +kernel
theorem dX3_add_49 : decode cX3_add 49 = .ok (.ireturn, 1) := by decide +kernel
theorem dX0_findWay_0 : decode cX0_findWay 0 = .ok (.aload_n 2, 1) := by decide +kernel
theorem dX0_findWay_1 : decode cX0_findWay 1 = .ok (.aload_n 0, 1) := by decide +kernel
theorem dX0_findWay_2 : decode cX0_findWay 2 = .ok (.getfield 19, 3) := by decide +kernel
theorem dX0_findWay_5 : decode cX0_findWay 5 = .ok (.iload_n 1, 1) := by decide +kernel
theorem dX0_findWay_6 : decode cX0_findWay 6 = .ok (.iaload, 1) := by decide +kernel
theorem dX0_findWay_7 : decode cX0_findWay 7 = .ok (.invokevirtual 36, 3) := by decide +kernel
theorem dX0_findWay_10 : decode cX0_findWay 10 = .ok (.aload_n 0, 1) := by decide +kernel
theorem dX0_findWay_11 : decode cX0_findWay 11 = .ok (.getfield 25, 3) := by decide +kernel
theorem dX0_findWay_14 : decode cX0_findWay 14 = .ok (.iload_n 1, 1) := by decide +kernel
theorem dX0_findWay_15 : decode cX0_findWay 15 = .ok (.iconst 0, 1) := by decide +kernel
theorem dX0_findWay_16 : decode cX0_findWay 16 = .ok (.iastore, 1) := by decide +kernel
theorem dX0_findWay_17 : decode cX0_findWay 17 = .ok (.aload_n 0, 1) := by decide +kernel
theorem dX0_findWay_18 : decode cX0_findWay 18 = .ok (.getfield 28, 3) := by decide +kernel
theorem dX0_findWay_21 : decode cX0_findWay 21 = .ok (.iload_n 1, 1) := by decide +kernel
theorem dX0_findWay_22 : decode cX0_findWay 22 = .ok (.iconst 0, 1) := by decide +kernel
theorem dX0_findWay_23 : decode cX0_findWay 23 = .ok (.iastore, 1) := by decide +kernel
theorem dX0_findWay_24 : decode cX0_findWay 24 = .ok (.aload_n 2, 1) := by decide +kernel
theorem dX0_findWay_25 : decode cX0_findWay 25 = .ok (.getfield 42, 3) := by decide +kernel
theorem dX0_findWay_28 : decode cX0_findWay 28 = .ok (.aload_n 0, 1) := by decide +kernel
theorem dX0_findWay_29 : decode cX0_findWay 29 = .ok (.getfield 15, 3) := by decide +kernel
theorem dX0_findWay_32 : decode cX0_findWay 32 = .ok (.iload_n 1, 1) := by decide +kernel
theorem dX0_findWay_33 : decode cX0_findWay 33 = .ok (.iaload, 1) := by decide +kernel
theorem dX0_findWay_34 : decode cX0_findWay 34 = .ok (.iaload, 1) := by decide +kernel
theorem dX0_findWay_35 : decode cX0_findWay 35 = .ok (.ldc 45, 2) := by decide +kernel
theorem dX0_findWay_37 : decode cX0_findWay 37 = .ok (.if_icmp .lt 4, 3) := by decide +kernel
theorem dX0_findWay_40 : decode cX0_findWay 40 = .ok (.return_, 1) := by decide +kernel
theorem dX0_findWay_41 : decode cX0_findWay 41 = .ok (.aload_n 0, 1) := by decide +kernel
theorem dX0_findWay_42 : decode cX0_findWay 42 = .ok (.getfield 15, 3) := by decide +kernel
theorem dX0_findWay_45 : decode cX0_findWay 45 = .ok (.iload_n 1, 1) := by decide +kernel
theorem dX0_findWay_46 : decode cX0_findWay 46 = .ok (.iaload, 1) := by decide +kernel
theorem dX0_findWay_47 : decode cX0_findWay 47 = .ok (.istore_n 3, 1) := by decide +kernel
theorem dX0_findWay_48 : decode cX0_findWay 48 = .ok (.iconst 0, 1) := by decide +kernel
theorem dX0_findWay_49 : decode cX0_findWay 49 = .ok (.istore 4, 2) := by decide +kernel
theorem dX0_findWay_51 : decode cX0_findWay 51 = .ok (.iload_n 3, 1) := by decide +kernel
theorem dX0_findWay_52 : decode cX0_findWay 52 = .ok (.aload_n 0, 1) := by decide +kernel
theorem dX0_findWay_53 : decode cX0_findWay 53 = .ok (.getfield 19, 3) := by decide +kernel
theorem dX0_findWay_56 : decode cX0_findWay 56 = .ok (.iload_n 1, 1) := by decide +kernel
theorem dX0_findWay_57 : decode cX0_findWay 57 = .ok (.iaload, 1) := by decide +kernel
theorem dX0_findWay_58 : decode cX0_findWay 58 = .ok (.if_icmp .eq 77, 3) := by decide +kernel
theorem dX0_findWay_61 : decode cX0_findWay 61 = .ok (.iload 4, 2) := by decide +kernel
theorem dX0_findWay_63 : decode cX0_findWay 63 = .ok (.bipush 9, 2) := by decide +kernel
theorem dX0_findWay_65 : decode cX0_findWay 65 = .ok (.if_icmp .ge 70, 3) := by decide +kernel
theorem dX0_findWay_68 : decode cX0_findWay 68 = .ok (.aload_n 2, 1) := by decide +kernel
theorem dX0_findWay_69 : decode cX0_findWay 69 = .ok (.iload_n 3, 1) := by decide +kernel
theorem dX0_findWay_70 : decode cX0_findWay 70 = .ok (.invokevirtual 46, 3) := by decide +kernel
theorem dX0_findWay_73 : decode cX0_findWay 73 = .ok (.istore 5, 2) := by decide +kernel
theorem dX0_findWay_75 : decode cX0_findWay 75 = .ok (.iload 5, 2) := by decide +kernel
theorem dX0_findWay_77 : decode cX0_findWay 77 = .ok (.iconst (-1), 1) := by decide +kernel
theorem dX0_findWay_78 : decode cX0_findWay 78 = .ok (.if_icmp .ne 6, 3) := by decide +kernel
theorem dX0_findWay_81 : decode cX0_findWay 81 = .ok (.goto 54, 3) := by decide +kernel
theorem dX0_findWay_84 : decode cX0_findWay 84 = .ok (.aload_n 0, 1) := by decide +kernel
theorem dX0_findWay_85 : decode cX0_findWay 85 = .ok (.getfield 33, 3) := by decide +kernel
theorem dX0_findWay_88 : decode cX0_findWay 88 = .ok (.iload_n 1, 1) := by decide +kernel
theorem dX0_findWay_89 : decode cX0_findWay 89 = .ok (.aaload, 1) := by decide +kernel
theorem dX0_findWay_90 : decode cX0_findWay 90 = .ok (.iload 4, 2) := by decide +kernel
theorem dX0_findWay_92 : decode cX0_findWay 92 = .ok (.iload 5, 2) := by decide +kernel
theorem dX0_findWay_94 : decode cX0_findWay 94 = .ok (.iastore, 1) := by decide +kernel
theorem dX0_findWay_95 : decode cX0_findWay 95 = .ok (.aload_n 0, 1) := by decide +kernel
theorem dX0_findWay_96 : decode cX0_findWay 96 = .ok (.getfield 25, 3) := by decide +kernel
theorem dX0_findWay_99 : decode cX0_findWay 99 = .ok (.iload_n 1, 1) := by decide +kernel
theorem dX0_findWay_100 : decode cX0_findWay 100 = .ok (.iload 4, 2) := by decide +kernel
theorem dX0_findWay_102 : decode cX0_findWay 102 = .ok (.iconst 1, 1) := by decide +kernel
theorem dX0_findWay_103 : decode cX0_findWay 103 = .ok (.iadd, 1) := by decide +kernel
theorem dX0_findWay_104 : decode cX0_findWay 104 = .ok (.iastore, 1) := by decide +kernel
theorem dX0_findWay_105 : decode cX0_findWay 105 = .ok (.aload_n 0, 1) := by decide +kernel
theorem dX0_findWay_106 : decode cX0_findWay 106 = .ok (.getfield 28, 3) := by decide +kernel
theorem dX0_findWay_109 : decode cX0_findWay 109 = .ok (.iload_n 1, 1) := by decide +kernel
theorem dX0_findWay_110 : decode cX0_findWay 110 = .ok (.dup2, 1) := by decide +kernel
theorem dX0_findWay_111 : decode cX0_findWay 111 = .ok (.iaload, 1) := by decide +kernel
theorem dX0_findWay_112 : decode cX0_findWay 112 = .ok (.aload_n 2, 1) := by decide +kernel
theorem dX0_findWay_113 : decode cX0_findWay 113 = .ok (.getfield 50, 3) := by decide +kernel
theorem dX0_findWay_116 : decode cX0_findWay 116 = .ok (.iload 5, 2) := by decide +kernel
theorem dX0_findWay_118 : decode cX0_findWay 118 = .ok (.iaload, 1) := by decide +kernel
theorem dX0_findWay_119 : decode cX0_findWay 119 = .ok (.iadd, 1) := by decide +kernel
theorem dX0_findWay_120 : decode cX0_findWay 120 = .ok (.iastore, 1) := by decide +kernel
theorem dX0_findWay_121 : decode cX0_findWay 121 = .ok (.aload_n 2, 1) := by decide +kernel
theorem dX0_findWay_122 : decode cX0_findWay 122 = .ok (.iload 5, 2) := by decide +kernel
theorem dX0_findWay_124 : decode cX0_findWay 124 = .ok (.iload_n 3, 1) := by decide +kernel
theorem dX0_findWay_125 : decode cX0_findWay 125 = .ok (.invokevirtual 53, 3) := by decide +kernel
theorem dX0_findWay_128 : decode cX0_findWay 128 = .ok (.istore_n 3, 1) := by decide +kernel
theorem dX0_findWay_129 : decode cX0_findWay 129 = .ok (.iinc 4 1, 3) := by decide +kernel
theorem dX0_findWay_132 : decode cX0_findWay 132 = .ok (.goto (-81), 3) := by decide +kernel
theorem dX0_findWay_135 : decode cX0_findWay 135 = .ok (.return_, 1) := by decide +kernel
theorem dX3_measureTo_0 : decode cX3_measureTo 0 = .ok (.aload_n 0, 1) := by decide +kernel
theorem dX3_measureTo_1 : decode cX3_measureTo 1 = .ok (.getfield 28, 3) := by decide +kernel
theorem dX3_measureTo_4 : decode cX3_measureTo 4 = .ok (.ldc 31, 2) := by decide +kernel
theorem dX3_measureTo_6 : decode cX3_measureTo 6 = .ok (.invokestatic 32, 3) := by decide +kernel
theorem dX3_measureTo_9 : decode cX3_measureTo 9 = .ok (.aload_n 0, 1) := by decide +kernel
theorem dX3_measureTo_10 : decode cX3_measureTo 10 = .ok (.getfield 28, 3) := by decide +kernel
theorem dX3_measureTo_13 : decode cX3_measureTo 13 = .ok (.iload_n 1, 1) := by decide +kernel
theorem dX3_measureTo_14 : decode cX3_measureTo 14 = .ok (.iconst 0, 1) := by decide +kernel
theorem dX3_measureTo_15 : decode cX3_measureTo 15 = .ok (.iastore, 1) := by decide +kernel
theorem dX3_measureTo_16 : decode cX3_measureTo 16 = .ok (.iconst 1, 1) := by decide +kernel
theorem dX3_measureTo_17 : decode cX3_measureTo 17 = .ok (.istore_n 2, 1) := by decide +kernel
theorem dX3_measureTo_18 : decode cX3_measureTo 18 = .ok (.iconst 0, 1) := by decide +kernel
theorem dX3_measureTo_19 : decode cX3_measureTo 19 = .ok (.istore_n 3, 1) := by decide +kernel
theorem dX3_measureTo_20 : decode cX3_measureTo 20 = .ok (.iload_n 2, 1) := by decide +kernel
theorem dX3_measureTo_21 : decode cX3_measureTo 21 = .ok (.ifCond .eq 109, 3) := by decide +kernel
theorem dX3_measureTo_24 : decode cX3_measureTo 24 = .ok (.iload_n 3, 1) := by decide +kernel
theorem dX3_measureTo_25 : decode cX3_measureTo 25 = .ok (.bipush 10, 2) := by decide +kernel
theorem dX3_measureTo_27 : decode cX3_measureTo 27 = .ok (.if_icmp .ge 103, 3) := by decide +kernel
theorem dX3_measureTo_30 : decode cX3_measureTo 30 = .ok (.iconst 0, 1) := by decide +kernel
theorem dX3_measureTo_31 : decode cX3_measureTo 31 = .ok (.istore_n 2, 1) := by decide +kernel
theorem dX3_measureTo_32 : decode cX3_measureTo 32 = .ok (.iconst 0, 1) := by decide +kernel
theorem dX3_measureTo_33 : decode cX3_measureTo 33 = .ok (.istore 4, 2) := by decide +kernel
theorem dX3_measureTo_35 : decode cX3_measureTo 35 = .ok (.iload 4, 2) := by decide +kernel
theorem dX3_measureTo_37 : decode cX3_measureTo 37 = .ok (.aload_n 0, 1) := by decide +kernel
theorem dX3_measureTo_38 : decode cX3_measureTo 38 = .ok (.getfield 9, 3) := by decide +kernel
theorem dX3_measureTo_41 : decode cX3_measureTo 41 = .ok (.if_icmp .ge 83, 3) := by decide +kernel
theorem dX3_measureTo_44 : decode cX3_measureTo 44 = .ok (.aload_n 0, 1) := by decide +kernel
theorem dX3_measureTo_45 : decode cX3_measureTo 45 = .ok (.aload_n 0, 1) := by decide +kernel
theorem dX3_measureTo_46 : decode cX3_measureTo 46 = .ok (.getfield 15, 3) := by decide +kernel
theorem dX3_measureTo_49 : decode cX3_measureTo 49 = .ok (.iload 4, 2) := by decide +kernel
theorem dX3_measureTo_51 : decode cX3_measureTo 51 = .ok (.iaload, 1) := by decide +kernel
theorem dX3_measureTo_52 : decode cX3_measureTo 52 = .ok (.aload_n 0, 1) := by decide +kernel
theorem dX3_measureTo_53 : decode cX3_measureTo 53 = .ok (.getfield 19, 3) := by decide +kernel
theorem dX3_measureTo_56 : decode cX3_measureTo 56 = .ok (.iload 4, 2) := by decide +kernel
theorem dX3_measureTo_58 : decode cX3_measureTo 58 = .ok (.iaload, 1) := by decide +kernel
theorem dX3_measureTo_59 : decode cX3_measureTo 59 = .ok (.aload_n 0, 1) := by decide +kernel
theorem dX3_measureTo_60 : decode cX3_measureTo 60 = .ok (.getfield 22, 3) := by decide +kernel
theorem dX3_measureTo_63 : decode cX3_measureTo 63 = .ok (.iload 4, 2) := by decide +kernel
theorem dX3_measureTo_65 : decode cX3_measureTo 65 = .ok (.iaload, 1) := by decide +kernel
theorem dX3_measureTo_66 : decode cX3_measureTo 66 = .ok (.invokevirtual 38, 3) := by decide +kernel
theorem dX3_measureTo_69 : decode cX3_measureTo 69 = .ok (.istore 5, 2) := by decide +kernel
theorem dX3_measureTo_71 : decode cX3_measureTo 71 = .ok (.aload_n 0, 1) := by decide +kernel
theorem dX3_measureTo_72 : decode cX3_measureTo 72 = .ok (.aload_n 0, 1) := by decide +kernel
theorem dX3_measureTo_73 : decode cX3_measureTo 73 = .ok (.getfield 19, 3) := by decide +kernel
theorem dX3_measureTo_76 : decode cX3_measureTo 76 = .ok (.iload 4, 2) := by decide +kernel
theorem dX3_measureTo_78 : decode cX3_measureTo 78 = .ok (.iaload, 1) := by decide +kernel
theorem dX3_measureTo_79 : decode cX3_measureTo 79 = .ok (.aload_n 0, 1) := by decide +kernel
theorem dX3_measureTo_80 : decode cX3_measureTo 80 = .ok (.getfield 15, 3) := by decide +kernel
theorem dX3_measureTo_83 : decode cX3_measureTo 83 = .ok (.iload 4, 2) := by decide +kernel
theorem dX3_measureTo_85 : decode cX3_measureTo 85 = .ok (.iaload, 1) := by decide +kernel
theorem dX3_measureTo_86 : decode cX3_measureTo 86 = .ok (.aload_n 0, 1) := by decide +kernel
theorem dX3_measureTo_87 : decode cX3_measureTo 87 = .ok (.getfield 22, 3) := by decide +kernel
theorem dX3_measureTo_90 : decode cX3_measureTo 90 = .ok (.iload 4, 2) := by decide +kernel
theorem dX3_measureTo_92 : decode cX3_measureTo 92 = .ok (.iaload, 1) := by decide +kernel
theorem dX3_measureTo_93 : decode cX3_measureTo 93 = .ok (.invokevirtual 38, 3) := by decide +kernel
theorem dX3_measureTo_96 : decode cX3_measureTo 96 = .ok (.istore 6, 2) := by decide +kernel
theorem dX3_measureTo_98 : decode cX3_measureTo 98 = .ok (.iload_n 2, 1) := by decide +kernel
theorem dX3_measureTo_99 : decode cX3_measureTo 99 = .ok (.ifCond .ne 13, 3) := by decide +kernel
theorem dX3_measureTo_102 : decode cX3_measureTo 102 = .ok (.iload 5, 2) := by decide +kernel
theorem dX3_measureTo_104 : decode cX3_measureTo 104 = .ok (.ifCond .ne 8, 3) := by decide +kernel
theorem dX3_measureTo_107 : decode cX3_measureTo 107 = .ok (.iload 6, 2) := by decide +kernel
theorem dX3_measureTo_109 : decode cX3_measureTo 109 = .ok (.ifCond .eq 7, 3) := by decide +kernel
theorem dX3_measureTo_112 : decode cX3_measureTo 112 = .ok (.iconst 1, 1) := by decide +kernel
theorem dX3_measureTo_113 : decode cX3_measureTo 113 = .ok (.goto 4, 3) := by decide +kernel
theorem dX3_measureTo_116 : decode cX3_measureTo 116 = .ok (.iconst 0, 1) := by decide +kernel
theorem dX3_measureTo_117 : decode cX3_measureTo 117 = .ok (.istore_n 2, 1) := by decide +kernel
theorem dX3_measureTo_118 : decode cX3_measureTo 118 = .ok (.iinc 4 1, 3) := by decide +kernel
theorem dX3_measureTo_121 : decode cX3_measureTo 121 = .ok (.goto (-86), 3) := by decide +kernel
theorem dX3_measureTo_124 : decode cX3_measureTo 124 = .ok (.iinc 3 1, 3) := by decide +kernel
theorem dX3_measureTo_127 : decode cX3_measureTo 127 = .ok (.goto (-107), 3) := by decide +kernel
theorem dX3_measureTo_130 : decode cX3_measureTo 130 = .ok (.return_, 1) := by decide +kernel
theorem dX3_shorten_0 : decode cX3_shorten 0 = .ok (.aload_n 0, 1) := by decide +kernel
theorem dX3_shorten_1 : decode cX3_shorten 1 = .ok (.getfield 28, 3) := by decide +kernel
theorem dX3_shorten_4 : decode cX3_shorten 4 = .ok (.iload_n 2, 1) := by decide +kernel
theorem dX3_shorten_5 : decode cX3_shorten 5 = .ok (.iaload, 1) := by decide +kernel
theorem dX3_shorten_6 : decode cX3_shorten 6 = .ok (.iload_n 3, 1) := by decide +kernel
theorem dX3_shorten_7 : decode cX3_shorten 7 = .ok (.iadd, 1) := by decide +kernel
theorem dX3_shorten_8 : decode cX3_shorten 8 = .ok (.istore 4, 2) := by decide +kernel
theorem dX3_shorten_10 : decode cX3_shorten 10 = .ok (.iload 4, 2) := by decide +kernel
theorem dX3_shorten_12 : decode cX3_shorten 12 = .ok (.aload_n 0, 1) := by decide +kernel
theorem dX3_shorten_13 : decode cX3_shorten 13 = .ok (.getfield 28, 3) := by decide +kernel
theorem dX3_shorten_16 : decode cX3_shorten 16 = .ok (.iload_n 1, 1) := by decide +kernel
theorem dX3_shorten_17 : decode cX3_shorten 17 = .ok (.iaload, 1) := by decide +kernel
theorem dX3_shorten_18 : decode cX3_shorten 18 = .ok (.if_icmp .lt 5, 3) := by decide +kernel
theorem dX3_shorten_21 : decode cX3_shorten 21 = .ok (.iconst 0, 1) := by decide +kernel
theorem dX3_shorten_22 : decode cX3_shorten 22 = .ok (.ireturn, 1) := by decide +kernel
theorem dX3_shorten_23 : decode cX3_shorten 23 = .ok (.aload_n 0, 1) := by decide +kernel
theorem dX3_shorten_24 : decode cX3_shorten 24 = .ok (.getfield 28, 3) := by decide +kernel
theorem dX3_shorten_27 : decode cX3_shorten 27 = .ok (.iload_n 1, 1) := by decide +kernel
theorem dX3_shorten_28 : decode cX3_shorten 28 = .ok (.iload 4, 2) := by decide +kernel
theorem dX3_shorten_30 : decode cX3_shorten 30 = .ok (.iastore, 1) := by decide +kernel
theorem dX3_shorten_31 : decode cX3_shorten 31 = .ok (.iconst 1, 1) := by decide +kernel
theorem dX3_shorten_32 : decode cX3_shorten 32 = .ok (.ireturn, 1) := by decide +kernel
theorem dX3_firstTowardsTarget_0 : decode cX3_firstTowardsTarget 0 = .ok (.iconst 0, 1) := by decide +kernel
theorem dX3_firstTowardsTarget_1 : decode cX3_firstTowardsTarget 1 = .ok (.istore_n 2, 1) := by decide +kernel
theorem dX3_firstTowardsTarget_2 : decode cX3_firstTowardsTarget 2 = .ok (.iload_n 2, 1) := by decide +kernel
theorem dX3_firstTowardsTarget_3 : decode cX3_firstTowardsTarget 3 = .ok (.aload_n 0, 1) := by decide +kernel
theorem dX3_firstTowardsTarget_4 : decode cX3_firstTowardsTarget 4 = .ok (.getfield 9, 3) := by decide +kernel
theorem dX3_firstTowardsTarget_7 : decode cX3_firstTowardsTarget 7 = .ok (.if_icmp .ge 45, 3) := by decide +kernel
theorem dX3_firstTowardsTarget_10 : decode cX3_firstTowardsTarget 10 = .ok (.aload_n 0, 1) := by decide +kernel
theorem dX3_firstTowardsTarget_11 : decode cX3_firstTowardsTarget 11 = .ok (.iload_n 2, 1) := by decide +kernel
theorem dX3_firstTowardsTarget_12 : decode cX3_firstTowardsTarget 12 = .ok (.iload_n 1, 1) := by decide +kernel
theorem dX3_firstTowardsTarget_13 : decode cX3_firstTowardsTarget 13 = .ok (.invokevirtual 42, 3) := by decide +kernel
theorem dX3_firstTowardsTarget_16 : decode cX3_firstTowardsTarget 16 = .ok (.istore_n 3, 1) := by decide +kernel
theorem dX3_firstTowardsTarget_17 : decode cX3_firstTowardsTarget 17 = .ok (.iload_n 3, 1) := by decide +kernel
theorem dX3_firstTowardsTarget_18 : decode cX3_firstTowardsTarget 18 = .ok (.iconst (-1), 1) := by decide +kernel
theorem dX3_firstTowardsTarget_19 : decode cX3_firstTowardsTarget 19 = .ok (.if_icmp .eq 27, 3) := by decide +kernel
theorem dX3_firstTowardsTarget_22 : decode cX3_firstTowardsTarget 22 = .ok (.aload_n 0, 1) := by decide +kernel
theorem dX3_firstTowardsTarget_23 : decode cX3_firstTowardsTarget 23 = .ok (.getfield 28, 3) := by decide +kernel
theorem dX3_firstTowardsTarget_26 : decode cX3_firstTowardsTarget 26 = .ok (.iload_n 3, 1) := by decide +kernel
theorem dX3_firstTowardsTarget_27 : decode cX3_firstTowardsTarget 27 = .ok (.iaload, 1) := by decide +kernel
theorem dX3_firstTowardsTarget_28 : decode cX3_firstTowardsTarget 28 = .ok (.aload_n 0, 1) := by decide +kernel
theorem dX3_firstTowardsTarget_29 : decode cX3_firstTowardsTarget 29 = .ok (.getfield 22, 3) := by decide +kernel
theorem dX3_firstTowardsTarget_32 : decode cX3_firstTowardsTarget 32 = .ok (.iload_n 2, 1) := by decide +kernel
theorem dX3_firstTowardsTarget_33 : decode cX3_firstTowardsTarget 33 = .ok (.iaload, 1) := by decide +kernel
theorem dX3_firstTowardsTarget_34 : decode cX3_firstTowardsTarget 34 = .ok (.iadd, 1) := by decide +kernel
theorem dX3_firstTowardsTarget_35 : decode cX3_firstTowardsTarget 35 = .ok (.aload_n 0, 1) := by decide +kernel
theorem dX3_firstTowardsTarget_36 : decode cX3_firstTowardsTarget 36 = .ok (.getfield 28, 3) := by decide +kernel
theorem dX3_firstTowardsTarget_39 : decode cX3_firstTowardsTarget 39 = .ok (.iload_n 1, 1) := by decide +kernel
theorem dX3_firstTowardsTarget_40 : decode cX3_firstTowardsTarget 40 = .ok (.iaload, 1) := by decide +kernel
theorem dX3_firstTowardsTarget_41 : decode cX3_firstTowardsTarget 41 = .ok (.if_icmp .ne 5, 3) := by decide +kernel
theorem dX3_firstTowardsTarget_44 : decode cX3_firstTowardsTarget 44 = .ok (.iload_n 2, 1) := by decide +kernel
theorem dX3_firstTowardsTarget_45 : decode cX3_firstTowardsTarget 45 = .ok (.ireturn, 1) := by decide +kernel
theorem dX3_firstTowardsTarget_46 : decode cX3_firstTowardsTarget 46 = .ok (.iinc 2 1, 3) := by decide +kernel
theorem dX3_firstTowardsTarget_49 : decode cX3_firstTowardsTarget 49 = .ok (.goto (-47), 3) := by decide +kernel
theorem dX3_firstTowardsTarget_52 : decode cX3_firstTowardsTarget 52 = .ok (.iconst (-1), 1) := by decide +kernel
theorem dX3_firstTowardsTarget_53 : decode cX3_firstTowardsTarget 53 = .ok (.ireturn, 1) := by decide +kernel
theorem dX3_endBehind_0 : decode cX3_endBehind 0 = .ok (.aload_n 0, 1) := by decide +kernel
theorem dX3_endBehind_1 : decode cX3_endBehind 1 = .ok (.getfield 15, 3) := by decide +kernel
theorem dX3_endBehind_4 : decode cX3_endBehind 4 = .ok (.iload_n 1, 1) := by decide +kernel
theorem dX3_endBehind_5 : decode cX3_endBehind 5 = .ok (.iaload, 1) := by decide +kernel
theorem dX3_endBehind_6 : decode cX3_endBehind 6 = .ok (.iload_n 2, 1) := by decide +kernel
theorem dX3_endBehind_7 : decode cX3_endBehind 7 = .ok (.if_icmp .ne 10, 3) := by decide +kernel
theorem dX3_endBehind_10 : decode cX3_endBehind 10 = .ok (.aload_n 0, 1) := by decide +kernel
theorem dX3_endBehind_11 : decode cX3_endBehind 11 = .ok (.getfield 19, 3) := by decide +kernel
theorem dX3_endBehind_14 : decode cX3_endBehind 14 = .ok (.iload_n 1, 1) := by decide +kernel
theorem dX3_endBehind_15 : decode cX3_endBehind 15 = .ok (.iaload, 1) := by decide +kernel
theorem dX3_endBehind_16 : decode cX3_endBehind 16 = .ok (.ireturn, 1) := by decide +kernel
theorem dX3_endBehind_17 : decode cX3_endBehind 17 = .ok (.aload_n 0, 1) := by decide +kernel
theorem dX3_endBehind_18 : decode cX3_endBehind 18 = .ok (.getfield 19, 3) := by decide +kernel
theorem dX3_endBehind_21 : decode cX3_endBehind 21 = .ok (.iload_n 1, 1) := by decide +kernel
theorem dX3_endBehind_22 : decode cX3_endBehind 22 = .ok (.iaload, 1) := by decide +kernel
theorem dX3_endBehind_23 : decode cX3_endBehind 23 = .ok (.iload_n 2, 1) := by decide +kernel
theorem dX3_endBehind_24 : decode cX3_endBehind 24 = .ok (.if_icmp .ne 12, 3) := by decide +kernel
theorem dX3_endBehind_27 : decode cX3_endBehind 27 = .ok (.aload_n 0, 1) := by decide +kernel
theorem dX3_endBehind_28 : decode cX3_endBehind 28 = .ok (.getfield 15, 3) := by decide +kernel
theorem dX3_endBehind_31 : decode cX3_endBehind 31 = .ok (.iload_n 1, 1) := by decide +kernel
theorem dX3_endBehind_32 : decode cX3_endBehind 32 = .ok (.iaload, 1) := by decide +kernel
theorem dX3_endBehind_33 : decode cX3_endBehind 33 = .ok (.goto 4, 3) := by decide +kernel
theorem dX3_endBehind_36 : decode cX3_endBehind 36 = .ok (.iconst (-1), 1) := by decide +kernel
theorem dX3_endBehind_37 : decode cX3_endBehind 37 = .ok (.ireturn, 1) := by decide +kernel
theorem dX1_mayFollow_0 : decode cX1_mayFollow 0 = .ok (.aload_n 0, 1) := by decide +kernel
theorem dX1_mayFollow_1 : decode cX1_mayFollow 1 = .ok (.getfield 9, 3) := by decide +kernel
theorem dX1_mayFollow_4 : decode cX1_mayFollow 4 = .ok (.ifCond .ne 5, 3) := by decide +kernel
theorem dX1_mayFollow_7 : decode cX1_mayFollow 7 = .ok (.iconst 1, 1) := by decide +kernel
theorem dX1_mayFollow_8 : decode cX1_mayFollow 8 = .ok (.ireturn, 1) := by decide +kernel
theorem dX1_mayFollow_9 : decode cX1_mayFollow 9 = .ok (.aload_n 0, 1) := by decide +kernel
theorem dX1_mayFollow_10 : decode cX1_mayFollow 10 = .ok (.getfield 9, 3) := by decide +kernel
theorem dX1_mayFollow_13 : decode cX1_mayFollow 13 = .ok (.iconst 1, 1) := by decide +kernel
theorem dX1_mayFollow_14 : decode cX1_mayFollow 14 = .ok (.isub, 1) := by decide +kernel
theorem dX1_mayFollow_15 : decode cX1_mayFollow 15 = .ok (.istore 4, 2) := by decide +kernel
theorem dX1_mayFollow_17 : decode cX1_mayFollow 17 = .ok (.iload_n 1, 1) := by decide +kernel
theorem dX1_mayFollow_18 : decode cX1_mayFollow 18 = .ok (.aload_n 0, 1) := by decide +kernel
theorem dX1_mayFollow_19 : decode cX1_mayFollow 19 = .ok (.getfield 15, 3) := by decide +kernel
theorem dX1_mayFollow_22 : decode cX1_mayFollow 22 = .ok (.iload 4, 2) := by decide +kernel
theorem dX1_mayFollow_24 : decode cX1_mayFollow 24 = .ok (.iaload, 1) := by decide +kernel
theorem dX1_mayFollow_25 : decode cX1_mayFollow 25 = .ok (.if_icmp .le 29, 3) := by decide +kernel
theorem dX1_mayFollow_28 : decode cX1_mayFollow 28 = .ok (.iload_n 2, 1) := by decide +kernel
theorem dX1_mayFollow_29 : decode cX1_mayFollow 29 = .ok (.aload_n 0, 1) := by decide +kernel
theorem dX1_mayFollow_30 : decode cX1_mayFollow 30 = .ok (.getfield 19, 3) := by decide +kernel
theorem dX1_mayFollow_33 : decode cX1_mayFollow 33 = .ok (.iload 4, 2) := by decide +kernel
theorem dX1_mayFollow_35 : decode cX1_mayFollow 35 = .ok (.iaload, 1) := by decide +kernel
theorem dX1_mayFollow_36 : decode cX1_mayFollow 36 = .ok (.if_icmp .lt 18, 3) := by decide +kernel
theorem dX1_mayFollow_39 : decode cX1_mayFollow 39 = .ok (.iload_n 3, 1) := by decide +kernel
theorem dX1_mayFollow_40 : decode cX1_mayFollow 40 = .ok (.aload_n 0, 1) := by decide +kernel
theorem dX1_mayFollow_41 : decode cX1_mayFollow 41 = .ok (.getfield 22, 3) := by decide +kernel
theorem dX1_mayFollow_44 : decode cX1_mayFollow 44 = .ok (.iload 4, 2) := by decide +kernel
theorem dX1_mayFollow_46 : decode cX1_mayFollow 46 = .ok (.iaload, 1) := by decide +kernel
theorem dX1_mayFollow_47 : decode cX1_mayFollow 47 = .ok (.if_icmp .gt 7, 3) := by decide +kernel
theorem dX1_mayFollow_50 : decode cX1_mayFollow 50 = .ok (.iconst 1, 1) := by decide +kernel
theorem dX1_mayFollow_51 : decode cX1_mayFollow 51 = .ok (.goto 4, 3) := by decide +kernel
theorem dX1_mayFollow_54 : decode cX1_mayFollow 54 = .ok (.iconst 0, 1) := by decide +kernel
theorem dX1_mayFollow_55 : decode cX1_mayFollow 55 = .ok (.ireturn, 1) := by decide +kernel
theorem dX1_add_0 : decode cX1_add 0 = .ok (.aload_n 0, 1) := by decide +kernel
theorem dX1_add_1 : decode cX1_add 1 = .ok (.getfield 9, 3) := by decide +kernel
theorem dX1_add_4 : decode cX1_add 4 = .ok (.istore 4, 2) := by decide +kernel
theorem dX1_add_6 : decode cX1_add 6 = .ok (.aload_n 0, 1) := by decide +kernel
theorem dX1_add_7 : decode cX1_add 7 = .ok (.getfield 15, 3) := by decide +kernel
theorem dX1_add_10 : decode cX1_add 10 = .ok (.iload 4, 2) := by decide +kernel
theorem dX1_add_12 : decode cX1_add 12 = .ok (.iload_n 1, 1) := by decide +kernel
theorem dX1_add_13 : decode cX1_add 13 = .ok (.iastore, 1) := by decide +kernel
theorem dX1_add_14 : decode cX1_add 14 = .ok (.aload_n 0, 1) := by decide +kernel
theorem dX1_add_15 : decode cX1_add 15 = .ok (.getfield 19, 3) := by decide +kernel
theorem dX1_add_18 : decode cX1_add 18 = .ok (.iload 4, 2) := by decide +kernel
theorem dX1_add_20 : decode cX1_add 20 = .ok (.iload_n 2, 1) := by decide +kernel
theorem dX1_add_21 : decode cX1_add 21 = .ok (.iastore, 1) := by decide +kernel
theorem dX1_add_22 : decode cX1_add 22 = .ok (.aload_n 0, 1) := by decide +kernel
theorem dX1_add_23 : decode cX1_add 23 = .ok (.getfield 22, 3) := by decide +kernel
theorem dX1_add_26 : decode cX1_add 26 = .ok (.iload 4, 2) := by decide +kernel
theorem dX1_add_28 : decode cX1_add 28 = .ok (.iload_n 3, 1) := by decide +kernel
theorem dX1_add_29 : decode cX1_add 29 = .ok (.iastore, 1) := by decide +kernel
theorem dX1_add_30 : decode cX1_add 30 = .ok (.aload_n 0, 1) := by decide +kernel
theorem dX1_add_31 : decode cX1_add 31 = .ok (.iload 4, 2) := by decide +kernel
theorem dX1_add_33 : decode cX1_add 33 = .ok (.iconst 1, 1) := by decide +kernel
theorem dX1_add_34 : decode cX1_add 34 = .ok (.iadd, 1) := by decide +kernel
theorem dX1_add_35 : decode cX1_add 35 = .ok (.putfield 9, 3) := by decide +kernel
theorem dX1_add_38 : decode cX1_add 38 = .ok (.iload 4, 2) := by decide +kernel
theorem dX1_add_40 : decode cX1_add 40 = .ok (.ireturn, 1) := by decide +kernel
theorem dX0_add_0 : decode cX0_add 0 = .ok (.aload_n 0, 1) := by decide +kernel
theorem dX0_add_1 : decode cX0_add 1 = .ok (.getfield 9, 3) := by decide +kernel
theorem dX0_add_4 : decode cX0_add 4 = .ok (.istore 4, 2) := by decide +kernel
theorem dX0_add_6 : decode cX0_add 6 = .ok (.aload_n 0, 1) := by decide +kernel
theorem dX0_add_7 : decode cX0_add 7 = .ok (.getfield 15, 3) := by decide +kernel
theorem dX0_add_10 : decode cX0_add 10 = .ok (.iload 4, 2) := by decide +kernel
theorem dX0_add_12 : decode cX0_add 12 = .ok (.iload_n 1, 1) := by decide +kernel
theorem dX0_add_13 : decode cX0_add 13 = .ok (.iastore, 1) := by decide +kernel
theorem dX0_add_14 : decode cX0_add 14 = .ok (.aload_n 0, 1) := by decide +kernel
theorem dX0_add_15 : decode cX0_add 15 = .ok (.getfield 19, 3) := by decide +kernel
theorem dX0_add_18 : decode cX0_add 18 = .ok (.iload 4, 2) := by decide +kernel
theorem dX0_add_20 : decode cX0_add 20 = .ok (.iload_n 2, 1) := by decide +kernel
theorem dX0_add_21 : decode cX0_add 21 = .ok (.iastore, 1) := by decide +kernel
theorem dX0_add_22 : decode cX0_add 22 = .ok (.aload_n 0, 1) := by decide +kernel
theorem dX0_add_23 : decode cX0_add 23 = .ok (.getfield 22, 3) := by decide +kernel
theorem dX0_add_26 : decode cX0_add 26 = .ok (.iload 4, 2) := by decide +kernel
theorem dX0_add_28 : decode cX0_add 28 = .ok (.iload_n 3, 1) := by decide +kernel
theorem dX0_add_29 : decode cX0_add 29 = .ok (.iastore, 1) := by decide +kernel
theorem dX0_add_30 : decode cX0_add 30 = .ok (.aload_n 0, 1) := by decide +kernel
theorem dX0_add_31 : decode cX0_add 31 = .ok (.iload 4, 2) := by decide +kernel
theorem dX0_add_33 : decode cX0_add 33 = .ok (.iconst 1, 1) := by decide +kernel
theorem dX0_add_34 : decode cX0_add 34 = .ok (.iadd, 1) := by decide +kernel
theorem dX0_add_35 : decode cX0_add 35 = .ok (.putfield 9, 3) := by decide +kernel
theorem dX0_add_38 : decode cX0_add 38 = .ok (.iload 4, 2) := by decide +kernel
theorem dX0_add_40 : decode cX0_add 40 = .ok (.ireturn, 1) := by decide +kernel
theorem dX0_countThrough_0 : decode cX0_countThrough 0 = .ok (.iconst 0, 1) := by decide +kernel
theorem dX0_countThrough_1 : decode cX0_countThrough 1 = .ok (.istore_n 2, 1) := by decide +kernel
theorem dX0_countThrough_2 : decode cX0_countThrough 2 = .ok (.iconst 0, 1) := by decide +kernel
theorem dX0_countThrough_3 : decode cX0_countThrough 3 = .ok (.istore_n 3, 1) := by decide +kernel
theorem dX0_countThrough_4 : decode cX0_countThrough 4 = .ok (.iload_n 3, 1) := by decide +kernel
theorem dX0_countThrough_5 : decode cX0_countThrough 5 = .ok (.aload_n 0, 1) := by decide +kernel
theorem dX0_countThrough_6 : decode cX0_countThrough 6 = .ok (.getfield 9, 3) := by decide +kernel
theorem dX0_countThrough_9 : decode cX0_countThrough 9 = .ok (.if_icmp .ge 45, 3) := by decide +kernel
theorem dX0_countThrough_12 : decode cX0_countThrough 12 = .ok (.iconst 0, 1) := by decide +kernel
theorem dX0_countThrough_13 : decode cX0_countThrough 13 = .ok (.istore 4, 2) := by decide +kernel
theorem dX0_countThrough_15 : decode cX0_countThrough 15 = .ok (.iload 4, 2) := by decide +kernel
theorem dX0_countThrough_17 : decode cX0_countThrough 17 = .ok (.aload_n 0, 1) := by decide +kernel
theorem dX0_countThrough_18 : decode cX0_countThrough 18 = .ok (.getfield 25, 3) := by decide +kernel
theorem dX0_countThrough_21 : decode cX0_countThrough 21 = .ok (.iload_n 3, 1) := by decide +kernel
theorem dX0_countThrough_22 : decode cX0_countThrough 22 = .ok (.iaload, 1) := by decide +kernel
theorem dX0_countThrough_23 : decode cX0_countThrough 23 = .ok (.if_icmp .ge 25, 3) := by decide +kernel
theorem dX0_countThrough_26 : decode cX0_countThrough 26 = .ok (.aload_n 0, 1) := by decide +kernel
theorem dX0_countThrough_27 : decode cX0_countThrough 27 = .ok (.getfield 33, 3) := by decide +kernel
theorem dX0_countThrough_30 : decode cX0_countThrough 30 = .ok (.iload_n 3, 1) := by decide +kernel
theorem dX0_countThrough_31 : decode cX0_countThrough 31 = .ok (.aaload, 1) := by decide +kernel
theorem dX0_countThrough_32 : decode cX0_countThrough 32 = .ok (.iload 4, 2) := by decide +kernel
theorem dX0_countThrough_34 : decode cX0_countThrough 34 = .ok (.iaload, 1) := by decide +kernel
theorem dX0_countThrough_35 : decode cX0_countThrough 35 = .ok (.iload_n 1, 1) := by decide +kernel
theorem dX0_countThrough_36 : decode cX0_countThrough 36 = .ok (.if_icmp .ne 6, 3) := by decide +kernel
theorem dX0_countThrough_39 : decode cX0_countThrough 39 = .ok (.iinc 2 1, 3) := by decide +kernel
theorem dX0_countThrough_42 : decode cX0_countThrough 42 = .ok (.iinc 4 1, 3) := by decide +kernel
theorem dX0_countThrough_45 : decode cX0_countThrough 45 = .ok (.goto (-30), 3) := by decide +kernel
theorem dX0_countThrough_48 : decode cX0_countThrough 48 = .ok (.iinc 3 1, 3) := by decide +kernel
theorem dX0_countThrough_51 : decode cX0_countThrough 51 = .ok (.goto (-47), 3) := by decide +kernel
theorem dX0_countThrough_54 : decode cX0_countThrough 54 = .ok (.iload_n 2, 1) := by decide +kernel
theorem dX0_countThrough_55 : decode cX0_countThrough 55 = .ok (.ireturn, 1) := by decide +kernel
