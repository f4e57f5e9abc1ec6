theorem dX4_init_0 : decode cX4_init 0 = .ok (.aload_n 0, 1) := by decide +kernel
theorem dX4_init_1 : decode cX4_init 1 = .ok (.invokespecial 3, 3) := by decide +kernel
theorem dX4_init_4 : decode cX4_init 4 = .ok (.aload_n 0, 1) := by decide +kernel
theorem dX4_init_5 : decode cX4_init 5 = .ok (.new 9, 3) := by decide +kernel
theorem dX4_init_8 : decode cX4_init 8 = .ok (.dup, 1) := by decide +kernel
theorem dX4_init_9 : decode cX4_init 9 = .ok (.invokespecial 11, 3) := by decide +kernel
theorem dX4_init_12 : decode cX4_init 12 = .ok (.putfield 12, 3) := by decide +kernel
theorem dX4_init_15 : decode cX4_init 15 = .ok (.aload_n 0, 1) := by decide +kernel
theorem dX4_init_16 : decode cX4_init 16 = .ok (.new 16, 3) := by decide +kernel
theorem dX4_init_19 : decode cX4_init 19 = .ok (.dup, 1) := by decide +kernel
theorem dX4_init_20 : decode cX4_init 20 = .ok (.invokespecial 18, 3) := by decide +kernel
theorem dX4_init_23 : decode cX4_init 23 = .ok (.putfield 19, 3) := by decide +kernel
theorem dX4_init_26 : decode cX4_init 26 = .ok (.aload_n 0, 1) := by decide +kernel
theorem dX4_init_27 : decode cX4_init 27 = .ok (.new 23, 3) := by decide +kernel
theorem dX4_init_30 : decode cX4_init 30 = .ok (.dup, 1) := by decide +kernel
theorem dX4_init_31 : decode cX4_init 31 = .ok (.invokespecial 25, 3) := by decide +kernel
theorem dX4_init_34 : decode cX4_init 34 = .ok (.putfield 26, 3) := by decide +kernel
theorem dX4_init_37 : decode cX4_init 37 = .ok (.aload_n 0, 1) := by decide +kernel
theorem dX4_init_38 : decode cX4_init 38 = .ok (.new 30, 3) := by decide +kernel
theorem dX4_init_41 : decode cX4_init 41 = .ok (.dup, 1) := by decide +kernel
theorem dX4_init_42 : decode cX4_init 42 = .ok (.aload_n 0, 1) := by decide +kernel
theorem dX4_init_43 : decode cX4_init 43 = .ok (.getfield 12, 3) := by decide +kernel
theorem dX4_init_46 : decode cX4_init 46 = .ok (.aload_n 0, 1) := by decide +kernel
theorem dX4_init_47 : decode cX4_init 47 = .ok (.getfield 19, 3) := by decide +kernel
theorem dX4_init_50 : decode cX4_init 50 = .ok (.aload_n 0, 1) := by decide +kernel
theorem dX4_init_51 : decode cX4_init 51 = .ok (.getfield 26, 3) := by decide +kernel
theorem dX4_init_54 : decode cX4_init 54 = .ok (.invokespecial 32, 3) := by decide +kernel
theorem dX4_init_57 : decode cX4_init 57 = .ok (.putfield 35, 3) := by decide +kernel
theorem dX4_init_60 : decode cX4_init 60 = .ok (.aload_n 0, 1) := by decide +kernel
theorem dX4_init_61 : decode cX4_init 61 = .ok (.new 30, 3) := by decide +kernel
theorem dX4_init_64 : decode cX4_init 64 = .ok (.dup, 1) := by decide +kernel
theorem dX4_init_65 : decode cX4_init 65 = .ok (.aload_n 0, 1) := by decide +kernel
theorem dX4_init_66 : decode cX4_init 66 = .ok (.getfield 12, 3) := by decide +kernel
theorem dX4_init_69 : decode cX4_init 69 = .ok (.aload_n 0, 1) := by decide +kernel
theorem dX4_init_70 : decode cX4_init 70 = .ok (.getfield 19, 3) := by decide +kernel
theorem dX4_init_73 : decode cX4_init 73 = .ok (.aload_n 0, 1) := by decide +kernel
theorem dX4_init_74 : decode cX4_init 74 = .ok (.getfield 26, 3) := by decide +kernel
theorem dX4_init_77 : decode cX4_init 77 = .ok (.invokespecial 32, 3) := by decide +kernel
theorem dX4_init_80 : decode cX4_init 80 = .ok (.putfield 39, 3) := by decide +kernel
theorem dX4_init_83 : decode cX4_init 83 = .ok (.aload_n 0, 1) := by decide +kernel
theorem dX4_init_84 : decode cX4_init 84 = .ok (.ldc 42, 2) := by decide +kernel
theorem dX4_init_86 : decode cX4_init 86 = .ok (.putfield 43, 3) := by decide +kernel
theorem dX4_init_89 : decode cX4_init 89 = .ok (.aload_n 0, 1) := by decide +kernel
theorem dX4_init_90 : decode cX4_init 90 = .ok (.iconst 0, 1) := by decide +kernel
theorem dX4_init_91 : decode cX4_init 91 = .ok (.putfield 47, 3) := by decide +kernel
theorem dX4_init_94 : decode cX4_init 94 = .ok (.aload_n 0, 1) := by decide +kernel
theorem dX4_init_95 : decode cX4_init 95 = .ok (.iconst 0, 1) := by decide +kernel
theorem dX4_init_96 : decode cX4_init 96 = .ok (.putfield 51, 3) := by decide +kernel
theorem dX4_init_99 : decode cX4_init 99 = .ok (.return_, 1) := by decide +kernel
theorem dX4_settled_0 : decode cX4_settled 0 = .ok (.aload_n 0, 1) := by decide +kernel
theorem dX4_settled_1 : decode cX4_settled 1 = .ok (.invokevirtual 126, 3) := by decide +kernel
theorem dX4_settled_4 : decode cX4_settled 4 = .ok (.aload_n 0, 1) := by decide +kernel
theorem dX4_settled_5 : decode cX4_settled 5 = .ok (.getfield 51, 3) := by decide +kernel
theorem dX4_settled_8 : decode cX4_settled 8 = .ok (.ireturn, 1) := by decide +kernel
theorem dX4_findLeast_0 : decode cX4_findLeast 0 = .ok (.aload_n 0, 1) := by decide +kernel
theorem dX4_findLeast_1 : decode cX4_findLeast 1 = .ok (.getfield 47, 3) := by decide +kernel
theorem dX4_findLeast_4 : decode cX4_findLeast 4 = .ok (.ifCond .ne 23, 3) := by decide +kernel
theorem dX4_findLeast_7 : decode cX4_findLeast 7 = .ok (.aload_n 0, 1) := by decide +kernel
theorem dX4_findLeast_8 : decode cX4_findLeast 8 = .ok (.aload_n 0, 1) := by decide +kernel
theorem dX4_findLeast_9 : decode cX4_findLeast 9 = .ok (.getfield 35, 3) := by decide +kernel
theorem dX4_findLeast_12 : decode cX4_findLeast 12 = .ok (.aload_n 0, 1) := by decide +kernel
theorem dX4_findLeast_13 : decode cX4_findLeast 13 = .ok (.getfield 43, 3) := by decide +kernel
theorem dX4_findLeast_16 : decode cX4_findLeast 16 = .ok (.invokevirtual 164, 3) := by decide +kernel
theorem dX4_findLeast_19 : decode cX4_findLeast 19 = .ok (.putfield 51, 3) := by decide +kernel
theorem dX4_findLeast_22 : decode cX4_findLeast 22 = .ok (.aload_n 0, 1) := by decide +kernel
theorem dX4_findLeast_23 : decode cX4_findLeast 23 = .ok (.iconst 1, 1) := by decide +kernel
theorem dX4_findLeast_24 : decode cX4_findLeast 24 = .ok (.putfield 47, 3) := by decide +kernel
theorem dX4_findLeast_27 : decode cX4_findLeast 27 = .ok (.return_, 1) := by decide +kernel
theorem dX4_copper_0 : decode cX4_copper 0 = .ok (.aload_n 0, 1) := by decide +kernel
theorem dX4_copper_1 : decode cX4_copper 1 = .ok (.invokevirtual 126, 3) := by decide +kernel
theorem dX4_copper_4 : decode cX4_copper 4 = .ok (.aload_n 0, 1) := by decide +kernel
theorem dX4_copper_5 : decode cX4_copper 5 = .ok (.getfield 51, 3) := by decide +kernel
theorem dX4_copper_8 : decode cX4_copper 8 = .ok (.ifCond .eq 13, 3) := by decide +kernel
theorem dX4_copper_11 : decode cX4_copper 11 = .ok (.aload_n 0, 1) := by decide +kernel
theorem dX4_copper_12 : decode cX4_copper 12 = .ok (.getfield 35, 3) := by decide +kernel
theorem dX4_copper_15 : decode cX4_copper 15 = .ok (.invokevirtual 148, 3) := by decide +kernel
theorem dX4_copper_18 : decode cX4_copper 18 = .ok (.goto 4, 3) := by decide +kernel
theorem dX4_copper_21 : decode cX4_copper 21 = .ok (.iconst (-1), 1) := by decide +kernel
theorem dX4_copper_22 : decode cX4_copper 22 = .ok (.ireturn, 1) := by decide +kernel
theorem dX4_tray_0 : decode cX4_tray 0 = .ok (.iload_n 1, 1) := by decide +kernel
theorem dX4_tray_1 : decode cX4_tray 1 = .ok (.iload_n 2, 1) := by decide +kernel
theorem dX4_tray_2 : decode cX4_tray 2 = .ok (.invokestatic 54, 3) := by decide +kernel
theorem dX4_tray_5 : decode cX4_tray 5 = .ok (.iload_n 3, 1) := by decide +kernel
theorem dX4_tray_6 : decode cX4_tray 6 = .ok (.iconst 1, 1) := by decide +kernel
theorem dX4_tray_7 : decode cX4_tray 7 = .ok (.bipush 100, 2) := by decide +kernel
theorem dX4_tray_9 : decode cX4_tray 9 = .ok (.invokestatic 58, 3) := by decide +kernel
theorem dX4_tray_12 : decode cX4_tray 12 = .ok (.iload 4, 2) := by decide +kernel
theorem dX4_tray_14 : decode cX4_tray 14 = .ok (.iconst 1, 1) := by decide +kernel
theorem dX4_tray_15 : decode cX4_tray 15 = .ok (.sipush 1000, 3) := by decide +kernel
theorem dX4_tray_18 : decode cX4_tray 18 = .ok (.invokestatic 58, 3) := by decide +kernel
theorem dX4_tray_21 : decode cX4_tray 21 = .ok (.aload_n 0, 1) := by decide +kernel
theorem dX4_tray_22 : decode cX4_tray 22 = .ok (.getfield 12, 3) := by decide +kernel
theorem dX4_tray_25 : decode cX4_tray 25 = .ok (.getfield 62, 3) := by decide +kernel
theorem dX4_tray_28 : decode cX4_tray 28 = .ok (.bipush 15, 2) := by decide +kernel
theorem dX4_tray_30 : decode cX4_tray 30 = .ok (.if_icmp .lt 13, 3) := by decide +kernel
theorem dX4_tray_33 : decode cX4_tray 33 = .ok (.new 65, 3) := by decide +kernel
theorem dX4_tray_36 : decode cX4_tray 36 = .ok (.dup, 1) := by decide +kernel
theorem dX4_tray_37 : decode cX4_tray 37 = .ok (.ldc 67, 2) := by decide +kernel
theorem dX4_tray_39 : decode cX4_tray 39 = .ok (.invokespecial 69, 3) := by decide +kernel
theorem dX4_tray_42 : decode cX4_tray 42 = .ok (.athrow, 1) := by decide +kernel
theorem dX4_tray_43 : decode cX4_tray 43 = .ok (.aload_n 0, 1) := by decide +kernel
theorem dX4_tray_44 : decode cX4_tray 44 = .ok (.getfield 12, 3) := by decide +kernel
theorem dX4_tray_47 : decode cX4_tray 47 = .ok (.iload_n 1, 1) := by decide +kernel
theorem dX4_tray_48 : decode cX4_tray 48 = .ok (.iload_n 2, 1) := by decide +kernel
theorem dX4_tray_49 : decode cX4_tray 49 = .ok (.iload_n 3, 1) := by decide +kernel
theorem dX4_tray_50 : decode cX4_tray 50 = .ok (.iload 4, 2) := by decide +kernel
theorem dX4_tray_52 : decode cX4_tray 52 = .ok (.invokevirtual 72, 3) := by decide +kernel
theorem dX4_tray_55 : decode cX4_tray 55 = .ok (.istore 5, 2) := by decide +kernel
theorem dX4_tray_57 : decode cX4_tray 57 = .ok (.iconst 0, 1) := by decide +kernel
theorem dX4_tray_58 : decode cX4_tray 58 = .ok (.istore 6, 2) := by decide +kernel
theorem dX4_tray_60 : decode cX4_tray 60 = .ok (.iload 6, 2) := by decide +kernel
theorem dX4_tray_62 : decode cX4_tray 62 = .ok (.aload_n 0, 1) := by decide +kernel
theorem dX4_tray_63 : decode cX4_tray 63 = .ok (.getfield 26, 3) := by decide +kernel
theorem dX4_tray_66 : decode cX4_tray 66 = .ok (.getfield 76, 3) := by decide +kernel
theorem dX4_tray_69 : decode cX4_tray 69 = .ok (.if_icmp .ge 22, 3) := by decide +kernel
theorem dX4_tray_72 : decode cX4_tray 72 = .ok (.aload_n 0, 1) := by decide +kernel
theorem dX4_tray_73 : decode cX4_tray 73 = .ok (.getfield 26, 3) := by decide +kernel
theorem dX4_tray_76 : decode cX4_tray 76 = .ok (.iload 6, 2) := by decide +kernel
theorem dX4_tray_78 : decode cX4_tray 78 = .ok (.aload_n 0, 1) := by decide +kernel
theorem dX4_tray_79 : decode cX4_tray 79 = .ok (.getfield 12, 3) := by decide +kernel
theorem dX4_tray_82 : decode cX4_tray 82 = .ok (.invokevirtual 77, 3) := by decide +kernel
theorem dX4_tray_85 : decode cX4_tray 85 = .ok (.iinc 6 1, 3) := by decide +kernel
theorem dX4_tray_88 : decode cX4_tray 88 = .ok (.goto (-28), 3) := by decide +kernel
theorem dX4_tray_91 : decode cX4_tray 91 = .ok (.aload_n 0, 1) := by decide +kernel
theorem dX4_tray_92 : decode cX4_tray 92 = .ok (.iconst 0, 1) := by decide +kernel
theorem dX4_tray_93 : decode cX4_tray 93 = .ok (.putfield 47, 3) := by decide +kernel
theorem dX4_tray_96 : decode cX4_tray 96 = .ok (.iload 5, 2) := by decide +kernel
theorem dX4_tray_98 : decode cX4_tray 98 = .ok (.ireturn, 1) := by decide +kernel
theorem dX4_checkNodes_0 : decode cX4_checkNodes 0 = .ok (.iload_n 0, 1) := by decide +kernel
theorem dX4_checkNodes_1 : decode cX4_checkNodes 1 = .ok (.iconst 0, 1) := by decide +kernel
theorem dX4_checkNodes_2 : decode cX4_checkNodes 2 = .ok (.bipush 9, 2) := by decide +kernel
theorem dX4_checkNodes_4 : decode cX4_checkNodes 4 = .ok (.invokestatic 58, 3) := by decide +kernel
theorem dX4_checkNodes_7 : decode cX4_checkNodes 7 = .ok (.iload_n 1, 1) := by decide +kernel
theorem dX4_checkNodes_8 : decode cX4_checkNodes 8 = .ok (.iconst 0, 1) := by decide +kernel
theorem dX4_checkNodes_9 : decode cX4_checkNodes 9 = .ok (.bipush 9, 2) := by decide +kernel
theorem dX4_checkNodes_11 : decode cX4_checkNodes 11 = .ok (.invokestatic 58, 3) := by decide +kernel
theorem dX4_checkNodes_14 : decode cX4_checkNodes 14 = .ok (.iload_n 0, 1) := by decide +kernel
theorem dX4_checkNodes_15 : decode cX4_checkNodes 15 = .ok (.iload_n 1, 1) := by decide +kernel
theorem dX4_checkNodes_16 : decode cX4_checkNodes 16 = .ok (.if_icmp .ne 13, 3) := by decide +kernel
theorem dX4_checkNodes_19 : decode cX4_checkNodes 19 = .ok (.new 114, 3) := by decide +kernel
theorem dX4_checkNodes_22 : decode cX4_checkNodes 22 = .ok (.dup, 1) := by decide +kernel
theorem dX4_checkNodes_23 : decode cX4_checkNodes 23 = .ok (.ldc 171, 2) := by decide +kernel
theorem dX4_checkNodes_25 : decode cX4_checkNodes 25 = .ok (.invokespecial 118, 3) := by decide +kernel
theorem dX4_checkNodes_28 : decode cX4_checkNodes 28 = .ok (.athrow, 1) := by decide +kernel
theorem dX4_checkNodes_29 : decode cX4_checkNodes 29 = .ok (.return_, 1) := by decide +kernel
theorem dX4_checkBounds_0 : decode cX4_checkBounds 0 = .ok (.iload_n 0, 1) := by decide +kernel
theorem dX4_checkBounds_1 : decode cX4_checkBounds 1 = .ok (.iload_n 1, 1) := by decide +kernel
theorem dX4_checkBounds_2 : decode cX4_checkBounds 2 = .ok (.if_icmp .lt 8, 3) := by decide +kernel
theorem dX4_checkBounds_5 : decode cX4_checkBounds 5 = .ok (.iload_n 0, 1) := by decide +kernel
theorem dX4_checkBounds_6 : decode cX4_checkBounds 6 = .ok (.iload_n 2, 1) := by decide +kernel
theorem dX4_checkBounds_7 : decode cX4_checkBounds 7 = .ok (.if_icmp .le 13, 3) := by decide +kernel
theorem dX4_checkBounds_10 : decode cX4_checkBounds 10 = .ok (.new 114, 3) := by decide +kernel
theorem dX4_checkBounds_13 : decode cX4_checkBounds 13 = .ok (.dup, 1) := by decide +kernel
theorem dX4_checkBounds_14 : decode cX4_checkBounds 14 = .ok (.ldc 167, 2) := by decide +kernel
theorem dX4_checkBounds_16 : decode cX4_checkBounds 16 = .ok (.invokespecial 118, 3) := by decide +kernel
theorem dX4_checkBounds_19 : decode cX4_checkBounds 19 = .ok (.athrow, 1) := by decide +kernel
theorem dX4_checkBounds_20 : decode cX4_checkBounds 20 = .ok (.return_, 1) := by decide +kernel
theorem dX4_size_0 : decode cX4_size 0 = .ok (.iload_n 1, 1) := by decide +kernel
theorem dX4_size_1 : decode cX4_size 1 = .ok (.iconst 1, 1) := by decide +kernel
theorem dX4_size_2 : decode cX4_size 2 = .ok (.bipush 100, 2) := by decide +kernel
theorem dX4_size_4 : decode cX4_size 4 = .ok (.invokestatic 58, 3) := by decide +kernel
theorem dX4_size_7 : decode cX4_size 7 = .ok (.iload_n 2, 1) := by decide +kernel
theorem dX4_size_8 : decode cX4_size 8 = .ok (.iconst 1, 1) := by decide +kernel
theorem dX4_size_9 : decode cX4_size 9 = .ok (.sipush 1000, 3) := by decide +kernel
theorem dX4_size_12 : decode cX4_size 12 = .ok (.invokestatic 58, 3) := by decide +kernel
theorem dX4_size_15 : decode cX4_size 15 = .ok (.iload_n 3, 1) := by decide +kernel
theorem dX4_size_16 : decode cX4_size 16 = .ok (.iconst 0, 1) := by decide +kernel
theorem dX4_size_17 : decode cX4_size 17 = .ok (.sipush 1000, 3) := by decide +kernel
theorem dX4_size_20 : decode cX4_size 20 = .ok (.invokestatic 58, 3) := by decide +kernel
theorem dX4_size_23 : decode cX4_size 23 = .ok (.aload_n 0, 1) := by decide +kernel
theorem dX4_size_24 : decode cX4_size 24 = .ok (.getfield 19, 3) := by decide +kernel
theorem dX4_size_27 : decode cX4_size 27 = .ok (.getfield 81, 3) := by decide +kernel
theorem dX4_size_30 : decode cX4_size 30 = .ok (.bipush 6, 2) := by decide +kernel
theorem dX4_size_32 : decode cX4_size 32 = .ok (.if_icmp .lt 13, 3) := by decide +kernel
theorem dX4_size_35 : decode cX4_size 35 = .ok (.new 65, 3) := by decide +kernel
theorem dX4_size_38 : decode cX4_size 38 = .ok (.dup, 1) := by decide +kernel
theorem dX4_size_39 : decode cX4_size 39 = .ok (.ldc 82, 2) := by decide +kernel
theorem dX4_size_41 : decode cX4_size 41 = .ok (.invokespecial 69, 3) := by decide +kernel
theorem dX4_size_44 : decode cX4_size 44 = .ok (.athrow, 1) := by decide +kernel
theorem dX4_size_45 : decode cX4_size 45 = .ok (.aload_n 0, 1) := by decide +kernel
theorem dX4_size_46 : decode cX4_size 46 = .ok (.getfield 19, 3) := by decide +kernel
theorem dX4_size_49 : decode cX4_size 49 = .ok (.iload_n 1, 1) := by decide +kernel
theorem dX4_size_50 : decode cX4_size 50 = .ok (.iload_n 2, 1) := by decide +kernel
theorem dX4_size_51 : decode cX4_size 51 = .ok (.iload_n 3, 1) := by decide +kernel
theorem dX4_size_52 : decode cX4_size 52 = .ok (.invokevirtual 84, 3) := by decide +kernel
theorem dX4_size_55 : decode cX4_size 55 = .ok (.ifCond .ne 13, 3) := by decide +kernel
theorem dX4_size_58 : decode cX4_size 58 = .ok (.new 65, 3) := by decide +kernel
theorem dX4_size_61 : decode cX4_size 61 = .ok (.dup, 1) := by decide +kernel
theorem dX4_size_62 : decode cX4_size 62 = .ok (.ldc 88, 2) := by decide +kernel
theorem dX4_size_64 : decode cX4_size 64 = .ok (.invokespecial 69, 3) := by decide +kernel
theorem dX4_size_67 : decode cX4_size 67 = .ok (.athrow, 1) := by decide +kernel
theorem dX4_size_68 : decode cX4_size 68 = .ok (.aload_n 0, 1) := by decide +kernel
theorem dX4_size_69 : decode cX4_size 69 = .ok (.iconst 0, 1) := by decide +kernel
theorem dX4_size_70 : decode cX4_size 70 = .ok (.putfield 47, 3) := by decide +kernel
theorem dX4_size_73 : decode cX4_size 73 = .ok (.aload_n 0, 1) := by decide +kernel
theorem dX4_size_74 : decode cX4_size 74 = .ok (.getfield 19, 3) := by decide +kernel
theorem dX4_size_77 : decode cX4_size 77 = .ok (.iload_n 1, 1) := by decide +kernel
theorem dX4_size_78 : decode cX4_size 78 = .ok (.iload_n 2, 1) := by decide +kernel
theorem dX4_size_79 : decode cX4_size 79 = .ok (.iload_n 3, 1) := by decide +kernel
theorem dX4_size_80 : decode cX4_size 80 = .ok (.invokevirtual 90, 3) := by decide +kernel
theorem dX4_size_83 : decode cX4_size 83 = .ok (.ireturn, 1) := by decide +kernel
theorem dX4_cable_0 : decode cX4_cable 0 = .ok (.iload_n 1, 1) := by decide +kernel
theorem dX4_cable_1 : decode cX4_cable 1 = .ok (.iload_n 2, 1) := by decide +kernel
theorem dX4_cable_2 : decode cX4_cable 2 = .ok (.invokestatic 54, 3) := by decide +kernel
theorem dX4_cable_5 : decode cX4_cable 5 = .ok (.iload_n 3, 1) := by decide +kernel
theorem dX4_cable_6 : decode cX4_cable 6 = .ok (.iconst 1, 1) := by decide +kernel
theorem dX4_cable_7 : decode cX4_cable 7 = .ok (.sipush 1000, 3) := by decide +kernel
theorem dX4_cable_10 : decode cX4_cable 10 = .ok (.invokestatic 58, 3) := by decide +kernel
theorem dX4_cable_13 : decode cX4_cable 13 = .ok (.aload_n 0, 1) := by decide +kernel
theorem dX4_cable_14 : decode cX4_cable 14 = .ok (.getfield 26, 3) := by decide +kernel
theorem dX4_cable_17 : decode cX4_cable 17 = .ok (.getfield 76, 3) := by decide +kernel
theorem dX4_cable_20 : decode cX4_cable 20 = .ok (.bipush 20, 2) := by decide +kernel
theorem dX4_cable_22 : decode cX4_cable 22 = .ok (.if_icmp .lt 13, 3) := by decide +kernel
theorem dX4_cable_25 : decode cX4_cable 25 = .ok (.new 65, 3) := by decide +kernel
theorem dX4_cable_28 : decode cX4_cable 28 = .ok (.dup, 1) := by decide +kernel
theorem dX4_cable_29 : decode cX4_cable 29 = .ok (.ldc 93, 2) := by decide +kernel
theorem dX4_cable_31 : decode cX4_cable 31 = .ok (.invokespecial 69, 3) := by decide +kernel
theorem dX4_cable_34 : decode cX4_cable 34 = .ok (.athrow, 1) := by decide +kernel
theorem dX4_cable_35 : decode cX4_cable 35 = .ok (.aload_n 0, 1) := by decide +kernel
theorem dX4_cable_36 : decode cX4_cable 36 = .ok (.getfield 26, 3) := by decide +kernel
theorem dX4_cable_39 : decode cX4_cable 39 = .ok (.iload_n 1, 1) := by decide +kernel
theorem dX4_cable_40 : decode cX4_cable 40 = .ok (.iload_n 2, 1) := by decide +kernel
theorem dX4_cable_41 : decode cX4_cable 41 = .ok (.iload_n 3, 1) := by decide +kernel
theorem dX4_cable_42 : decode cX4_cable 42 = .ok (.invokevirtual 95, 3) := by decide +kernel
theorem dX4_cable_45 : decode cX4_cable 45 = .ok (.istore 4, 2) := by decide +kernel
theorem dX4_cable_47 : decode cX4_cable 47 = .ok (.aload_n 0, 1) := by decide +kernel
theorem dX4_cable_48 : decode cX4_cable 48 = .ok (.getfield 26, 3) := by decide +kernel
theorem dX4_cable_51 : decode cX4_cable 51 = .ok (.iload 4, 2) := by decide +kernel
theorem dX4_cable_53 : decode cX4_cable 53 = .ok (.aload_n 0, 1) := by decide +kernel
theorem dX4_cable_54 : decode cX4_cable 54 = .ok (.getfield 12, 3) := by decide +kernel
theorem dX4_cable_57 : decode cX4_cable 57 = .ok (.invokevirtual 77, 3) := by decide +kernel
theorem dX4_cable_60 : decode cX4_cable 60 = .ok (.aload_n 0, 1) := by decide +kernel
theorem dX4_cable_61 : decode cX4_cable 61 = .ok (.iconst 0, 1) := by decide +kernel
theorem dX4_cable_62 : decode cX4_cable 62 = .ok (.putfield 47, 3) := by decide +kernel
theorem dX4_cable_65 : decode cX4_cable 65 = .ok (.iload 4, 2) := by decide +kernel
theorem dX4_cable_67 : decode cX4_cable 67 = .ok (.ireturn, 1) := by decide +kernel
theorem dX4_current_0 : decode cX4_current 0 = .ok (.iload_n 1, 1) := by decide +kernel
theorem dX4_current_1 : decode cX4_current 1 = .ok (.aload_n 0, 1) := by decide +kernel
theorem dX4_current_2 : decode cX4_current 2 = .ok (.getfield 26, 3) := by decide +kernel
theorem dX4_current_5 : decode cX4_current 5 = .ok (.getfield 76, 3) := by decide +kernel
theorem dX4_current_8 : decode cX4_current 8 = .ok (.invokestatic 96, 3) := by decide +kernel
theorem dX4_current_11 : decode cX4_current 11 = .ok (.iload_n 2, 1) := by decide +kernel
theorem dX4_current_12 : decode cX4_current 12 = .ok (.iconst 1, 1) := by decide +kernel
theorem dX4_current_13 : decode cX4_current 13 = .ok (.sipush 1000, 3) := by decide +kernel
theorem dX4_current_16 : decode cX4_current 16 = .ok (.invokestatic 58, 3) := by decide +kernel
theorem dX4_current_19 : decode cX4_current 19 = .ok (.aload_n 0, 1) := by decide +kernel
theorem dX4_current_20 : decode cX4_current 20 = .ok (.getfield 26, 3) := by decide +kernel
theorem dX4_current_23 : decode cX4_current 23 = .ok (.getfield 99, 3) := by decide +kernel
theorem dX4_current_26 : decode cX4_current 26 = .ok (.iload_n 1, 1) := by decide +kernel
theorem dX4_current_27 : decode cX4_current 27 = .ok (.iaload, 1) := by decide +kernel
theorem dX4_current_28 : decode cX4_current 28 = .ok (.istore_n 3, 1) := by decide +kernel
theorem dX4_current_29 : decode cX4_current 29 = .ok (.aload_n 0, 1) := by decide +kernel
theorem dX4_current_30 : decode cX4_current 30 = .ok (.getfield 26, 3) := by decide +kernel
theorem dX4_current_33 : decode cX4_current 33 = .ok (.getfield 99, 3) := by decide +kernel
theorem dX4_current_36 : decode cX4_current 36 = .ok (.iload_n 1, 1) := by decide +kernel
theorem dX4_current_37 : decode cX4_current 37 = .ok (.iload_n 2, 1) := by decide +kernel
theorem dX4_current_38 : decode cX4_current 38 = .ok (.iastore, 1) := by decide +kernel
theorem dX4_current_39 : decode cX4_current 39 = .ok (.aload_n 0, 1) := by decide +kernel
theorem dX4_current_40 : decode cX4_current 40 = .ok (.iconst 0, 1) := by decide +kernel
theorem dX4_current_41 : decode cX4_current 41 = .ok (.putfield 47, 3) := by decide +kernel
theorem dX4_current_44 : decode cX4_current 44 = .ok (.iload_n 3, 1) := by decide +kernel
theorem dX4_current_45 : decode cX4_current 45 = .ok (.ireturn, 1) := by decide +kernel
theorem dX4_checkNumber_0 : decode cX4_checkNumber 0 = .ok (.iload_n 0, 1) := by decide +kernel
theorem dX4_checkNumber_1 : decode cX4_checkNumber 1 = .ok (.ifCond .lt 8, 3) := by decide +kernel
theorem dX4_checkNumber_4 : decode cX4_checkNumber 4 = .ok (.iload_n 0, 1) := by decide +kernel
theorem dX4_checkNumber_5 : decode cX4_checkNumber 5 = .ok (.iload_n 1, 1) := by decide +kernel
theorem dX4_checkNumber_6 : decode cX4_checkNumber 6 = .ok (.if_icmp .lt 13, 3) := by decide +kernel
theorem dX4_checkNumber_9 : decode cX4_checkNumber 9 = .ok (.new 114, 3) := by decide +kernel
theorem dX4_checkNumber_12 : decode cX4_checkNumber 12 = .ok (.dup, 1) := by decide +kernel
theorem dX4_checkNumber_13 : decode cX4_checkNumber 13 = .ok (.ldc 169, 2) := by decide +kernel
theorem dX4_checkNumber_15 : decode cX4_checkNumber 15 = .ok (.invokespecial 118, 3) := by decide +kernel
theorem dX4_checkNumber_18 : decode cX4_checkNumber 18 = .ok (.athrow, 1) := by decide +kernel
theorem dX4_checkNumber_19 : decode cX4_checkNumber 19 = .ok (.return_, 1) := by decide +kernel
theorem dX4_room_0 : decode cX4_room 0 = .ok (.iload_n 1, 1) := by decide +kernel
theorem dX4_room_1 : decode cX4_room 1 = .ok (.aload_n 0, 1) := by decide +kernel
theorem dX4_room_2 : decode cX4_room 2 = .ok (.getfield 12, 3) := by decide +kernel
theorem dX4_room_5 : decode cX4_room 5 = .ok (.getfield 62, 3) := by decide +kernel
theorem dX4_room_8 : decode cX4_room 8 = .ok (.invokestatic 96, 3) := by decide +kernel
theorem dX4_room_11 : decode cX4_room 11 = .ok (.iload_n 2, 1) := by decide +kernel
theorem dX4_room_12 : decode cX4_room 12 = .ok (.iconst 1, 1) := by decide +kernel
theorem dX4_room_13 : decode cX4_room 13 = .ok (.sipush 1000, 3) := by decide +kernel
theorem dX4_room_16 : decode cX4_room 16 = .ok (.invokestatic 58, 3) := by decide +kernel
theorem dX4_room_19 : decode cX4_room 19 = .ok (.aload_n 0, 1) := by decide +kernel
theorem dX4_room_20 : decode cX4_room 20 = .ok (.getfield 12, 3) := by decide +kernel
theorem dX4_room_23 : decode cX4_room 23 = .ok (.getfield 103, 3) := by decide +kernel
theorem dX4_room_26 : decode cX4_room 26 = .ok (.iload_n 1, 1) := by decide +kernel
theorem dX4_room_27 : decode cX4_room 27 = .ok (.iaload, 1) := by decide +kernel
theorem dX4_room_28 : decode cX4_room 28 = .ok (.istore_n 3, 1) := by decide +kernel
theorem dX4_room_29 : decode cX4_room 29 = .ok (.aload_n 0, 1) := by decide +kernel
theorem dX4_room_30 : decode cX4_room 30 = .ok (.getfield 12, 3) := by decide +kernel
theorem dX4_room_33 : decode cX4_room 33 = .ok (.getfield 103, 3) := by decide +kernel
theorem dX4_room_36 : decode cX4_room 36 = .ok (.iload_n 1, 1) := by decide +kernel
theorem dX4_room_37 : decode cX4_room 37 = .ok (.iload_n 2, 1) := by decide +kernel
theorem dX4_room_38 : decode cX4_room 38 = .ok (.iastore, 1) := by decide +kernel
theorem dX4_room_39 : decode cX4_room 39 = .ok (.aload_n 0, 1) := by decide +kernel
theorem dX4_room_40 : decode cX4_room 40 = .ok (.iconst 0, 1) := by decide +kernel
theorem dX4_room_41 : decode cX4_room 41 = .ok (.putfield 47, 3) := by decide +kernel
theorem dX4_room_44 : decode cX4_room 44 = .ok (.iload_n 3, 1) := by decide +kernel
theorem dX4_room_45 : decode cX4_room 45 = .ok (.ireturn, 1) := by decide +kernel
theorem dX4_limit_0 : decode cX4_limit 0 = .ok (.iload_n 1, 1) := by decide +kernel
theorem dX4_limit_1 : decode cX4_limit 1 = .ok (.iconst 0, 1) := by decide +kernel
theorem dX4_limit_2 : decode cX4_limit 2 = .ok (.ldc 106, 2) := by decide +kernel
theorem dX4_limit_4 : decode cX4_limit 4 = .ok (.invokestatic 58, 3) := by decide +kernel
theorem dX4_limit_7 : decode cX4_limit 7 = .ok (.aload_n 0, 1) := by decide +kernel
theorem dX4_limit_8 : decode cX4_limit 8 = .ok (.getfield 43, 3) := by decide +kernel
theorem dX4_limit_11 : decode cX4_limit 11 = .ok (.istore_n 2, 1) := by decide +kernel
theorem dX4_limit_12 : decode cX4_limit 12 = .ok (.aload_n 0, 1) := by decide +kernel
theorem dX4_limit_13 : decode cX4_limit 13 = .ok (.iload_n 1, 1) := by decide +kernel
theorem dX4_limit_14 : decode cX4_limit 14 = .ok (.putfield 43, 3) := by decide +kernel
theorem dX4_limit_17 : decode cX4_limit 17 = .ok (.aload_n 0, 1) := by decide +kernel
theorem dX4_limit_18 : decode cX4_limit 18 = .ok (.iconst 0, 1) := by decide +kernel
theorem dX4_limit_19 : decode cX4_limit 19 = .ok (.putfield 47, 3) := by decide +kernel
theorem dX4_limit_22 : decode cX4_limit 22 = .ok (.iload_n 2, 1) := by decide +kernel
theorem dX4_limit_23 : decode cX4_limit 23 = .ok (.ireturn, 1) := by decide +kernel
theorem dX4_way_0 : decode cX4_way 0 = .ok (.iload_n 1, 1) := by decide +kernel
theorem dX4_way_1 : decode cX4_way 1 = .ok (.aload_n 0, 1) := by decide +kernel
theorem dX4_way_2 : decode cX4_way 2 = .ok (.getfield 26, 3) := by decide +kernel
theorem dX4_way_5 : decode cX4_way 5 = .ok (.getfield 76, 3) := by decide +kernel
theorem dX4_way_8 : decode cX4_way 8 = .ok (.invokestatic 96, 3) := by decide +kernel
theorem dX4_way_11 : decode cX4_way 11 = .ok (.aload_n 0, 1) := by decide +kernel
theorem dX4_way_12 : decode cX4_way 12 = .ok (.getfield 26, 3) := by decide +kernel
theorem dX4_way_15 : decode cX4_way 15 = .ok (.iload_n 1, 1) := by decide +kernel
theorem dX4_way_16 : decode cX4_way 16 = .ok (.invokevirtual 107, 3) := by decide +kernel
theorem dX4_way_19 : decode cX4_way 19 = .ok (.ifCond .eq 7, 3) := by decide +kernel
theorem dX4_way_22 : decode cX4_way 22 = .ok (.iconst (-1), 1) := by decide +kernel
theorem dX4_way_23 : decode cX4_way 23 = .ok (.goto 12, 3) := by decide +kernel
theorem dX4_way_26 : decode cX4_way 26 = .ok (.aload_n 0, 1) := by decide +kernel
theorem dX4_way_27 : decode cX4_way 27 = .ok (.getfield 26, 3) := by decide +kernel
theorem dX4_way_30 : decode cX4_way 30 = .ok (.getfield 111, 3) := by decide +kernel
theorem dX4_way_33 : decode cX4_way 33 = .ok (.iload_n 1, 1) := by decide +kernel
theorem dX4_way_34 : decode cX4_way 34 = .ok (.iaload, 1) := by decide +kernel
theorem dX4_way_35 : decode cX4_way 35 = .ok (.ireturn, 1) := by decide +kernel
theorem dX4_way2_0 : decode cX4_way2 0 = .ok (.iload_n 1, 1) := by decide +kernel
theorem dX4_way2_1 : decode cX4_way2 1 = .ok (.aload_n 0, 1) := by decide +kernel
theorem dX4_way2_2 : decode cX4_way2 2 = .ok (.getfield 26, 3) := by decide +kernel
theorem dX4_way2_5 : decode cX4_way2 5 = .ok (.getfield 76, 3) := by decide +kernel
theorem dX4_way2_8 : decode cX4_way2 8 = .ok (.invokestatic 96, 3) := by decide +kernel
theorem dX4_way2_11 : decode cX4_way2 11 = .ok (.iload_n 2, 1) := by decide +kernel
theorem dX4_way2_12 : decode cX4_way2 12 = .ok (.ifCond .ge 13, 3) := by decide +kernel
theorem dX4_way2_15 : decode cX4_way2 15 = .ok (.new 114, 3) := by decide +kernel
theorem dX4_way2_18 : decode cX4_way2 18 = .ok (.dup, 1) := by decide +kernel
theorem dX4_way2_19 : decode cX4_way2 19 = .ok (.ldc 116, 2) := by decide +kernel
theorem dX4_way2_21 : decode cX4_way2 21 = .ok (.invokespecial 118, 3) := by decide +kernel
theorem dX4_way2_24 : decode cX4_way2 24 = .ok (.athrow, 1) := by decide +kernel
theorem dX4_way2_25 : decode cX4_way2 25 = .ok (.iload_n 2, 1) := by decide +kernel
theorem dX4_way2_26 : decode cX4_way2 26 = .ok (.aload_n 0, 1) := by decide +kernel
theorem dX4_way2_27 : decode cX4_way2 27 = .ok (.getfield 26, 3) := by decide +kernel
theorem dX4_way2_30 : decode cX4_way2 30 = .ok (.getfield 119, 3) := by decide +kernel
theorem dX4_way2_33 : decode cX4_way2 33 = .ok (.iload_n 1, 1) := by decide +kernel
theorem dX4_way2_34 : decode cX4_way2 34 = .ok (.iaload, 1) := by decide +kernel
theorem dX4_way2_35 : decode cX4_way2 35 = .ok (.if_icmp .ge 17, 3) := by decide +kernel
theorem dX4_way2_38 : decode cX4_way2 38 = .ok (.aload_n 0, 1) := by decide +kernel
theorem dX4_way2_39 : decode cX4_way2 39 = .ok (.getfield 26, 3) := by decide +kernel
theorem dX4_way2_42 : decode cX4_way2 42 = .ok (.getfield 122, 3) := by decide +kernel
theorem dX4_way2_45 : decode cX4_way2 45 = .ok (.iload_n 1, 1) := by decide +kernel
theorem dX4_way2_46 : decode cX4_way2 46 = .ok (.aaload, 1) := by decide +kernel
theorem dX4_way2_47 : decode cX4_way2 47 = .ok (.iload_n 2, 1) := by decide +kernel
theorem dX4_way2_48 : decode cX4_way2 48 = .ok (.iaload, 1) := by decide +kernel
theorem dX4_way2_49 : decode cX4_way2 49 = .ok (.goto 4, 3) := by decide +kernel
theorem dX4_way2_52 : decode cX4_way2 52 = .ok (.iconst (-1), 1) := by decide +kernel
theorem dX4_way2_53 : decode cX4_way2 53 = .ok (.ireturn, 1) := by decide +kernel
theorem dX4_chosen_0 : decode cX4_chosen 0 = .ok (.iload_n 1, 1) := by decide +kernel
theorem dX4_chosen_1 : decode cX4_chosen 1 = .ok (.aload_n 0, 1) := by decide +kernel
theorem dX4_chosen_2 : decode cX4_chosen 2 = .ok (.getfield 26, 3) := by decide +kernel
theorem dX4_chosen_5 : decode cX4_chosen 5 = .ok (.getfield 76, 3) := by decide +kernel
theorem dX4_chosen_8 : decode cX4_chosen 8 = .ok (.invokestatic 96, 3) := by decide +kernel
theorem dX4_chosen_11 : decode cX4_chosen 11 = .ok (.aload_n 0, 1) := by decide +kernel
theorem dX4_chosen_12 : decode cX4_chosen 12 = .ok (.invokevirtual 126, 3) := by decide +kernel
theorem dX4_chosen_15 : decode cX4_chosen 15 = .ok (.aload_n 0, 1) := by decide +kernel
theorem dX4_chosen_16 : decode cX4_chosen 16 = .ok (.getfield 51, 3) := by decide +kernel
theorem dX4_chosen_19 : decode cX4_chosen 19 = .ok (.ifCond .eq 15, 3) := by decide +kernel
theorem dX4_chosen_22 : decode cX4_chosen 22 = .ok (.aload_n 0, 1) := by decide +kernel
theorem dX4_chosen_23 : decode cX4_chosen 23 = .ok (.getfield 35, 3) := by decide +kernel
theorem dX4_chosen_26 : decode cX4_chosen 26 = .ok (.getfield 129, 3) := by decide +kernel
theorem dX4_chosen_29 : decode cX4_chosen 29 = .ok (.iload_n 1, 1) := by decide +kernel
theorem dX4_chosen_30 : decode cX4_chosen 30 = .ok (.iaload, 1) := by decide +kernel
theorem dX4_chosen_31 : decode cX4_chosen 31 = .ok (.goto 4, 3) := by decide +kernel
theorem dX4_chosen_34 : decode cX4_chosen 34 = .ok (.iconst (-1), 1) := by decide +kernel
theorem dX4_chosen_35 : decode cX4_chosen 35 = .ok (.ireturn, 1) := by decide +kernel
theorem dX4_told_0 : decode cX4_told 0 = .ok (.iload_n 1, 1) := by decide +kernel
theorem dX4_told_1 : decode cX4_told 1 = .ok (.aload_n 0, 1) := by decide +kernel
theorem dX4_told_2 : decode cX4_told 2 = .ok (.getfield 12, 3) := by decide +kernel
theorem dX4_told_5 : decode cX4_told 5 = .ok (.getfield 62, 3) := by decide +kernel
theorem dX4_told_8 : decode cX4_told 8 = .ok (.invokestatic 96, 3) := by decide +kernel
theorem dX4_told_11 : decode cX4_told 11 = .ok (.iload_n 2, 1) := by decide +kernel
theorem dX4_told_12 : decode cX4_told 12 = .ok (.iconst 0, 1) := by decide +kernel
theorem dX4_told_13 : decode cX4_told 13 = .ok (.iconst 2, 1) := by decide +kernel
theorem dX4_told_14 : decode cX4_told 14 = .ok (.invokestatic 58, 3) := by decide +kernel
theorem dX4_told_17 : decode cX4_told 17 = .ok (.iload_n 2, 1) := by decide +kernel
theorem dX4_told_18 : decode cX4_told 18 = .ok (.iconst 2, 1) := by decide +kernel
theorem dX4_told_19 : decode cX4_told 19 = .ok (.if_icmp .ne 12, 3) := by decide +kernel
theorem dX4_told_22 : decode cX4_told 22 = .ok (.aload_n 0, 1) := by decide +kernel
theorem dX4_told_23 : decode cX4_told 23 = .ok (.getfield 26, 3) := by decide +kernel
theorem dX4_told_26 : decode cX4_told 26 = .ok (.iload_n 1, 1) := by decide +kernel
theorem dX4_told_27 : decode cX4_told 27 = .ok (.invokevirtual 132, 3) := by decide +kernel
theorem dX4_told_30 : decode cX4_told 30 = .ok (.ireturn, 1) := by decide +kernel
theorem dX4_told_31 : decode cX4_told 31 = .ok (.aload_n 0, 1) := by decide +kernel
theorem dX4_told_32 : decode cX4_told 32 = .ok (.invokevirtual 126, 3) := by decide +kernel
theorem dX4_told_35 : decode cX4_told 35 = .ok (.aload_n 0, 1) := by decide +kernel
theorem dX4_told_36 : decode cX4_told 36 = .ok (.getfield 51, 3) := by decide +kernel
theorem dX4_told_39 : decode cX4_told 39 = .ok (.ifCond .ne 5, 3) := by decide +kernel
theorem dX4_told_42 : decode cX4_told 42 = .ok (.iconst (-1), 1) := by decide +kernel
theorem dX4_told_43 : decode cX4_told 43 = .ok (.ireturn, 1) := by decide +kernel
theorem dX4_told_44 : decode cX4_told 44 = .ok (.iload_n 2, 1) := by decide +kernel
theorem dX4_told_45 : decode cX4_told 45 = .ok (.iconst 1, 1) := by decide +kernel
theorem dX4_told_46 : decode cX4_told 46 = .ok (.if_icmp .ne 14, 3) := by decide +kernel
theorem dX4_told_49 : decode cX4_told 49 = .ok (.aload_n 0, 1) := by decide +kernel
theorem dX4_told_50 : decode cX4_told 50 = .ok (.getfield 35, 3) := by decide +kernel
theorem dX4_told_53 : decode cX4_told 53 = .ok (.iload_n 1, 1) := by decide +kernel
theorem dX4_told_54 : decode cX4_told 54 = .ok (.invokevirtual 136, 3) := by decide +kernel
theorem dX4_told_57 : decode cX4_told 57 = .ok (.goto 12, 3) := by decide +kernel
theorem dX4_told_60 : decode cX4_told 60 = .ok (.aload_n 0, 1) := by decide +kernel
theorem dX4_told_61 : decode cX4_told 61 = .ok (.getfield 35, 3) := by decide +kernel
theorem dX4_told_64 : decode cX4_told 64 = .ok (.getfield 139, 3) := by decide +kernel
theorem dX4_told_67 : decode cX4_told 67 = .ok (.iload_n 1, 1) := by decide +kernel
theorem dX4_told_68 : decode cX4_told 68 = .ok (.iaload, 1) := by decide +kernel
theorem dX4_told_69 : decode cX4_told 69 = .ok (.ireturn, 1) := by decide +kernel
theorem dX4_cableAt_0 : decode cX4_cableAt 0 = .ok (.iload_n 1, 1) := by decide +kernel
theorem dX4_cableAt_1 : decode cX4_cableAt 1 = .ok (.aload_n 0, 1) := by decide +kernel
theorem dX4_cableAt_2 : decode cX4_cableAt 2 = .ok (.getfield 26, 3) := by decide +kernel
theorem dX4_cableAt_5 : decode cX4_cableAt 5 = .ok (.getfield 76, 3) := by decide +kernel
theorem dX4_cableAt_8 : decode cX4_cableAt 8 = .ok (.invokestatic 96, 3) := by decide +kernel
theorem dX4_cableAt_11 : decode cX4_cableAt 11 = .ok (.iload_n 2, 1) := by decide +kernel
theorem dX4_cableAt_12 : decode cX4_cableAt 12 = .ok (.iconst 0, 1) := by decide +kernel
theorem dX4_cableAt_13 : decode cX4_cableAt 13 = .ok (.iconst 1, 1) := by decide +kernel
theorem dX4_cableAt_14 : decode cX4_cableAt 14 = .ok (.invokestatic 58, 3) := by decide +kernel
theorem dX4_cableAt_17 : decode cX4_cableAt 17 = .ok (.aload_n 0, 1) := by decide +kernel
theorem dX4_cableAt_18 : decode cX4_cableAt 18 = .ok (.invokevirtual 126, 3) := by decide +kernel
theorem dX4_cableAt_21 : decode cX4_cableAt 21 = .ok (.aload_n 0, 1) := by decide +kernel
theorem dX4_cableAt_22 : decode cX4_cableAt 22 = .ok (.getfield 51, 3) := by decide +kernel
theorem dX4_cableAt_25 : decode cX4_cableAt 25 = .ok (.ifCond .ne 5, 3) := by decide +kernel
theorem dX4_cableAt_28 : decode cX4_cableAt 28 = .ok (.iconst (-1), 1) := by decide +kernel
theorem dX4_cableAt_29 : decode cX4_cableAt 29 = .ok (.ireturn, 1) := by decide +kernel
theorem dX4_cableAt_30 : decode cX4_cableAt 30 = .ok (.iload_n 2, 1) := by decide +kernel
theorem dX4_cableAt_31 : decode cX4_cableAt 31 = .ok (.ifCond .ne 14, 3) := by decide +kernel
theorem dX4_cableAt_34 : decode cX4_cableAt 34 = .ok (.aload_n 0, 1) := by decide +kernel
theorem dX4_cableAt_35 : decode cX4_cableAt 35 = .ok (.getfield 35, 3) := by decide +kernel
theorem dX4_cableAt_38 : decode cX4_cableAt 38 = .ok (.iload_n 1, 1) := by decide +kernel
theorem dX4_cableAt_39 : decode cX4_cableAt 39 = .ok (.invokevirtual 142, 3) := by decide +kernel
theorem dX4_cableAt_42 : decode cX4_cableAt 42 = .ok (.goto 11, 3) := by decide +kernel
theorem dX4_cableAt_45 : decode cX4_cableAt 45 = .ok (.aload_n 0, 1) := by decide +kernel
theorem dX4_cableAt_46 : decode cX4_cableAt 46 = .ok (.getfield 35, 3) := by decide +kernel
theorem dX4_cableAt_49 : decode cX4_cableAt 49 = .ok (.iload_n 1, 1) := by decide +kernel
theorem dX4_cableAt_50 : decode cX4_cableAt 50 = .ok (.invokevirtual 145, 3) := by decide +kernel
theorem dX4_cableAt_53 : decode cX4_cableAt 53 = .ok (.ireturn, 1) := by decide +kernel
theorem dX4_right_0 : decode cX4_right 0 = .ok (.lload_n 1, 1) := by decide +kernel
theorem dX4_right_1 : decode cX4_right 1 = .ok (.lconst 0, 1) := by decide +kernel
theorem dX4_right_2 : decode cX4_right 2 = .ok (.lcmp, 1) := by decide +kernel
theorem dX4_right_3 : decode cX4_right 3 = .ok (.ifCond .ge 13, 3) := by decide +kernel
theorem dX4_right_6 : decode cX4_right 6 = .ok (.new 114, 3) := by decide +kernel
theorem dX4_right_9 : decode cX4_right 9 = .ok (.dup, 1) := by decide +kernel
theorem dX4_right_10 : decode cX4_right 10 = .ok (.ldc 152, 2) := by decide +kernel
theorem dX4_right_12 : decode cX4_right 12 = .ok (.invokespecial 118, 3) := by decide +kernel
theorem dX4_right_15 : decode cX4_right 15 = .ok (.athrow, 1) := by decide +kernel
theorem dX4_right_16 : decode cX4_right 16 = .ok (.lload_n 1, 1) := by decide +kernel
theorem dX4_right_17 : decode cX4_right 17 = .ok (.lstore_n 3, 1) := by decide +kernel
theorem dX4_right_18 : decode cX4_right 18 = .ok (.iconst 0, 1) := by decide +kernel
theorem dX4_right_19 : decode cX4_right 19 = .ok (.istore 5, 2) := by decide +kernel
theorem dX4_right_21 : decode cX4_right 21 = .ok (.iload 5, 2) := by decide +kernel
theorem dX4_right_23 : decode cX4_right 23 = .ok (.aload_n 0, 1) := by decide +kernel
theorem dX4_right_24 : decode cX4_right 24 = .ok (.getfield 26, 3) := by decide +kernel
theorem dX4_right_27 : decode cX4_right 27 = .ok (.getfield 76, 3) := by decide +kernel
theorem dX4_right_30 : decode cX4_right 30 = .ok (.if_icmp .ge 47, 3) := by decide +kernel
theorem dX4_right_33 : decode cX4_right 33 = .ok (.lload_n 3, 1) := by decide +kernel
theorem dX4_right_34 : decode cX4_right 34 = .ok (.ldc2_w 154, 3) := by decide +kernel
theorem dX4_right_37 : decode cX4_right 37 = .ok (.lrem, 1) := by decide +kernel
theorem dX4_right_38 : decode cX4_right 38 = .ok (.l2i, 1) := by decide +kernel
theorem dX4_right_39 : decode cX4_right 39 = .ok (.istore 6, 2) := by decide +kernel
theorem dX4_right_41 : decode cX4_right 41 = .ok (.iload 6, 2) := by decide +kernel
theorem dX4_right_43 : decode cX4_right 43 = .ok (.aload_n 0, 1) := by decide +kernel
theorem dX4_right_44 : decode cX4_right 44 = .ok (.getfield 19, 3) := by decide +kernel
theorem dX4_right_47 : decode cX4_right 47 = .ok (.getfield 81, 3) := by decide +kernel
theorem dX4_right_50 : decode cX4_right 50 = .ok (.invokestatic 96, 3) := by decide +kernel
theorem dX4_right_53 : decode cX4_right 53 = .ok (.aload_n 0, 1) := by decide +kernel
theorem dX4_right_54 : decode cX4_right 54 = .ok (.getfield 39, 3) := by decide +kernel
theorem dX4_right_57 : decode cX4_right 57 = .ok (.getfield 129, 3) := by decide +kernel
theorem dX4_right_60 : decode cX4_right 60 = .ok (.iload 5, 2) := by decide +kernel
theorem dX4_right_62 : decode cX4_right 62 = .ok (.iload 6, 2) := by decide +kernel
theorem dX4_right_64 : decode cX4_right 64 = .ok (.iastore, 1) := by decide +kernel
theorem dX4_right_65 : decode cX4_right 65 = .ok (.lload_n 3, 1) := by decide +kernel
theorem dX4_right_66 : decode cX4_right 66 = .ok (.ldc2_w 154, 3) := by decide +kernel
theorem dX4_right_69 : decode cX4_right 69 = .ok (.ldiv, 1) := by decide +kernel
theorem dX4_right_70 : decode cX4_right 70 = .ok (.lstore_n 3, 1) := by decide +kernel
theorem dX4_right_71 : decode cX4_right 71 = .ok (.iinc 5 1, 3) := by decide +kernel
theorem dX4_right_74 : decode cX4_right 74 = .ok (.goto (-53), 3) := by decide +kernel
theorem dX4_right_77 : decode cX4_right 77 = .ok (.lload_n 3, 1) := by decide +kernel
theorem dX4_right_78 : decode cX4_right 78 = .ok (.lconst 0, 1) := by decide +kernel
theorem dX4_right_79 : decode cX4_right 79 = .ok (.lcmp, 1) := by decide +kernel
theorem dX4_right_80 : decode cX4_right 80 = .ok (.ifCond .eq 13, 3) := by decide +kernel
theorem dX4_right_83 : decode cX4_right 83 = .ok (.new 114, 3) := by decide +kernel
theorem dX4_right_86 : decode cX4_right 86 = .ok (.dup, 1) := by decide +kernel
theorem dX4_right_87 : decode cX4_right 87 = .ok (.ldc 156, 2) := by decide +kernel
theorem dX4_right_89 : decode cX4_right 89 = .ok (.invokespecial 118, 3) := by decide +kernel
theorem dX4_right_92 : decode cX4_right 92 = .ok (.athrow, 1) := by decide +kernel
theorem dX4_right_93 : decode cX4_right 93 = .ok (.aload_n 0, 1) := by decide +kernel
theorem dX4_right_94 : decode cX4_right 94 = .ok (.getfield 39, 3) := by decide +kernel
theorem dX4_right_97 : decode cX4_right 97 = .ok (.invokevirtual 158, 3) := by decide +kernel
theorem dX4_right_100 : decode cX4_right 100 = .ok (.aload_n 0, 1) := by decide +kernel
theorem dX4_right_101 : decode cX4_right 101 = .ok (.getfield 39, 3) := by decide +kernel
theorem dX4_right_104 : decode cX4_right 104 = .ok (.aload_n 0, 1) := by decide +kernel
theorem dX4_right_105 : decode cX4_right 105 = .ok (.getfield 43, 3) := by decide +kernel
theorem dX4_right_108 : decode cX4_right 108 = .ok (.invokevirtual 161, 3) := by decide +kernel
theorem dX4_right_111 : decode cX4_right 111 = .ok (.ireturn, 1) := by decide +kernel
