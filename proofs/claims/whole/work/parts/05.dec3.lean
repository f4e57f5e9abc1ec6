theorem dX5_init_0 : decode cX5_init 0 = .ok (.aload_n 0, 1) := by decide +kernel
theorem dX5_init_1 : decode cX5_init 1 = .ok (.invokespecial 1, 3) := by decide +kernel
theorem dX5_init_4 : decode cX5_init 4 = .ok (.aload_n 0, 1) := by decide +kernel
theorem dX5_init_5 : decode cX5_init 5 = .ok (.bipush 30, 2) := by decide +kernel
theorem dX5_init_7 : decode cX5_init 7 = .ok (.newarray .int, 2) := by decide +kernel
theorem dX5_init_9 : decode cX5_init 9 = .ok (.putfield 7, 3) := by decide +kernel
theorem dX5_init_12 : decode cX5_init 12 = .ok (.aload_n 0, 1) := by decide +kernel
theorem dX5_init_13 : decode cX5_init 13 = .ok (.bipush 15, 2) := by decide +kernel
theorem dX5_init_15 : decode cX5_init 15 = .ok (.newarray .int, 2) := by decide +kernel
theorem dX5_init_17 : decode cX5_init 17 = .ok (.putfield 13, 3) := by decide +kernel
theorem dX5_init_20 : decode cX5_init 20 = .ok (.aload_n 0, 1) := by decide +kernel
theorem dX5_init_21 : decode cX5_init 21 = .ok (.bipush 15, 2) := by decide +kernel
theorem dX5_init_23 : decode cX5_init 23 = .ok (.newarray .int, 2) := by decide +kernel
theorem dX5_init_25 : decode cX5_init 25 = .ok (.putfield 16, 3) := by decide +kernel
theorem dX5_init_28 : decode cX5_init 28 = .ok (.aload_n 0, 1) := by decide +kernel
theorem dX5_init_29 : decode cX5_init 29 = .ok (.bipush 6, 2) := by decide +kernel
theorem dX5_init_31 : decode cX5_init 31 = .ok (.newarray .int, 2) := by decide +kernel
theorem dX5_init_33 : decode cX5_init 33 = .ok (.putfield 19, 3) := by decide +kernel
theorem dX5_init_36 : decode cX5_init 36 = .ok (.aload_n 0, 1) := by decide +kernel
theorem dX5_init_37 : decode cX5_init 37 = .ok (.bipush 6, 2) := by decide +kernel
theorem dX5_init_39 : decode cX5_init 39 = .ok (.newarray .int, 2) := by decide +kernel
theorem dX5_init_41 : decode cX5_init 41 = .ok (.putfield 22, 3) := by decide +kernel
theorem dX5_init_44 : decode cX5_init 44 = .ok (.aload_n 0, 1) := by decide +kernel
theorem dX5_init_45 : decode cX5_init 45 = .ok (.bipush 6, 2) := by decide +kernel
theorem dX5_init_47 : decode cX5_init 47 = .ok (.newarray .int, 2) := by decide +kernel
theorem dX5_init_49 : decode cX5_init 49 = .ok (.putfield 25, 3) := by decide +kernel
theorem dX5_init_52 : decode cX5_init 52 = .ok (.aload_n 0, 1) := by decide +kernel
theorem dX5_init_53 : decode cX5_init 53 = .ok (.bipush 20, 2) := by decide +kernel
theorem dX5_init_55 : decode cX5_init 55 = .ok (.newarray .int, 2) := by decide +kernel
theorem dX5_init_57 : decode cX5_init 57 = .ok (.putfield 28, 3) := by decide +kernel
theorem dX5_init_60 : decode cX5_init 60 = .ok (.aload_n 0, 1) := by decide +kernel
theorem dX5_init_61 : decode cX5_init 61 = .ok (.bipush 20, 2) := by decide +kernel
theorem dX5_init_63 : decode cX5_init 63 = .ok (.newarray .int, 2) := by decide +kernel
theorem dX5_init_65 : decode cX5_init 65 = .ok (.putfield 31, 3) := by decide +kernel
theorem dX5_init_68 : decode cX5_init 68 = .ok (.aload_n 0, 1) := by decide +kernel
theorem dX5_init_69 : decode cX5_init 69 = .ok (.bipush 20, 2) := by decide +kernel
theorem dX5_init_71 : decode cX5_init 71 = .ok (.newarray .int, 2) := by decide +kernel
theorem dX5_init_73 : decode cX5_init 73 = .ok (.putfield 34, 3) := by decide +kernel
theorem dX5_init_76 : decode cX5_init 76 = .ok (.aload_n 0, 1) := by decide +kernel
theorem dX5_init_77 : decode cX5_init 77 = .ok (.ldc 37, 2) := by decide +kernel
theorem dX5_init_79 : decode cX5_init 79 = .ok (.putfield 38, 3) := by decide +kernel
theorem dX5_init_82 : decode cX5_init 82 = .ok (.aload_n 0, 1) := by decide +kernel
theorem dX5_init_83 : decode cX5_init 83 = .ok (.bipush 10, 2) := by decide +kernel
theorem dX5_init_85 : decode cX5_init 85 = .ok (.newarray .int, 2) := by decide +kernel
theorem dX5_init_87 : decode cX5_init 87 = .ok (.putfield 42, 3) := by decide +kernel
theorem dX5_init_90 : decode cX5_init 90 = .ok (.aload_n 0, 1) := by decide +kernel
theorem dX5_init_91 : decode cX5_init 91 = .ok (.sipush 320, 3) := by decide +kernel
theorem dX5_init_94 : decode cX5_init 94 = .ok (.newarray .int, 2) := by decide +kernel
theorem dX5_init_96 : decode cX5_init 96 = .ok (.putfield 45, 3) := by decide +kernel
theorem dX5_init_99 : decode cX5_init 99 = .ok (.aload_n 0, 1) := by decide +kernel
theorem dX5_init_100 : decode cX5_init 100 = .ok (.bipush 20, 2) := by decide +kernel
theorem dX5_init_102 : decode cX5_init 102 = .ok (.newarray .int, 2) := by decide +kernel
theorem dX5_init_104 : decode cX5_init 104 = .ok (.putfield 48, 3) := by decide +kernel
theorem dX5_init_107 : decode cX5_init 107 = .ok (.aload_n 0, 1) := by decide +kernel
theorem dX5_init_108 : decode cX5_init 108 = .ok (.bipush 20, 2) := by decide +kernel
theorem dX5_init_110 : decode cX5_init 110 = .ok (.newarray .int, 2) := by decide +kernel
theorem dX5_init_112 : decode cX5_init 112 = .ok (.putfield 51, 3) := by decide +kernel
theorem dX5_init_115 : decode cX5_init 115 = .ok (.aload_n 0, 1) := by decide +kernel
theorem dX5_init_116 : decode cX5_init 116 = .ok (.bipush 20, 2) := by decide +kernel
theorem dX5_init_118 : decode cX5_init 118 = .ok (.newarray .boolean, 2) := by decide +kernel
theorem dX5_init_120 : decode cX5_init 120 = .ok (.putfield 54, 3) := by decide +kernel
theorem dX5_init_123 : decode cX5_init 123 = .ok (.return_, 1) := by decide +kernel
theorem dX5_thrown_0 : decode cX5_thrown 0 = .ok (.aload_n 0, 1) := by decide +kernel
theorem dX5_thrown_1 : decode cX5_thrown 1 = .ok (.getfield 58, 3) := by decide +kernel
theorem dX5_thrown_4 : decode cX5_thrown 4 = .ok (.ireturn, 1) := by decide +kernel
theorem dX5_tray_0 : decode cX5_tray 0 = .ok (.iload_n 1, 1) := by decide +kernel
theorem dX5_tray_1 : decode cX5_tray 1 = .ok (.invokestatic 61, 3) := by decide +kernel
theorem dX5_tray_4 : decode cX5_tray 4 = .ok (.ifCond .eq 44, 3) := by decide +kernel
theorem dX5_tray_7 : decode cX5_tray 7 = .ok (.iload_n 2, 1) := by decide +kernel
theorem dX5_tray_8 : decode cX5_tray 8 = .ok (.invokestatic 61, 3) := by decide +kernel
theorem dX5_tray_11 : decode cX5_tray 11 = .ok (.ifCond .eq 37, 3) := by decide +kernel
theorem dX5_tray_14 : decode cX5_tray 14 = .ok (.iload_n 1, 1) := by decide +kernel
theorem dX5_tray_15 : decode cX5_tray 15 = .ok (.iload_n 2, 1) := by decide +kernel
theorem dX5_tray_16 : decode cX5_tray 16 = .ok (.if_icmp .eq 32, 3) := by decide +kernel
theorem dX5_tray_19 : decode cX5_tray 19 = .ok (.iload_n 3, 1) := by decide +kernel
theorem dX5_tray_20 : decode cX5_tray 20 = .ok (.i2l, 1) := by decide +kernel
theorem dX5_tray_21 : decode cX5_tray 21 = .ok (.lconst 1, 1) := by decide +kernel
theorem dX5_tray_22 : decode cX5_tray 22 = .ok (.ldc2_w 65, 3) := by decide +kernel
theorem dX5_tray_25 : decode cX5_tray 25 = .ok (.invokestatic 67, 3) := by decide +kernel
theorem dX5_tray_28 : decode cX5_tray 28 = .ok (.ifCond .eq 20, 3) := by decide +kernel
theorem dX5_tray_31 : decode cX5_tray 31 = .ok (.iload 4, 2) := by decide +kernel
theorem dX5_tray_33 : decode cX5_tray 33 = .ok (.i2l, 1) := by decide +kernel
theorem dX5_tray_34 : decode cX5_tray 34 = .ok (.lconst 1, 1) := by decide +kernel
theorem dX5_tray_35 : decode cX5_tray 35 = .ok (.ldc2_w 71, 3) := by decide +kernel
theorem dX5_tray_38 : decode cX5_tray 38 = .ok (.invokestatic 67, 3) := by decide +kernel
theorem dX5_tray_41 : decode cX5_tray 41 = .ok (.ifCond .eq 7, 3) := by decide +kernel
theorem dX5_tray_44 : decode cX5_tray 44 = .ok (.iconst 1, 1) := by decide +kernel
theorem dX5_tray_45 : decode cX5_tray 45 = .ok (.goto 4, 3) := by decide +kernel
theorem dX5_tray_48 : decode cX5_tray 48 = .ok (.iconst 0, 1) := by decide +kernel
theorem dX5_tray_49 : decode cX5_tray 49 = .ok (.istore 5, 2) := by decide +kernel
theorem dX5_tray_51 : decode cX5_tray 51 = .ok (.aload_n 0, 1) := by decide +kernel
theorem dX5_tray_52 : decode cX5_tray 52 = .ok (.iload 5, 2) := by decide +kernel
theorem dX5_tray_54 : decode cX5_tray 54 = .ok (.ifCond .ne 7, 3) := by decide +kernel
theorem dX5_tray_57 : decode cX5_tray 57 = .ok (.iconst 1, 1) := by decide +kernel
theorem dX5_tray_58 : decode cX5_tray 58 = .ok (.goto 17, 3) := by decide +kernel
theorem dX5_tray_61 : decode cX5_tray 61 = .ok (.aload_n 0, 1) := by decide +kernel
theorem dX5_tray_62 : decode cX5_tray 62 = .ok (.getfield 73, 3) := by decide +kernel
theorem dX5_tray_65 : decode cX5_tray 65 = .ok (.bipush 15, 2) := by decide +kernel
theorem dX5_tray_67 : decode cX5_tray 67 = .ok (.if_icmp .ne 7, 3) := by decide +kernel
theorem dX5_tray_70 : decode cX5_tray 70 = .ok (.iconst 2, 1) := by decide +kernel
theorem dX5_tray_71 : decode cX5_tray 71 = .ok (.goto 4, 3) := by decide +kernel
theorem dX5_tray_74 : decode cX5_tray 74 = .ok (.iconst 0, 1) := by decide +kernel
theorem dX5_tray_75 : decode cX5_tray 75 = .ok (.putfield 58, 3) := by decide +kernel
theorem dX5_tray_78 : decode cX5_tray 78 = .ok (.aload_n 0, 1) := by decide +kernel
theorem dX5_tray_79 : decode cX5_tray 79 = .ok (.getfield 58, 3) := by decide +kernel
theorem dX5_tray_82 : decode cX5_tray 82 = .ok (.ifCond .le 5, 3) := by decide +kernel
theorem dX5_tray_85 : decode cX5_tray 85 = .ok (.iconst 0, 1) := by decide +kernel
theorem dX5_tray_86 : decode cX5_tray 86 = .ok (.ireturn, 1) := by decide +kernel
theorem dX5_tray_87 : decode cX5_tray 87 = .ok (.aload_n 0, 1) := by decide +kernel
theorem dX5_tray_88 : decode cX5_tray 88 = .ok (.getfield 7, 3) := by decide +kernel
theorem dX5_tray_91 : decode cX5_tray 91 = .ok (.iconst 2, 1) := by decide +kernel
theorem dX5_tray_92 : decode cX5_tray 92 = .ok (.aload_n 0, 1) := by decide +kernel
theorem dX5_tray_93 : decode cX5_tray 93 = .ok (.getfield 73, 3) := by decide +kernel
theorem dX5_tray_96 : decode cX5_tray 96 = .ok (.imul, 1) := by decide +kernel
theorem dX5_tray_97 : decode cX5_tray 97 = .ok (.iload_n 1, 1) := by decide +kernel
theorem dX5_tray_98 : decode cX5_tray 98 = .ok (.iastore, 1) := by decide +kernel
theorem dX5_tray_99 : decode cX5_tray 99 = .ok (.aload_n 0, 1) := by decide +kernel
theorem dX5_tray_100 : decode cX5_tray 100 = .ok (.getfield 7, 3) := by decide +kernel
theorem dX5_tray_103 : decode cX5_tray 103 = .ok (.iconst 2, 1) := by decide +kernel
theorem dX5_tray_104 : decode cX5_tray 104 = .ok (.aload_n 0, 1) := by decide +kernel
theorem dX5_tray_105 : decode cX5_tray 105 = .ok (.getfield 73, 3) := by decide +kernel
theorem dX5_tray_108 : decode cX5_tray 108 = .ok (.imul, 1) := by decide +kernel
theorem dX5_tray_109 : decode cX5_tray 109 = .ok (.iconst 1, 1) := by decide +kernel
theorem dX5_tray_110 : decode cX5_tray 110 = .ok (.iadd, 1) := by decide +kernel
theorem dX5_tray_111 : decode cX5_tray 111 = .ok (.iload_n 2, 1) := by decide +kernel
theorem dX5_tray_112 : decode cX5_tray 112 = .ok (.iastore, 1) := by decide +kernel
theorem dX5_tray_113 : decode cX5_tray 113 = .ok (.aload_n 0, 1) := by decide +kernel
theorem dX5_tray_114 : decode cX5_tray 114 = .ok (.getfield 13, 3) := by decide +kernel
theorem dX5_tray_117 : decode cX5_tray 117 = .ok (.aload_n 0, 1) := by decide +kernel
theorem dX5_tray_118 : decode cX5_tray 118 = .ok (.getfield 73, 3) := by decide +kernel
theorem dX5_tray_121 : decode cX5_tray 121 = .ok (.iload_n 3, 1) := by decide +kernel
theorem dX5_tray_122 : decode cX5_tray 122 = .ok (.iastore, 1) := by decide +kernel
theorem dX5_tray_123 : decode cX5_tray 123 = .ok (.aload_n 0, 1) := by decide +kernel
theorem dX5_tray_124 : decode cX5_tray 124 = .ok (.getfield 16, 3) := by decide +kernel
theorem dX5_tray_127 : decode cX5_tray 127 = .ok (.aload_n 0, 1) := by decide +kernel
theorem dX5_tray_128 : decode cX5_tray 128 = .ok (.getfield 73, 3) := by decide +kernel
theorem dX5_tray_131 : decode cX5_tray 131 = .ok (.iload 4, 2) := by decide +kernel
theorem dX5_tray_133 : decode cX5_tray 133 = .ok (.iastore, 1) := by decide +kernel
theorem dX5_tray_134 : decode cX5_tray 134 = .ok (.aload_n 0, 1) := by decide +kernel
theorem dX5_tray_135 : decode cX5_tray 135 = .ok (.dup, 1) := by decide +kernel
theorem dX5_tray_136 : decode cX5_tray 136 = .ok (.getfield 73, 3) := by decide +kernel
theorem dX5_tray_139 : decode cX5_tray 139 = .ok (.iconst 1, 1) := by decide +kernel
theorem dX5_tray_140 : decode cX5_tray 140 = .ok (.iadd, 1) := by decide +kernel
theorem dX5_tray_141 : decode cX5_tray 141 = .ok (.putfield 73, 3) := by decide +kernel
theorem dX5_tray_144 : decode cX5_tray 144 = .ok (.aload_n 0, 1) := by decide +kernel
theorem dX5_tray_145 : decode cX5_tray 145 = .ok (.getfield 73, 3) := by decide +kernel
theorem dX5_tray_148 : decode cX5_tray 148 = .ok (.iconst 1, 1) := by decide +kernel
theorem dX5_tray_149 : decode cX5_tray 149 = .ok (.isub, 1) := by decide +kernel
theorem dX5_tray_150 : decode cX5_tray 150 = .ok (.ireturn, 1) := by decide +kernel
theorem dX5_isNode_0 : decode cX5_isNode 0 = .ok (.iload_n 0, 1) := by decide +kernel
theorem dX5_isNode_1 : decode cX5_isNode 1 = .ok (.ifCond .lt 13, 3) := by decide +kernel
theorem dX5_isNode_4 : decode cX5_isNode 4 = .ok (.iload_n 0, 1) := by decide +kernel
theorem dX5_isNode_5 : decode cX5_isNode 5 = .ok (.bipush 10, 2) := by decide +kernel
theorem dX5_isNode_7 : decode cX5_isNode 7 = .ok (.if_icmp .ge 7, 3) := by decide +kernel
theorem dX5_isNode_10 : decode cX5_isNode 10 = .ok (.iconst 1, 1) := by decide +kernel
theorem dX5_isNode_11 : decode cX5_isNode 11 = .ok (.goto 4, 3) := by decide +kernel
theorem dX5_isNode_14 : decode cX5_isNode 14 = .ok (.iconst 0, 1) := by decide +kernel
theorem dX5_isNode_15 : decode cX5_isNode 15 = .ok (.ireturn, 1) := by decide +kernel
theorem dX5_isIn_0 : decode cX5_isIn 0 = .ok (.lload_n 0, 1) := by decide +kernel
theorem dX5_isIn_1 : decode cX5_isIn 1 = .ok (.lload_n 2, 1) := by decide +kernel
theorem dX5_isIn_2 : decode cX5_isIn 2 = .ok (.lcmp, 1) := by decide +kernel
theorem dX5_isIn_3 : decode cX5_isIn 3 = .ok (.ifCond .lt 14, 3) := by decide +kernel
theorem dX5_isIn_6 : decode cX5_isIn 6 = .ok (.lload_n 0, 1) := by decide +kernel
theorem dX5_isIn_7 : decode cX5_isIn 7 = .ok (.lload 4, 2) := by decide +kernel
theorem dX5_isIn_9 : decode cX5_isIn 9 = .ok (.lcmp, 1) := by decide +kernel
theorem dX5_isIn_10 : decode cX5_isIn 10 = .ok (.ifCond .gt 7, 3) := by decide +kernel
theorem dX5_isIn_13 : decode cX5_isIn 13 = .ok (.iconst 1, 1) := by decide +kernel
theorem dX5_isIn_14 : decode cX5_isIn 14 = .ok (.goto 4, 3) := by decide +kernel
theorem dX5_isIn_17 : decode cX5_isIn 17 = .ok (.iconst 0, 1) := by decide +kernel
theorem dX5_isIn_18 : decode cX5_isIn 18 = .ok (.ireturn, 1) := by decide +kernel
theorem dX5_size_0 : decode cX5_size 0 = .ok (.iload_n 1, 1) := by decide +kernel
theorem dX5_size_1 : decode cX5_size 1 = .ok (.i2l, 1) := by decide +kernel
theorem dX5_size_2 : decode cX5_size 2 = .ok (.lconst 1, 1) := by decide +kernel
theorem dX5_size_3 : decode cX5_size 3 = .ok (.ldc2_w 65, 3) := by decide +kernel
theorem dX5_size_6 : decode cX5_size 6 = .ok (.invokestatic 67, 3) := by decide +kernel
theorem dX5_size_9 : decode cX5_size 9 = .ok (.ifCond .eq 31, 3) := by decide +kernel
theorem dX5_size_12 : decode cX5_size 12 = .ok (.iload_n 2, 1) := by decide +kernel
theorem dX5_size_13 : decode cX5_size 13 = .ok (.i2l, 1) := by decide +kernel
theorem dX5_size_14 : decode cX5_size 14 = .ok (.lconst 1, 1) := by decide +kernel
theorem dX5_size_15 : decode cX5_size 15 = .ok (.ldc2_w 71, 3) := by decide +kernel
theorem dX5_size_18 : decode cX5_size 18 = .ok (.invokestatic 67, 3) := by decide +kernel
theorem dX5_size_21 : decode cX5_size 21 = .ok (.ifCond .eq 19, 3) := by decide +kernel
theorem dX5_size_24 : decode cX5_size 24 = .ok (.iload_n 3, 1) := by decide +kernel
theorem dX5_size_25 : decode cX5_size 25 = .ok (.i2l, 1) := by decide +kernel
theorem dX5_size_26 : decode cX5_size 26 = .ok (.lconst 0, 1) := by decide +kernel
theorem dX5_size_27 : decode cX5_size 27 = .ok (.ldc2_w 71, 3) := by decide +kernel
theorem dX5_size_30 : decode cX5_size 30 = .ok (.invokestatic 67, 3) := by decide +kernel
theorem dX5_size_33 : decode cX5_size 33 = .ok (.ifCond .eq 7, 3) := by decide +kernel
theorem dX5_size_36 : decode cX5_size 36 = .ok (.iconst 1, 1) := by decide +kernel
theorem dX5_size_37 : decode cX5_size 37 = .ok (.goto 4, 3) := by decide +kernel
theorem dX5_size_40 : decode cX5_size 40 = .ok (.iconst 0, 1) := by decide +kernel
theorem dX5_size_41 : decode cX5_size 41 = .ok (.istore 4, 2) := by decide +kernel
theorem dX5_size_43 : decode cX5_size 43 = .ok (.aload_n 0, 1) := by decide +kernel
theorem dX5_size_44 : decode cX5_size 44 = .ok (.getfield 76, 3) := by decide +kernel
theorem dX5_size_47 : decode cX5_size 47 = .ok (.ifCond .eq 57, 3) := by decide +kernel
theorem dX5_size_50 : decode cX5_size 50 = .ok (.aload_n 0, 1) := by decide +kernel
theorem dX5_size_51 : decode cX5_size 51 = .ok (.getfield 76, 3) := by decide +kernel
theorem dX5_size_54 : decode cX5_size 54 = .ok (.bipush 6, 2) := by decide +kernel
theorem dX5_size_56 : decode cX5_size 56 = .ok (.if_icmp .ge 52, 3) := by decide +kernel
theorem dX5_size_59 : decode cX5_size 59 = .ok (.iload_n 1, 1) := by decide +kernel
theorem dX5_size_60 : decode cX5_size 60 = .ok (.aload_n 0, 1) := by decide +kernel
theorem dX5_size_61 : decode cX5_size 61 = .ok (.getfield 19, 3) := by decide +kernel
theorem dX5_size_64 : decode cX5_size 64 = .ok (.aload_n 0, 1) := by decide +kernel
theorem dX5_size_65 : decode cX5_size 65 = .ok (.getfield 76, 3) := by decide +kernel
theorem dX5_size_68 : decode cX5_size 68 = .ok (.iconst 1, 1) := by decide +kernel
theorem dX5_size_69 : decode cX5_size 69 = .ok (.isub, 1) := by decide +kernel
theorem dX5_size_70 : decode cX5_size 70 = .ok (.iaload, 1) := by decide +kernel
theorem dX5_size_71 : decode cX5_size 71 = .ok (.if_icmp .le 37, 3) := by decide +kernel
theorem dX5_size_74 : decode cX5_size 74 = .ok (.iload_n 2, 1) := by decide +kernel
theorem dX5_size_75 : decode cX5_size 75 = .ok (.aload_n 0, 1) := by decide +kernel
theorem dX5_size_76 : decode cX5_size 76 = .ok (.getfield 22, 3) := by decide +kernel
theorem dX5_size_79 : decode cX5_size 79 = .ok (.aload_n 0, 1) := by decide +kernel
theorem dX5_size_80 : decode cX5_size 80 = .ok (.getfield 76, 3) := by decide +kernel
theorem dX5_size_83 : decode cX5_size 83 = .ok (.iconst 1, 1) := by decide +kernel
theorem dX5_size_84 : decode cX5_size 84 = .ok (.isub, 1) := by decide +kernel
theorem dX5_size_85 : decode cX5_size 85 = .ok (.iaload, 1) := by decide +kernel
theorem dX5_size_86 : decode cX5_size 86 = .ok (.if_icmp .lt 22, 3) := by decide +kernel
theorem dX5_size_89 : decode cX5_size 89 = .ok (.iload_n 3, 1) := by decide +kernel
theorem dX5_size_90 : decode cX5_size 90 = .ok (.aload_n 0, 1) := by decide +kernel
theorem dX5_size_91 : decode cX5_size 91 = .ok (.getfield 25, 3) := by decide +kernel
theorem dX5_size_94 : decode cX5_size 94 = .ok (.aload_n 0, 1) := by decide +kernel
theorem dX5_size_95 : decode cX5_size 95 = .ok (.getfield 76, 3) := by decide +kernel
theorem dX5_size_98 : decode cX5_size 98 = .ok (.iconst 1, 1) := by decide +kernel
theorem dX5_size_99 : decode cX5_size 99 = .ok (.isub, 1) := by decide +kernel
theorem dX5_size_100 : decode cX5_size 100 = .ok (.iaload, 1) := by decide +kernel
theorem dX5_size_101 : decode cX5_size 101 = .ok (.if_icmp .gt 7, 3) := by decide +kernel
theorem dX5_size_104 : decode cX5_size 104 = .ok (.iconst 1, 1) := by decide +kernel
theorem dX5_size_105 : decode cX5_size 105 = .ok (.goto 4, 3) := by decide +kernel
theorem dX5_size_108 : decode cX5_size 108 = .ok (.iconst 0, 1) := by decide +kernel
theorem dX5_size_109 : decode cX5_size 109 = .ok (.istore 5, 2) := by decide +kernel
theorem dX5_size_111 : decode cX5_size 111 = .ok (.aload_n 0, 1) := by decide +kernel
theorem dX5_size_112 : decode cX5_size 112 = .ok (.iload 4, 2) := by decide +kernel
theorem dX5_size_114 : decode cX5_size 114 = .ok (.ifCond .ne 7, 3) := by decide +kernel
theorem dX5_size_117 : decode cX5_size 117 = .ok (.iconst 1, 1) := by decide +kernel
theorem dX5_size_118 : decode cX5_size 118 = .ok (.goto 13, 3) := by decide +kernel
theorem dX5_size_121 : decode cX5_size 121 = .ok (.iload 5, 2) := by decide +kernel
theorem dX5_size_123 : decode cX5_size 123 = .ok (.ifCond .ne 7, 3) := by decide +kernel
theorem dX5_size_126 : decode cX5_size 126 = .ok (.iconst 2, 1) := by decide +kernel
theorem dX5_size_127 : decode cX5_size 127 = .ok (.goto 4, 3) := by decide +kernel
theorem dX5_size_130 : decode cX5_size 130 = .ok (.iconst 0, 1) := by decide +kernel
theorem dX5_size_131 : decode cX5_size 131 = .ok (.putfield 58, 3) := by decide +kernel
theorem dX5_size_134 : decode cX5_size 134 = .ok (.aload_n 0, 1) := by decide +kernel
theorem dX5_size_135 : decode cX5_size 135 = .ok (.getfield 58, 3) := by decide +kernel
theorem dX5_size_138 : decode cX5_size 138 = .ok (.ifCond .le 5, 3) := by decide +kernel
theorem dX5_size_141 : decode cX5_size 141 = .ok (.iconst 0, 1) := by decide +kernel
theorem dX5_size_142 : decode cX5_size 142 = .ok (.ireturn, 1) := by decide +kernel
theorem dX5_size_143 : decode cX5_size 143 = .ok (.aload_n 0, 1) := by decide +kernel
theorem dX5_size_144 : decode cX5_size 144 = .ok (.getfield 19, 3) := by decide +kernel
theorem dX5_size_147 : decode cX5_size 147 = .ok (.aload_n 0, 1) := by decide +kernel
theorem dX5_size_148 : decode cX5_size 148 = .ok (.getfield 76, 3) := by decide +kernel
theorem dX5_size_151 : decode cX5_size 151 = .ok (.iload_n 1, 1) := by decide +kernel
theorem dX5_size_152 : decode cX5_size 152 = .ok (.iastore, 1) := by decide +kernel
theorem dX5_size_153 : decode cX5_size 153 = .ok (.aload_n 0, 1) := by decide +kernel
theorem dX5_size_154 : decode cX5_size 154 = .ok (.getfield 22, 3) := by decide +kernel
theorem dX5_size_157 : decode cX5_size 157 = .ok (.aload_n 0, 1) := by decide +kernel
theorem dX5_size_158 : decode cX5_size 158 = .ok (.getfield 76, 3) := by decide +kernel
theorem dX5_size_161 : decode cX5_size 161 = .ok (.iload_n 2, 1) := by decide +kernel
theorem dX5_size_162 : decode cX5_size 162 = .ok (.iastore, 1) := by decide +kernel
theorem dX5_size_163 : decode cX5_size 163 = .ok (.aload_n 0, 1) := by decide +kernel
theorem dX5_size_164 : decode cX5_size 164 = .ok (.getfield 25, 3) := by decide +kernel
theorem dX5_size_167 : decode cX5_size 167 = .ok (.aload_n 0, 1) := by decide +kernel
theorem dX5_size_168 : decode cX5_size 168 = .ok (.getfield 76, 3) := by decide +kernel
theorem dX5_size_171 : decode cX5_size 171 = .ok (.iload_n 3, 1) := by decide +kernel
theorem dX5_size_172 : decode cX5_size 172 = .ok (.iastore, 1) := by decide +kernel
theorem dX5_size_173 : decode cX5_size 173 = .ok (.aload_n 0, 1) := by decide +kernel
theorem dX5_size_174 : decode cX5_size 174 = .ok (.dup, 1) := by decide +kernel
theorem dX5_size_175 : decode cX5_size 175 = .ok (.getfield 76, 3) := by decide +kernel
theorem dX5_size_178 : decode cX5_size 178 = .ok (.iconst 1, 1) := by decide +kernel
theorem dX5_size_179 : decode cX5_size 179 = .ok (.iadd, 1) := by decide +kernel
theorem dX5_size_180 : decode cX5_size 180 = .ok (.putfield 76, 3) := by decide +kernel
theorem dX5_size_183 : decode cX5_size 183 = .ok (.aload_n 0, 1) := by decide +kernel
theorem dX5_size_184 : decode cX5_size 184 = .ok (.getfield 76, 3) := by decide +kernel
theorem dX5_size_187 : decode cX5_size 187 = .ok (.iconst 1, 1) := by decide +kernel
theorem dX5_size_188 : decode cX5_size 188 = .ok (.isub, 1) := by decide +kernel
theorem dX5_size_189 : decode cX5_size 189 = .ok (.ireturn, 1) := by decide +kernel
theorem dX5_cable_0 : decode cX5_cable 0 = .ok (.iload_n 1, 1) := by decide +kernel
theorem dX5_cable_1 : decode cX5_cable 1 = .ok (.invokestatic 61, 3) := by decide +kernel
theorem dX5_cable_4 : decode cX5_cable 4 = .ok (.ifCond .eq 31, 3) := by decide +kernel
theorem dX5_cable_7 : decode cX5_cable 7 = .ok (.iload_n 2, 1) := by decide +kernel
theorem dX5_cable_8 : decode cX5_cable 8 = .ok (.invokestatic 61, 3) := by decide +kernel
theorem dX5_cable_11 : decode cX5_cable 11 = .ok (.ifCond .eq 24, 3) := by decide +kernel
theorem dX5_cable_14 : decode cX5_cable 14 = .ok (.iload_n 1, 1) := by decide +kernel
theorem dX5_cable_15 : decode cX5_cable 15 = .ok (.iload_n 2, 1) := by decide +kernel
theorem dX5_cable_16 : decode cX5_cable 16 = .ok (.if_icmp .eq 19, 3) := by decide +kernel
theorem dX5_cable_19 : decode cX5_cable 19 = .ok (.iload_n 3, 1) := by decide +kernel
theorem dX5_cable_20 : decode cX5_cable 20 = .ok (.i2l, 1) := by decide +kernel
theorem dX5_cable_21 : decode cX5_cable 21 = .ok (.lconst 1, 1) := by decide +kernel
theorem dX5_cable_22 : decode cX5_cable 22 = .ok (.ldc2_w 71, 3) := by decide +kernel
theorem dX5_cable_25 : decode cX5_cable 25 = .ok (.invokestatic 67, 3) := by decide +kernel
theorem dX5_cable_28 : decode cX5_cable 28 = .ok (.ifCond .eq 7, 3) := by decide +kernel
theorem dX5_cable_31 : decode cX5_cable 31 = .ok (.iconst 1, 1) := by decide +kernel
theorem dX5_cable_32 : decode cX5_cable 32 = .ok (.goto 4, 3) := by decide +kernel
theorem dX5_cable_35 : decode cX5_cable 35 = .ok (.iconst 0, 1) := by decide +kernel
theorem dX5_cable_36 : decode cX5_cable 36 = .ok (.istore 4, 2) := by decide +kernel
theorem dX5_cable_38 : decode cX5_cable 38 = .ok (.aload_n 0, 1) := by decide +kernel
theorem dX5_cable_39 : decode cX5_cable 39 = .ok (.iload 4, 2) := by decide +kernel
theorem dX5_cable_41 : decode cX5_cable 41 = .ok (.ifCond .ne 7, 3) := by decide +kernel
theorem dX5_cable_44 : decode cX5_cable 44 = .ok (.iconst 1, 1) := by decide +kernel
theorem dX5_cable_45 : decode cX5_cable 45 = .ok (.goto 17, 3) := by decide +kernel
theorem dX5_cable_48 : decode cX5_cable 48 = .ok (.aload_n 0, 1) := by decide +kernel
theorem dX5_cable_49 : decode cX5_cable 49 = .ok (.getfield 79, 3) := by decide +kernel
theorem dX5_cable_52 : decode cX5_cable 52 = .ok (.bipush 20, 2) := by decide +kernel
theorem dX5_cable_54 : decode cX5_cable 54 = .ok (.if_icmp .ne 7, 3) := by decide +kernel
theorem dX5_cable_57 : decode cX5_cable 57 = .ok (.iconst 2, 1) := by decide +kernel
theorem dX5_cable_58 : decode cX5_cable 58 = .ok (.goto 4, 3) := by decide +kernel
theorem dX5_cable_61 : decode cX5_cable 61 = .ok (.iconst 0, 1) := by decide +kernel
theorem dX5_cable_62 : decode cX5_cable 62 = .ok (.putfield 58, 3) := by decide +kernel
theorem dX5_cable_65 : decode cX5_cable 65 = .ok (.aload_n 0, 1) := by decide +kernel
theorem dX5_cable_66 : decode cX5_cable 66 = .ok (.getfield 58, 3) := by decide +kernel
theorem dX5_cable_69 : decode cX5_cable 69 = .ok (.ifCond .le 5, 3) := by decide +kernel
theorem dX5_cable_72 : decode cX5_cable 72 = .ok (.iconst 0, 1) := by decide +kernel
theorem dX5_cable_73 : decode cX5_cable 73 = .ok (.ireturn, 1) := by decide +kernel
theorem dX5_cable_74 : decode cX5_cable 74 = .ok (.aload_n 0, 1) := by decide +kernel
theorem dX5_cable_75 : decode cX5_cable 75 = .ok (.getfield 28, 3) := by decide +kernel
theorem dX5_cable_78 : decode cX5_cable 78 = .ok (.aload_n 0, 1) := by decide +kernel
theorem dX5_cable_79 : decode cX5_cable 79 = .ok (.getfield 79, 3) := by decide +kernel
theorem dX5_cable_82 : decode cX5_cable 82 = .ok (.iload_n 1, 1) := by decide +kernel
theorem dX5_cable_83 : decode cX5_cable 83 = .ok (.iastore, 1) := by decide +kernel
theorem dX5_cable_84 : decode cX5_cable 84 = .ok (.aload_n 0, 1) := by decide +kernel
theorem dX5_cable_85 : decode cX5_cable 85 = .ok (.getfield 31, 3) := by decide +kernel
theorem dX5_cable_88 : decode cX5_cable 88 = .ok (.aload_n 0, 1) := by decide +kernel
theorem dX5_cable_89 : decode cX5_cable 89 = .ok (.getfield 79, 3) := by decide +kernel
theorem dX5_cable_92 : decode cX5_cable 92 = .ok (.iload_n 2, 1) := by decide +kernel
theorem dX5_cable_93 : decode cX5_cable 93 = .ok (.iastore, 1) := by decide +kernel
theorem dX5_cable_94 : decode cX5_cable 94 = .ok (.aload_n 0, 1) := by decide +kernel
theorem dX5_cable_95 : decode cX5_cable 95 = .ok (.getfield 34, 3) := by decide +kernel
theorem dX5_cable_98 : decode cX5_cable 98 = .ok (.aload_n 0, 1) := by decide +kernel
theorem dX5_cable_99 : decode cX5_cable 99 = .ok (.getfield 79, 3) := by decide +kernel
theorem dX5_cable_102 : decode cX5_cable 102 = .ok (.iload_n 3, 1) := by decide +kernel
theorem dX5_cable_103 : decode cX5_cable 103 = .ok (.iastore, 1) := by decide +kernel
theorem dX5_cable_104 : decode cX5_cable 104 = .ok (.aload_n 0, 1) := by decide +kernel
theorem dX5_cable_105 : decode cX5_cable 105 = .ok (.dup, 1) := by decide +kernel
theorem dX5_cable_106 : decode cX5_cable 106 = .ok (.getfield 79, 3) := by decide +kernel
theorem dX5_cable_109 : decode cX5_cable 109 = .ok (.iconst 1, 1) := by decide +kernel
theorem dX5_cable_110 : decode cX5_cable 110 = .ok (.iadd, 1) := by decide +kernel
theorem dX5_cable_111 : decode cX5_cable 111 = .ok (.putfield 79, 3) := by decide +kernel
theorem dX5_cable_114 : decode cX5_cable 114 = .ok (.aload_n 0, 1) := by decide +kernel
theorem dX5_cable_115 : decode cX5_cable 115 = .ok (.getfield 79, 3) := by decide +kernel
theorem dX5_cable_118 : decode cX5_cable 118 = .ok (.iconst 1, 1) := by decide +kernel
theorem dX5_cable_119 : decode cX5_cable 119 = .ok (.isub, 1) := by decide +kernel
theorem dX5_cable_120 : decode cX5_cable 120 = .ok (.ireturn, 1) := by decide +kernel
theorem dX5_current_0 : decode cX5_current 0 = .ok (.aload_n 0, 1) := by decide +kernel
theorem dX5_current_1 : decode cX5_current 1 = .ok (.aload_n 0, 1) := by decide +kernel
theorem dX5_current_2 : decode cX5_current 2 = .ok (.iload_n 1, 1) := by decide +kernel
theorem dX5_current_3 : decode cX5_current 3 = .ok (.invokevirtual 82, 3) := by decide +kernel
theorem dX5_current_6 : decode cX5_current 6 = .ok (.ifCond .ne 15, 3) := by decide +kernel
theorem dX5_current_9 : decode cX5_current 9 = .ok (.iload_n 2, 1) := by decide +kernel
theorem dX5_current_10 : decode cX5_current 10 = .ok (.i2l, 1) := by decide +kernel
theorem dX5_current_11 : decode cX5_current 11 = .ok (.lconst 1, 1) := by decide +kernel
theorem dX5_current_12 : decode cX5_current 12 = .ok (.ldc2_w 71, 3) := by decide +kernel
theorem dX5_current_15 : decode cX5_current 15 = .ok (.invokestatic 67, 3) := by decide +kernel
theorem dX5_current_18 : decode cX5_current 18 = .ok (.ifCond .ne 7, 3) := by decide +kernel
theorem dX5_current_21 : decode cX5_current 21 = .ok (.iconst 1, 1) := by decide +kernel
theorem dX5_current_22 : decode cX5_current 22 = .ok (.goto 4, 3) := by decide +kernel
theorem dX5_current_25 : decode cX5_current 25 = .ok (.iconst 0, 1) := by decide +kernel
theorem dX5_current_26 : decode cX5_current 26 = .ok (.putfield 58, 3) := by decide +kernel
theorem dX5_current_29 : decode cX5_current 29 = .ok (.aload_n 0, 1) := by decide +kernel
theorem dX5_current_30 : decode cX5_current 30 = .ok (.getfield 58, 3) := by decide +kernel
theorem dX5_current_33 : decode cX5_current 33 = .ok (.ifCond .le 5, 3) := by decide +kernel
theorem dX5_current_36 : decode cX5_current 36 = .ok (.iconst 0, 1) := by decide +kernel
theorem dX5_current_37 : decode cX5_current 37 = .ok (.ireturn, 1) := by decide +kernel
theorem dX5_current_38 : decode cX5_current 38 = .ok (.aload_n 0, 1) := by decide +kernel
theorem dX5_current_39 : decode cX5_current 39 = .ok (.getfield 34, 3) := by decide +kernel
theorem dX5_current_42 : decode cX5_current 42 = .ok (.iload_n 1, 1) := by decide +kernel
theorem dX5_current_43 : decode cX5_current 43 = .ok (.iaload, 1) := by decide +kernel
theorem dX5_current_44 : decode cX5_current 44 = .ok (.istore_n 3, 1) := by decide +kernel
theorem dX5_current_45 : decode cX5_current 45 = .ok (.aload_n 0, 1) := by decide +kernel
theorem dX5_current_46 : decode cX5_current 46 = .ok (.getfield 34, 3) := by decide +kernel
theorem dX5_current_49 : decode cX5_current 49 = .ok (.iload_n 1, 1) := by decide +kernel
theorem dX5_current_50 : decode cX5_current 50 = .ok (.iload_n 2, 1) := by decide +kernel
theorem dX5_current_51 : decode cX5_current 51 = .ok (.iastore, 1) := by decide +kernel
theorem dX5_current_52 : decode cX5_current 52 = .ok (.iload_n 3, 1) := by decide +kernel
theorem dX5_current_53 : decode cX5_current 53 = .ok (.ireturn, 1) := by decide +kernel
theorem dX5_noCable_0 : decode cX5_noCable 0 = .ok (.iload_n 1, 1) := by decide +kernel
theorem dX5_noCable_1 : decode cX5_noCable 1 = .ok (.ifCond .lt 11, 3) := by decide +kernel
theorem dX5_noCable_4 : decode cX5_noCable 4 = .ok (.iload_n 1, 1) := by decide +kernel
theorem dX5_noCable_5 : decode cX5_noCable 5 = .ok (.aload_n 0, 1) := by decide +kernel
theorem dX5_noCable_6 : decode cX5_noCable 6 = .ok (.getfield 79, 3) := by decide +kernel
theorem dX5_noCable_9 : decode cX5_noCable 9 = .ok (.if_icmp .lt 7, 3) := by decide +kernel
theorem dX5_noCable_12 : decode cX5_noCable 12 = .ok (.iconst 1, 1) := by decide +kernel
theorem dX5_noCable_13 : decode cX5_noCable 13 = .ok (.goto 4, 3) := by decide +kernel
theorem dX5_noCable_16 : decode cX5_noCable 16 = .ok (.iconst 0, 1) := by decide +kernel
theorem dX5_noCable_17 : decode cX5_noCable 17 = .ok (.ireturn, 1) := by decide +kernel
theorem dX5_room_0 : decode cX5_room 0 = .ok (.aload_n 0, 1) := by decide +kernel
theorem dX5_room_1 : decode cX5_room 1 = .ok (.aload_n 0, 1) := by decide +kernel
theorem dX5_room_2 : decode cX5_room 2 = .ok (.iload_n 1, 1) := by decide +kernel
theorem dX5_room_3 : decode cX5_room 3 = .ok (.invokevirtual 85, 3) := by decide +kernel
theorem dX5_room_6 : decode cX5_room 6 = .ok (.ifCond .ne 15, 3) := by decide +kernel
theorem dX5_room_9 : decode cX5_room 9 = .ok (.iload_n 2, 1) := by decide +kernel
theorem dX5_room_10 : decode cX5_room 10 = .ok (.i2l, 1) := by decide +kernel
theorem dX5_room_11 : decode cX5_room 11 = .ok (.lconst 1, 1) := by decide +kernel
theorem dX5_room_12 : decode cX5_room 12 = .ok (.ldc2_w 71, 3) := by decide +kernel
theorem dX5_room_15 : decode cX5_room 15 = .ok (.invokestatic 67, 3) := by decide +kernel
theorem dX5_room_18 : decode cX5_room 18 = .ok (.ifCond .ne 7, 3) := by decide +kernel
theorem dX5_room_21 : decode cX5_room 21 = .ok (.iconst 1, 1) := by decide +kernel
theorem dX5_room_22 : decode cX5_room 22 = .ok (.goto 4, 3) := by decide +kernel
theorem dX5_room_25 : decode cX5_room 25 = .ok (.iconst 0, 1) := by decide +kernel
theorem dX5_room_26 : decode cX5_room 26 = .ok (.putfield 58, 3) := by decide +kernel
theorem dX5_room_29 : decode cX5_room 29 = .ok (.aload_n 0, 1) := by decide +kernel
theorem dX5_room_30 : decode cX5_room 30 = .ok (.getfield 58, 3) := by decide +kernel
theorem dX5_room_33 : decode cX5_room 33 = .ok (.ifCond .le 5, 3) := by decide +kernel
theorem dX5_room_36 : decode cX5_room 36 = .ok (.iconst 0, 1) := by decide +kernel
theorem dX5_room_37 : decode cX5_room 37 = .ok (.ireturn, 1) := by decide +kernel
theorem dX5_room_38 : decode cX5_room 38 = .ok (.aload_n 0, 1) := by decide +kernel
theorem dX5_room_39 : decode cX5_room 39 = .ok (.getfield 16, 3) := by decide +kernel
theorem dX5_room_42 : decode cX5_room 42 = .ok (.iload_n 1, 1) := by decide +kernel
theorem dX5_room_43 : decode cX5_room 43 = .ok (.iaload, 1) := by decide +kernel
theorem dX5_room_44 : decode cX5_room 44 = .ok (.istore_n 3, 1) := by decide +kernel
theorem dX5_room_45 : decode cX5_room 45 = .ok (.aload_n 0, 1) := by decide +kernel
theorem dX5_room_46 : decode cX5_room 46 = .ok (.getfield 16, 3) := by decide +kernel
theorem dX5_room_49 : decode cX5_room 49 = .ok (.iload_n 1, 1) := by decide +kernel
theorem dX5_room_50 : decode cX5_room 50 = .ok (.iload_n 2, 1) := by decide +kernel
theorem dX5_room_51 : decode cX5_room 51 = .ok (.iastore, 1) := by decide +kernel
theorem dX5_room_52 : decode cX5_room 52 = .ok (.iload_n 3, 1) := by decide +kernel
theorem dX5_room_53 : decode cX5_room 53 = .ok (.ireturn, 1) := by decide +kernel
theorem dX5_noTray_0 : decode cX5_noTray 0 = .ok (.iload_n 1, 1) := by decide +kernel
theorem dX5_noTray_1 : decode cX5_noTray 1 = .ok (.ifCond .lt 11, 3) := by decide +kernel
theorem dX5_noTray_4 : decode cX5_noTray 4 = .ok (.iload_n 1, 1) := by decide +kernel
theorem dX5_noTray_5 : decode cX5_noTray 5 = .ok (.aload_n 0, 1) := by decide +kernel
theorem dX5_noTray_6 : decode cX5_noTray 6 = .ok (.getfield 73, 3) := by decide +kernel
theorem dX5_noTray_9 : decode cX5_noTray 9 = .ok (.if_icmp .lt 7, 3) := by decide +kernel
theorem dX5_noTray_12 : decode cX5_noTray 12 = .ok (.iconst 1, 1) := by decide +kernel
theorem dX5_noTray_13 : decode cX5_noTray 13 = .ok (.goto 4, 3) := by decide +kernel
theorem dX5_noTray_16 : decode cX5_noTray 16 = .ok (.iconst 0, 1) := by decide +kernel
theorem dX5_noTray_17 : decode cX5_noTray 17 = .ok (.ireturn, 1) := by decide +kernel
theorem dX5_limit_0 : decode cX5_limit 0 = .ok (.aload_n 0, 1) := by decide +kernel
theorem dX5_limit_1 : decode cX5_limit 1 = .ok (.iload_n 1, 1) := by decide +kernel
theorem dX5_limit_2 : decode cX5_limit 2 = .ok (.i2l, 1) := by decide +kernel
theorem dX5_limit_3 : decode cX5_limit 3 = .ok (.lconst 0, 1) := by decide +kernel
theorem dX5_limit_4 : decode cX5_limit 4 = .ok (.ldc2_w 88, 3) := by decide +kernel
theorem dX5_limit_7 : decode cX5_limit 7 = .ok (.invokestatic 67, 3) := by decide +kernel
theorem dX5_limit_10 : decode cX5_limit 10 = .ok (.ifCond .eq 7, 3) := by decide +kernel
theorem dX5_limit_13 : decode cX5_limit 13 = .ok (.iconst 0, 1) := by decide +kernel
theorem dX5_limit_14 : decode cX5_limit 14 = .ok (.goto 4, 3) := by decide +kernel
theorem dX5_limit_17 : decode cX5_limit 17 = .ok (.iconst 1, 1) := by decide +kernel
theorem dX5_limit_18 : decode cX5_limit 18 = .ok (.putfield 58, 3) := by decide +kernel
theorem dX5_limit_21 : decode cX5_limit 21 = .ok (.aload_n 0, 1) := by decide +kernel
theorem dX5_limit_22 : decode cX5_limit 22 = .ok (.getfield 58, 3) := by decide +kernel
theorem dX5_limit_25 : decode cX5_limit 25 = .ok (.ifCond .le 5, 3) := by decide +kernel
theorem dX5_limit_28 : decode cX5_limit 28 = .ok (.iconst 0, 1) := by decide +kernel
theorem dX5_limit_29 : decode cX5_limit 29 = .ok (.ireturn, 1) := by decide +kernel
theorem dX5_limit_30 : decode cX5_limit 30 = .ok (.aload_n 0, 1) := by decide +kernel
theorem dX5_limit_31 : decode cX5_limit 31 = .ok (.getfield 38, 3) := by decide +kernel
theorem dX5_limit_34 : decode cX5_limit 34 = .ok (.istore_n 2, 1) := by decide +kernel
theorem dX5_limit_35 : decode cX5_limit 35 = .ok (.aload_n 0, 1) := by decide +kernel
theorem dX5_limit_36 : decode cX5_limit 36 = .ok (.iload_n 1, 1) := by decide +kernel
theorem dX5_limit_37 : decode cX5_limit 37 = .ok (.putfield 38, 3) := by decide +kernel
theorem dX5_limit_40 : decode cX5_limit 40 = .ok (.iload_n 2, 1) := by decide +kernel
theorem dX5_limit_41 : decode cX5_limit 41 = .ok (.ireturn, 1) := by decide +kernel
theorem dX5_way_0 : decode cX5_way 0 = .ok (.aload_n 0, 1) := by decide +kernel
theorem dX5_way_1 : decode cX5_way 1 = .ok (.aload_n 0, 1) := by decide +kernel
theorem dX5_way_2 : decode cX5_way 2 = .ok (.iload_n 1, 1) := by decide +kernel
theorem dX5_way_3 : decode cX5_way 3 = .ok (.invokevirtual 82, 3) := by decide +kernel
theorem dX5_way_6 : decode cX5_way 6 = .ok (.ifCond .eq 7, 3) := by decide +kernel
theorem dX5_way_9 : decode cX5_way 9 = .ok (.iconst 1, 1) := by decide +kernel
theorem dX5_way_10 : decode cX5_way 10 = .ok (.goto 4, 3) := by decide +kernel
theorem dX5_way_13 : decode cX5_way 13 = .ok (.iconst 0, 1) := by decide +kernel
theorem dX5_way_14 : decode cX5_way 14 = .ok (.putfield 58, 3) := by decide +kernel
theorem dX5_way_17 : decode cX5_way 17 = .ok (.aload_n 0, 1) := by decide +kernel
theorem dX5_way_18 : decode cX5_way 18 = .ok (.getfield 58, 3) := by decide +kernel
theorem dX5_way_21 : decode cX5_way 21 = .ok (.ifCond .le 5, 3) := by decide +kernel
theorem dX5_way_24 : decode cX5_way 24 = .ok (.iconst 0, 1) := by decide +kernel
theorem dX5_way_25 : decode cX5_way 25 = .ok (.ireturn, 1) := by decide +kernel
theorem dX5_way_26 : decode cX5_way 26 = .ok (.aload_n 0, 1) := by decide +kernel
theorem dX5_way_27 : decode cX5_way 27 = .ok (.invokevirtual 99, 3) := by decide +kernel
theorem dX5_way_30 : decode cX5_way 30 = .ok (.aload_n 0, 1) := by decide +kernel
theorem dX5_way_31 : decode cX5_way 31 = .ok (.getfield 48, 3) := by decide +kernel
theorem dX5_way_34 : decode cX5_way 34 = .ok (.iload_n 1, 1) := by decide +kernel
theorem dX5_way_35 : decode cX5_way 35 = .ok (.iaload, 1) := by decide +kernel
theorem dX5_way_36 : decode cX5_way 36 = .ok (.ireturn, 1) := by decide +kernel
theorem dX5_goAll_0 : decode cX5_goAll 0 = .ok (.iconst 0, 1) := by decide +kernel
theorem dX5_goAll_1 : decode cX5_goAll 1 = .ok (.istore_n 1, 1) := by decide +kernel
theorem dX5_goAll_2 : decode cX5_goAll 2 = .ok (.iload_n 1, 1) := by decide +kernel
theorem dX5_goAll_3 : decode cX5_goAll 3 = .ok (.aload_n 0, 1) := by decide +kernel
theorem dX5_goAll_4 : decode cX5_goAll 4 = .ok (.getfield 79, 3) := by decide +kernel
theorem dX5_goAll_7 : decode cX5_goAll 7 = .ok (.if_icmp .ge 163, 3) := by decide +kernel
theorem dX5_goAll_10 : decode cX5_goAll 10 = .ok (.aload_n 0, 1) := by decide +kernel
theorem dX5_goAll_11 : decode cX5_goAll 11 = .ok (.aload_n 0, 1) := by decide +kernel
theorem dX5_goAll_12 : decode cX5_goAll 12 = .ok (.getfield 31, 3) := by decide +kernel
theorem dX5_goAll_15 : decode cX5_goAll 15 = .ok (.iload_n 1, 1) := by decide +kernel
theorem dX5_goAll_16 : decode cX5_goAll 16 = .ok (.iaload, 1) := by decide +kernel
theorem dX5_goAll_17 : decode cX5_goAll 17 = .ok (.invokevirtual 91, 3) := by decide +kernel
theorem dX5_goAll_20 : decode cX5_goAll 20 = .ok (.aload_n 0, 1) := by decide +kernel
theorem dX5_goAll_21 : decode cX5_goAll 21 = .ok (.getfield 28, 3) := by decide +kernel
theorem dX5_goAll_24 : decode cX5_goAll 24 = .ok (.iload_n 1, 1) := by decide +kernel
theorem dX5_goAll_25 : decode cX5_goAll 25 = .ok (.iaload, 1) := by decide +kernel
theorem dX5_goAll_26 : decode cX5_goAll 26 = .ok (.istore_n 2, 1) := by decide +kernel
theorem dX5_goAll_27 : decode cX5_goAll 27 = .ok (.aload_n 0, 1) := by decide +kernel
theorem dX5_goAll_28 : decode cX5_goAll 28 = .ok (.getfield 48, 3) := by decide +kernel
theorem dX5_goAll_31 : decode cX5_goAll 31 = .ok (.iload_n 1, 1) := by decide +kernel
theorem dX5_goAll_32 : decode cX5_goAll 32 = .ok (.aload_n 0, 1) := by decide +kernel
theorem dX5_goAll_33 : decode cX5_goAll 33 = .ok (.getfield 42, 3) := by decide +kernel
theorem dX5_goAll_36 : decode cX5_goAll 36 = .ok (.iload_n 2, 1) := by decide +kernel
theorem dX5_goAll_37 : decode cX5_goAll 37 = .ok (.iaload, 1) := by decide +kernel
theorem dX5_goAll_38 : decode cX5_goAll 38 = .ok (.ldc 90, 2) := by decide +kernel
theorem dX5_goAll_40 : decode cX5_goAll 40 = .ok (.if_icmp .lt 7, 3) := by decide +kernel
theorem dX5_goAll_43 : decode cX5_goAll 43 = .ok (.iconst (-1), 1) := by decide +kernel
theorem dX5_goAll_44 : decode cX5_goAll 44 = .ok (.goto 9, 3) := by decide +kernel
theorem dX5_goAll_47 : decode cX5_goAll 47 = .ok (.aload_n 0, 1) := by decide +kernel
theorem dX5_goAll_48 : decode cX5_goAll 48 = .ok (.getfield 42, 3) := by decide +kernel
theorem dX5_goAll_51 : decode cX5_goAll 51 = .ok (.iload_n 2, 1) := by decide +kernel
theorem dX5_goAll_52 : decode cX5_goAll 52 = .ok (.iaload, 1) := by decide +kernel
theorem dX5_goAll_53 : decode cX5_goAll 53 = .ok (.iastore, 1) := by decide +kernel
theorem dX5_goAll_54 : decode cX5_goAll 54 = .ok (.iconst 0, 1) := by decide +kernel
theorem dX5_goAll_55 : decode cX5_goAll 55 = .ok (.istore_n 3, 1) := by decide +kernel
theorem dX5_goAll_56 : decode cX5_goAll 56 = .ok (.aload_n 0, 1) := by decide +kernel
theorem dX5_goAll_57 : decode cX5_goAll 57 = .ok (.getfield 48, 3) := by decide +kernel
theorem dX5_goAll_60 : decode cX5_goAll 60 = .ok (.iload_n 1, 1) := by decide +kernel
theorem dX5_goAll_61 : decode cX5_goAll 61 = .ok (.iaload, 1) := by decide +kernel
theorem dX5_goAll_62 : decode cX5_goAll 62 = .ok (.iconst (-1), 1) := by decide +kernel
theorem dX5_goAll_63 : decode cX5_goAll 63 = .ok (.if_icmp .eq 89, 3) := by decide +kernel
theorem dX5_goAll_66 : decode cX5_goAll 66 = .ok (.iload_n 2, 1) := by decide +kernel
theorem dX5_goAll_67 : decode cX5_goAll 67 = .ok (.aload_n 0, 1) := by decide +kernel
theorem dX5_goAll_68 : decode cX5_goAll 68 = .ok (.getfield 31, 3) := by decide +kernel
theorem dX5_goAll_71 : decode cX5_goAll 71 = .ok (.iload_n 1, 1) := by decide +kernel
theorem dX5_goAll_72 : decode cX5_goAll 72 = .ok (.iaload, 1) := by decide +kernel
theorem dX5_goAll_73 : decode cX5_goAll 73 = .ok (.if_icmp .eq 79, 3) := by decide +kernel
theorem dX5_goAll_76 : decode cX5_goAll 76 = .ok (.iconst 0, 1) := by decide +kernel
theorem dX5_goAll_77 : decode cX5_goAll 77 = .ok (.istore 4, 2) := by decide +kernel
theorem dX5_goAll_79 : decode cX5_goAll 79 = .ok (.aload_n 0, 1) := by decide +kernel
theorem dX5_goAll_80 : decode cX5_goAll 80 = .ok (.iload 4, 2) := by decide +kernel
theorem dX5_goAll_82 : decode cX5_goAll 82 = .ok (.iload_n 2, 1) := by decide +kernel
theorem dX5_goAll_83 : decode cX5_goAll 83 = .ok (.invokevirtual 95, 3) := by decide +kernel
theorem dX5_goAll_86 : decode cX5_goAll 86 = .ok (.iconst (-1), 1) := by decide +kernel
theorem dX5_goAll_87 : decode cX5_goAll 87 = .ok (.if_icmp .eq 32, 3) := by decide +kernel
theorem dX5_goAll_90 : decode cX5_goAll 90 = .ok (.aload_n 0, 1) := by decide +kernel
theorem dX5_goAll_91 : decode cX5_goAll 91 = .ok (.getfield 42, 3) := by decide +kernel
theorem dX5_goAll_94 : decode cX5_goAll 94 = .ok (.aload_n 0, 1) := by decide +kernel
theorem dX5_goAll_95 : decode cX5_goAll 95 = .ok (.iload 4, 2) := by decide +kernel
theorem dX5_goAll_97 : decode cX5_goAll 97 = .ok (.iload_n 2, 1) := by decide +kernel
theorem dX5_goAll_98 : decode cX5_goAll 98 = .ok (.invokevirtual 95, 3) := by decide +kernel
theorem dX5_goAll_101 : decode cX5_goAll 101 = .ok (.iaload, 1) := by decide +kernel
theorem dX5_goAll_102 : decode cX5_goAll 102 = .ok (.aload_n 0, 1) := by decide +kernel
theorem dX5_goAll_103 : decode cX5_goAll 103 = .ok (.getfield 13, 3) := by decide +kernel
theorem dX5_goAll_106 : decode cX5_goAll 106 = .ok (.iload 4, 2) := by decide +kernel
theorem dX5_goAll_108 : decode cX5_goAll 108 = .ok (.iaload, 1) := by decide +kernel
theorem dX5_goAll_109 : decode cX5_goAll 109 = .ok (.iadd, 1) := by decide +kernel
theorem dX5_goAll_110 : decode cX5_goAll 110 = .ok (.aload_n 0, 1) := by decide +kernel
theorem dX5_goAll_111 : decode cX5_goAll 111 = .ok (.getfield 42, 3) := by decide +kernel
theorem dX5_goAll_114 : decode cX5_goAll 114 = .ok (.iload_n 2, 1) := by decide +kernel
theorem dX5_goAll_115 : decode cX5_goAll 115 = .ok (.iaload, 1) := by decide +kernel
theorem dX5_goAll_116 : decode cX5_goAll 116 = .ok (.if_icmp .eq 9, 3) := by decide +kernel
theorem dX5_goAll_119 : decode cX5_goAll 119 = .ok (.iinc 4 1, 3) := by decide +kernel
theorem dX5_goAll_122 : decode cX5_goAll 122 = .ok (.goto (-43), 3) := by decide +kernel
theorem dX5_goAll_125 : decode cX5_goAll 125 = .ok (.aload_n 0, 1) := by decide +kernel
theorem dX5_goAll_126 : decode cX5_goAll 126 = .ok (.getfield 45, 3) := by decide +kernel
theorem dX5_goAll_129 : decode cX5_goAll 129 = .ok (.bipush 16, 2) := by decide +kernel
theorem dX5_goAll_131 : decode cX5_goAll 131 = .ok (.iload_n 1, 1) := by decide +kernel
theorem dX5_goAll_132 : decode cX5_goAll 132 = .ok (.imul, 1) := by decide +kernel
theorem dX5_goAll_133 : decode cX5_goAll 133 = .ok (.iload_n 3, 1) := by decide +kernel
theorem dX5_goAll_134 : decode cX5_goAll 134 = .ok (.iadd, 1) := by decide +kernel
theorem dX5_goAll_135 : decode cX5_goAll 135 = .ok (.iload 4, 2) := by decide +kernel
theorem dX5_goAll_137 : decode cX5_goAll 137 = .ok (.iastore, 1) := by decide +kernel
theorem dX5_goAll_138 : decode cX5_goAll 138 = .ok (.iinc 3 1, 3) := by decide +kernel
theorem dX5_goAll_141 : decode cX5_goAll 141 = .ok (.aload_n 0, 1) := by decide +kernel
theorem dX5_goAll_142 : decode cX5_goAll 142 = .ok (.iload 4, 2) := by decide +kernel
theorem dX5_goAll_144 : decode cX5_goAll 144 = .ok (.iload_n 2, 1) := by decide +kernel
theorem dX5_goAll_145 : decode cX5_goAll 145 = .ok (.invokevirtual 95, 3) := by decide +kernel
theorem dX5_goAll_148 : decode cX5_goAll 148 = .ok (.istore_n 2, 1) := by decide +kernel
theorem dX5_goAll_149 : decode cX5_goAll 149 = .ok (.goto (-93), 3) := by decide +kernel
theorem dX5_goAll_152 : decode cX5_goAll 152 = .ok (.aload_n 0, 1) := by decide +kernel
theorem dX5_goAll_153 : decode cX5_goAll 153 = .ok (.getfield 45, 3) := by decide +kernel
theorem dX5_goAll_156 : decode cX5_goAll 156 = .ok (.bipush 16, 2) := by decide +kernel
theorem dX5_goAll_158 : decode cX5_goAll 158 = .ok (.iload_n 1, 1) := by decide +kernel
theorem dX5_goAll_159 : decode cX5_goAll 159 = .ok (.imul, 1) := by decide +kernel
theorem dX5_goAll_160 : decode cX5_goAll 160 = .ok (.iload_n 3, 1) := by decide +kernel
theorem dX5_goAll_161 : decode cX5_goAll 161 = .ok (.iadd, 1) := by decide +kernel
theorem dX5_goAll_162 : decode cX5_goAll 162 = .ok (.iconst (-1), 1) := by decide +kernel
theorem dX5_goAll_163 : decode cX5_goAll 163 = .ok (.iastore, 1) := by decide +kernel
theorem dX5_goAll_164 : decode cX5_goAll 164 = .ok (.iinc 1 1, 3) := by decide +kernel
theorem dX5_goAll_167 : decode cX5_goAll 167 = .ok (.goto (-165), 3) := by decide +kernel
theorem dX5_goAll_170 : decode cX5_goAll 170 = .ok (.return_, 1) := by decide +kernel
theorem dX5_measure_0 : decode cX5_measure 0 = .ok (.iconst 0, 1) := by decide +kernel
theorem dX5_measure_1 : decode cX5_measure 1 = .ok (.istore_n 2, 1) := by decide +kernel
theorem dX5_measure_2 : decode cX5_measure 2 = .ok (.iload_n 2, 1) := by decide +kernel
theorem dX5_measure_3 : decode cX5_measure 3 = .ok (.bipush 10, 2) := by decide +kernel
theorem dX5_measure_5 : decode cX5_measure 5 = .ok (.if_icmp .ge 26, 3) := by decide +kernel
theorem dX5_measure_8 : decode cX5_measure 8 = .ok (.aload_n 0, 1) := by decide +kernel
theorem dX5_measure_9 : decode cX5_measure 9 = .ok (.getfield 42, 3) := by decide +kernel
theorem dX5_measure_12 : decode cX5_measure 12 = .ok (.iload_n 2, 1) := by decide +kernel
theorem dX5_measure_13 : decode cX5_measure 13 = .ok (.iload_n 2, 1) := by decide +kernel
theorem dX5_measure_14 : decode cX5_measure 14 = .ok (.iload_n 1, 1) := by decide +kernel
theorem dX5_measure_15 : decode cX5_measure 15 = .ok (.if_icmp .ne 7, 3) := by decide +kernel
theorem dX5_measure_18 : decode cX5_measure 18 = .ok (.iconst 0, 1) := by decide +kernel
theorem dX5_measure_19 : decode cX5_measure 19 = .ok (.goto 5, 3) := by decide +kernel
theorem dX5_measure_22 : decode cX5_measure 22 = .ok (.ldc 90, 2) := by decide +kernel
theorem dX5_measure_24 : decode cX5_measure 24 = .ok (.iastore, 1) := by decide +kernel
theorem dX5_measure_25 : decode cX5_measure 25 = .ok (.iinc 2 1, 3) := by decide +kernel
theorem dX5_measure_28 : decode cX5_measure 28 = .ok (.goto (-26), 3) := by decide +kernel
theorem dX5_measure_31 : decode cX5_measure 31 = .ok (.iconst 0, 1) := by decide +kernel
theorem dX5_measure_32 : decode cX5_measure 32 = .ok (.istore_n 2, 1) := by decide +kernel
theorem dX5_measure_33 : decode cX5_measure 33 = .ok (.iload_n 2, 1) := by decide +kernel
theorem dX5_measure_34 : decode cX5_measure 34 = .ok (.bipush 10, 2) := by decide +kernel
theorem dX5_measure_36 : decode cX5_measure 36 = .ok (.if_icmp .ge 157, 3) := by decide +kernel
theorem dX5_measure_39 : decode cX5_measure 39 = .ok (.iconst 0, 1) := by decide +kernel
theorem dX5_measure_40 : decode cX5_measure 40 = .ok (.istore_n 3, 1) := by decide +kernel
theorem dX5_measure_41 : decode cX5_measure 41 = .ok (.iload_n 3, 1) := by decide +kernel
theorem dX5_measure_42 : decode cX5_measure 42 = .ok (.aload_n 0, 1) := by decide +kernel
theorem dX5_measure_43 : decode cX5_measure 43 = .ok (.getfield 73, 3) := by decide +kernel
theorem dX5_measure_46 : decode cX5_measure 46 = .ok (.if_icmp .ge 141, 3) := by decide +kernel
theorem dX5_measure_49 : decode cX5_measure 49 = .ok (.aload_n 0, 1) := by decide +kernel
theorem dX5_measure_50 : decode cX5_measure 50 = .ok (.getfield 7, 3) := by decide +kernel
theorem dX5_measure_53 : decode cX5_measure 53 = .ok (.iconst 2, 1) := by decide +kernel
theorem dX5_measure_54 : decode cX5_measure 54 = .ok (.iload_n 3, 1) := by decide +kernel
theorem dX5_measure_55 : decode cX5_measure 55 = .ok (.imul, 1) := by decide +kernel
theorem dX5_measure_56 : decode cX5_measure 56 = .ok (.iaload, 1) := by decide +kernel
theorem dX5_measure_57 : decode cX5_measure 57 = .ok (.istore 4, 2) := by decide +kernel
theorem dX5_measure_59 : decode cX5_measure 59 = .ok (.aload_n 0, 1) := by decide +kernel
theorem dX5_measure_60 : decode cX5_measure 60 = .ok (.getfield 7, 3) := by decide +kernel
theorem dX5_measure_63 : decode cX5_measure 63 = .ok (.iconst 2, 1) := by decide +kernel
theorem dX5_measure_64 : decode cX5_measure 64 = .ok (.iload_n 3, 1) := by decide +kernel
theorem dX5_measure_65 : decode cX5_measure 65 = .ok (.imul, 1) := by decide +kernel
theorem dX5_measure_66 : decode cX5_measure 66 = .ok (.iconst 1, 1) := by decide +kernel
theorem dX5_measure_67 : decode cX5_measure 67 = .ok (.iadd, 1) := by decide +kernel
theorem dX5_measure_68 : decode cX5_measure 68 = .ok (.iaload, 1) := by decide +kernel
theorem dX5_measure_69 : decode cX5_measure 69 = .ok (.istore 5, 2) := by decide +kernel
theorem dX5_measure_71 : decode cX5_measure 71 = .ok (.aload_n 0, 1) := by decide +kernel
theorem dX5_measure_72 : decode cX5_measure 72 = .ok (.getfield 42, 3) := by decide +kernel
theorem dX5_measure_75 : decode cX5_measure 75 = .ok (.iload 4, 2) := by decide +kernel
theorem dX5_measure_77 : decode cX5_measure 77 = .ok (.aload_n 0, 1) := by decide +kernel
theorem dX5_measure_78 : decode cX5_measure 78 = .ok (.getfield 42, 3) := by decide +kernel
theorem dX5_measure_81 : decode cX5_measure 81 = .ok (.iload 5, 2) := by decide +kernel
theorem dX5_measure_83 : decode cX5_measure 83 = .ok (.iaload, 1) := by decide +kernel
theorem dX5_measure_84 : decode cX5_measure 84 = .ok (.aload_n 0, 1) := by decide +kernel
theorem dX5_measure_85 : decode cX5_measure 85 = .ok (.getfield 13, 3) := by decide +kernel
theorem dX5_measure_88 : decode cX5_measure 88 = .ok (.iload_n 3, 1) := by decide +kernel
theorem dX5_measure_89 : decode cX5_measure 89 = .ok (.iaload, 1) := by decide +kernel
theorem dX5_measure_90 : decode cX5_measure 90 = .ok (.iadd, 1) := by decide +kernel
theorem dX5_measure_91 : decode cX5_measure 91 = .ok (.aload_n 0, 1) := by decide +kernel
theorem dX5_measure_92 : decode cX5_measure 92 = .ok (.getfield 42, 3) := by decide +kernel
theorem dX5_measure_95 : decode cX5_measure 95 = .ok (.iload 4, 2) := by decide +kernel
theorem dX5_measure_97 : decode cX5_measure 97 = .ok (.iaload, 1) := by decide +kernel
theorem dX5_measure_98 : decode cX5_measure 98 = .ok (.if_icmp .ge 20, 3) := by decide +kernel
theorem dX5_measure_101 : decode cX5_measure 101 = .ok (.aload_n 0, 1) := by decide +kernel
theorem dX5_measure_102 : decode cX5_measure 102 = .ok (.getfield 42, 3) := by decide +kernel
theorem dX5_measure_105 : decode cX5_measure 105 = .ok (.iload 5, 2) := by decide +kernel
theorem dX5_measure_107 : decode cX5_measure 107 = .ok (.iaload, 1) := by decide +kernel
theorem dX5_measure_108 : decode cX5_measure 108 = .ok (.aload_n 0, 1) := by decide +kernel
theorem dX5_measure_109 : decode cX5_measure 109 = .ok (.getfield 13, 3) := by decide +kernel
theorem dX5_measure_112 : decode cX5_measure 112 = .ok (.iload_n 3, 1) := by decide +kernel
theorem dX5_measure_113 : decode cX5_measure 113 = .ok (.iaload, 1) := by decide +kernel
theorem dX5_measure_114 : decode cX5_measure 114 = .ok (.iadd, 1) := by decide +kernel
theorem dX5_measure_115 : decode cX5_measure 115 = .ok (.goto 10, 3) := by decide +kernel
theorem dX5_measure_118 : decode cX5_measure 118 = .ok (.aload_n 0, 1) := by decide +kernel
theorem dX5_measure_119 : decode cX5_measure 119 = .ok (.getfield 42, 3) := by decide +kernel
theorem dX5_measure_122 : decode cX5_measure 122 = .ok (.iload 4, 2) := by decide +kernel
theorem dX5_measure_124 : decode cX5_measure 124 = .ok (.iaload, 1) := by decide +kernel
theorem dX5_measure_125 : decode cX5_measure 125 = .ok (.iastore, 1) := by decide +kernel
theorem dX5_measure_126 : decode cX5_measure 126 = .ok (.aload_n 0, 1) := by decide +kernel
theorem dX5_measure_127 : decode cX5_measure 127 = .ok (.getfield 42, 3) := by decide +kernel
theorem dX5_measure_130 : decode cX5_measure 130 = .ok (.iload 5, 2) := by decide +kernel
theorem dX5_measure_132 : decode cX5_measure 132 = .ok (.aload_n 0, 1) := by decide +kernel
theorem dX5_measure_133 : decode cX5_measure 133 = .ok (.getfield 42, 3) := by decide +kernel
theorem dX5_measure_136 : decode cX5_measure 136 = .ok (.iload 4, 2) := by decide +kernel
theorem dX5_measure_138 : decode cX5_measure 138 = .ok (.iaload, 1) := by decide +kernel
theorem dX5_measure_139 : decode cX5_measure 139 = .ok (.aload_n 0, 1) := by decide +kernel
theorem dX5_measure_140 : decode cX5_measure 140 = .ok (.getfield 13, 3) := by decide +kernel
theorem dX5_measure_143 : decode cX5_measure 143 = .ok (.iload_n 3, 1) := by decide +kernel
theorem dX5_measure_144 : decode cX5_measure 144 = .ok (.iaload, 1) := by decide +kernel
theorem dX5_measure_145 : decode cX5_measure 145 = .ok (.iadd, 1) := by decide +kernel
theorem dX5_measure_146 : decode cX5_measure 146 = .ok (.aload_n 0, 1) := by decide +kernel
theorem dX5_measure_147 : decode cX5_measure 147 = .ok (.getfield 42, 3) := by decide +kernel
theorem dX5_measure_150 : decode cX5_measure 150 = .ok (.iload 5, 2) := by decide +kernel
theorem dX5_measure_152 : decode cX5_measure 152 = .ok (.iaload, 1) := by decide +kernel
theorem dX5_measure_153 : decode cX5_measure 153 = .ok (.if_icmp .ge 20, 3) := by decide +kernel
theorem dX5_measure_156 : decode cX5_measure 156 = .ok (.aload_n 0, 1) := by decide +kernel
theorem dX5_measure_157 : decode cX5_measure 157 = .ok (.getfield 42, 3) := by decide +kernel
theorem dX5_measure_160 : decode cX5_measure 160 = .ok (.iload 4, 2) := by decide +kernel
theorem dX5_measure_162 : decode cX5_measure 162 = .ok (.iaload, 1) := by decide +kernel
theorem dX5_measure_163 : decode cX5_measure 163 = .ok (.aload_n 0, 1) := by decide +kernel
theorem dX5_measure_164 : decode cX5_measure 164 = .ok (.getfield 13, 3) := by decide +kernel
theorem dX5_measure_167 : decode cX5_measure 167 = .ok (.iload_n 3, 1) := by decide +kernel
theorem dX5_measure_168 : decode cX5_measure 168 = .ok (.iaload, 1) := by decide +kernel
theorem dX5_measure_169 : decode cX5_measure 169 = .ok (.iadd, 1) := by decide +kernel
theorem dX5_measure_170 : decode cX5_measure 170 = .ok (.goto 10, 3) := by decide +kernel
theorem dX5_measure_173 : decode cX5_measure 173 = .ok (.aload_n 0, 1) := by decide +kernel
theorem dX5_measure_174 : decode cX5_measure 174 = .ok (.getfield 42, 3) := by decide +kernel
theorem dX5_measure_177 : decode cX5_measure 177 = .ok (.iload 5, 2) := by decide +kernel
theorem dX5_measure_179 : decode cX5_measure 179 = .ok (.iaload, 1) := by decide +kernel
theorem dX5_measure_180 : decode cX5_measure 180 = .ok (.iastore, 1) := by decide +kernel
theorem dX5_measure_181 : decode cX5_measure 181 = .ok (.iinc 3 1, 3) := by decide +kernel
theorem dX5_measure_184 : decode cX5_measure 184 = .ok (.goto (-143), 3) := by decide +kernel
theorem dX5_measure_187 : decode cX5_measure 187 = .ok (.iinc 2 1, 3) := by decide +kernel
theorem dX5_measure_190 : decode cX5_measure 190 = .ok (.goto (-157), 3) := by decide +kernel
theorem dX5_measure_193 : decode cX5_measure 193 = .ok (.return_, 1) := by decide +kernel
theorem dX5_behind_0 : decode cX5_behind 0 = .ok (.aload_n 0, 1) := by decide +kernel
theorem dX5_behind_1 : decode cX5_behind 1 = .ok (.getfield 7, 3) := by decide +kernel
theorem dX5_behind_4 : decode cX5_behind 4 = .ok (.iconst 2, 1) := by decide +kernel
theorem dX5_behind_5 : decode cX5_behind 5 = .ok (.iload_n 1, 1) := by decide +kernel
theorem dX5_behind_6 : decode cX5_behind 6 = .ok (.imul, 1) := by decide +kernel
theorem dX5_behind_7 : decode cX5_behind 7 = .ok (.iaload, 1) := by decide +kernel
theorem dX5_behind_8 : decode cX5_behind 8 = .ok (.iload_n 2, 1) := by decide +kernel
theorem dX5_behind_9 : decode cX5_behind 9 = .ok (.if_icmp .ne 16, 3) := by decide +kernel
theorem dX5_behind_12 : decode cX5_behind 12 = .ok (.aload_n 0, 1) := by decide +kernel
theorem dX5_behind_13 : decode cX5_behind 13 = .ok (.getfield 7, 3) := by decide +kernel
theorem dX5_behind_16 : decode cX5_behind 16 = .ok (.iconst 2, 1) := by decide +kernel
theorem dX5_behind_17 : decode cX5_behind 17 = .ok (.iload_n 1, 1) := by decide +kernel
theorem dX5_behind_18 : decode cX5_behind 18 = .ok (.imul, 1) := by decide +kernel
theorem dX5_behind_19 : decode cX5_behind 19 = .ok (.iconst 1, 1) := by decide +kernel
theorem dX5_behind_20 : decode cX5_behind 20 = .ok (.iadd, 1) := by decide +kernel
theorem dX5_behind_21 : decode cX5_behind 21 = .ok (.iaload, 1) := by decide +kernel
theorem dX5_behind_22 : decode cX5_behind 22 = .ok (.goto 29, 3) := by decide +kernel
theorem dX5_behind_25 : decode cX5_behind 25 = .ok (.aload_n 0, 1) := by decide +kernel
theorem dX5_behind_26 : decode cX5_behind 26 = .ok (.getfield 7, 3) := by decide +kernel
theorem dX5_behind_29 : decode cX5_behind 29 = .ok (.iconst 2, 1) := by decide +kernel
theorem dX5_behind_30 : decode cX5_behind 30 = .ok (.iload_n 1, 1) := by decide +kernel
theorem dX5_behind_31 : decode cX5_behind 31 = .ok (.imul, 1) := by decide +kernel
theorem dX5_behind_32 : decode cX5_behind 32 = .ok (.iconst 1, 1) := by decide +kernel
theorem dX5_behind_33 : decode cX5_behind 33 = .ok (.iadd, 1) := by decide +kernel
theorem dX5_behind_34 : decode cX5_behind 34 = .ok (.iaload, 1) := by decide +kernel
theorem dX5_behind_35 : decode cX5_behind 35 = .ok (.iload_n 2, 1) := by decide +kernel
theorem dX5_behind_36 : decode cX5_behind 36 = .ok (.if_icmp .ne 14, 3) := by decide +kernel
theorem dX5_behind_39 : decode cX5_behind 39 = .ok (.aload_n 0, 1) := by decide +kernel
theorem dX5_behind_40 : decode cX5_behind 40 = .ok (.getfield 7, 3) := by decide +kernel
theorem dX5_behind_43 : decode cX5_behind 43 = .ok (.iconst 2, 1) := by decide +kernel
theorem dX5_behind_44 : decode cX5_behind 44 = .ok (.iload_n 1, 1) := by decide +kernel
theorem dX5_behind_45 : decode cX5_behind 45 = .ok (.imul, 1) := by decide +kernel
theorem dX5_behind_46 : decode cX5_behind 46 = .ok (.iaload, 1) := by decide +kernel
theorem dX5_behind_47 : decode cX5_behind 47 = .ok (.goto 4, 3) := by decide +kernel
theorem dX5_behind_50 : decode cX5_behind 50 = .ok (.iconst (-1), 1) := by decide +kernel
theorem dX5_behind_51 : decode cX5_behind 51 = .ok (.ireturn, 1) := by decide +kernel
theorem dX5_way2_0 : decode cX5_way2 0 = .ok (.aload_n 0, 1) := by decide +kernel
theorem dX5_way2_1 : decode cX5_way2 1 = .ok (.aload_n 0, 1) := by decide +kernel
theorem dX5_way2_2 : decode cX5_way2 2 = .ok (.iload_n 1, 1) := by decide +kernel
theorem dX5_way2_3 : decode cX5_way2 3 = .ok (.invokevirtual 82, 3) := by decide +kernel
theorem dX5_way2_6 : decode cX5_way2 6 = .ok (.ifCond .ne 7, 3) := by decide +kernel
theorem dX5_way2_9 : decode cX5_way2 9 = .ok (.iload_n 2, 1) := by decide +kernel
theorem dX5_way2_10 : decode cX5_way2 10 = .ok (.ifCond .ge 7, 3) := by decide +kernel
theorem dX5_way2_13 : decode cX5_way2 13 = .ok (.iconst 1, 1) := by decide +kernel
theorem dX5_way2_14 : decode cX5_way2 14 = .ok (.goto 4, 3) := by decide +kernel
theorem dX5_way2_17 : decode cX5_way2 17 = .ok (.iconst 0, 1) := by decide +kernel
theorem dX5_way2_18 : decode cX5_way2 18 = .ok (.putfield 58, 3) := by decide +kernel
theorem dX5_way2_21 : decode cX5_way2 21 = .ok (.aload_n 0, 1) := by decide +kernel
theorem dX5_way2_22 : decode cX5_way2 22 = .ok (.getfield 58, 3) := by decide +kernel
theorem dX5_way2_25 : decode cX5_way2 25 = .ok (.ifCond .le 5, 3) := by decide +kernel
theorem dX5_way2_28 : decode cX5_way2 28 = .ok (.iconst 0, 1) := by decide +kernel
theorem dX5_way2_29 : decode cX5_way2 29 = .ok (.ireturn, 1) := by decide +kernel
theorem dX5_way2_30 : decode cX5_way2 30 = .ok (.aload_n 0, 1) := by decide +kernel
theorem dX5_way2_31 : decode cX5_way2 31 = .ok (.invokevirtual 99, 3) := by decide +kernel
theorem dX5_way2_34 : decode cX5_way2 34 = .ok (.iconst 0, 1) := by decide +kernel
theorem dX5_way2_35 : decode cX5_way2 35 = .ok (.istore_n 3, 1) := by decide +kernel
theorem dX5_way2_36 : decode cX5_way2 36 = .ok (.aload_n 0, 1) := by decide +kernel
theorem dX5_way2_37 : decode cX5_way2 37 = .ok (.getfield 45, 3) := by decide +kernel
theorem dX5_way2_40 : decode cX5_way2 40 = .ok (.bipush 16, 2) := by decide +kernel
theorem dX5_way2_42 : decode cX5_way2 42 = .ok (.iload_n 1, 1) := by decide +kernel
theorem dX5_way2_43 : decode cX5_way2 43 = .ok (.imul, 1) := by decide +kernel
theorem dX5_way2_44 : decode cX5_way2 44 = .ok (.iload_n 3, 1) := by decide +kernel
theorem dX5_way2_45 : decode cX5_way2 45 = .ok (.iadd, 1) := by decide +kernel
theorem dX5_way2_46 : decode cX5_way2 46 = .ok (.iaload, 1) := by decide +kernel
theorem dX5_way2_47 : decode cX5_way2 47 = .ok (.iconst (-1), 1) := by decide +kernel
theorem dX5_way2_48 : decode cX5_way2 48 = .ok (.if_icmp .eq 14, 3) := by decide +kernel
theorem dX5_way2_51 : decode cX5_way2 51 = .ok (.iload_n 3, 1) := by decide +kernel
theorem dX5_way2_52 : decode cX5_way2 52 = .ok (.iload_n 2, 1) := by decide +kernel
theorem dX5_way2_53 : decode cX5_way2 53 = .ok (.if_icmp .ge 9, 3) := by decide +kernel
theorem dX5_way2_56 : decode cX5_way2 56 = .ok (.iinc 3 1, 3) := by decide +kernel
theorem dX5_way2_59 : decode cX5_way2 59 = .ok (.goto (-23), 3) := by decide +kernel
theorem dX5_way2_62 : decode cX5_way2 62 = .ok (.aload_n 0, 1) := by decide +kernel
theorem dX5_way2_63 : decode cX5_way2 63 = .ok (.getfield 45, 3) := by decide +kernel
theorem dX5_way2_66 : decode cX5_way2 66 = .ok (.bipush 16, 2) := by decide +kernel
theorem dX5_way2_68 : decode cX5_way2 68 = .ok (.iload_n 1, 1) := by decide +kernel
theorem dX5_way2_69 : decode cX5_way2 69 = .ok (.imul, 1) := by decide +kernel
theorem dX5_way2_70 : decode cX5_way2 70 = .ok (.iload_n 3, 1) := by decide +kernel
theorem dX5_way2_71 : decode cX5_way2 71 = .ok (.iadd, 1) := by decide +kernel
theorem dX5_way2_72 : decode cX5_way2 72 = .ok (.iaload, 1) := by decide +kernel
theorem dX5_way2_73 : decode cX5_way2 73 = .ok (.ireturn, 1) := by decide +kernel
theorem dX5_settled_0 : decode cX5_settled 0 = .ok (.aload_n 0, 1) := by decide +kernel
theorem dX5_settled_1 : decode cX5_settled 1 = .ok (.iconst 0, 1) := by decide +kernel
theorem dX5_settled_2 : decode cX5_settled 2 = .ok (.putfield 58, 3) := by decide +kernel
theorem dX5_settled_5 : decode cX5_settled 5 = .ok (.aload_n 0, 1) := by decide +kernel
theorem dX5_settled_6 : decode cX5_settled 6 = .ok (.invokevirtual 122, 3) := by decide +kernel
theorem dX5_settled_9 : decode cX5_settled 9 = .ok (.ireturn, 1) := by decide +kernel
theorem dX5_choose_0 : decode cX5_choose 0 = .ok (.aload_n 0, 1) := by decide +kernel
theorem dX5_choose_1 : decode cX5_choose 1 = .ok (.invokevirtual 99, 3) := by decide +kernel
theorem dX5_choose_4 : decode cX5_choose 4 = .ok (.aload_n 0, 1) := by decide +kernel
theorem dX5_choose_5 : decode cX5_choose 5 = .ok (.getfield 76, 3) := by decide +kernel
theorem dX5_choose_8 : decode cX5_choose 8 = .ok (.ifCond .ne 16, 3) := by decide +kernel
theorem dX5_choose_11 : decode cX5_choose 11 = .ok (.aload_n 0, 1) := by decide +kernel
theorem dX5_choose_12 : decode cX5_choose 12 = .ok (.getfield 79, 3) := by decide +kernel
theorem dX5_choose_15 : decode cX5_choose 15 = .ok (.ifCond .ne 7, 3) := by decide +kernel
theorem dX5_choose_18 : decode cX5_choose 18 = .ok (.iconst 1, 1) := by decide +kernel
theorem dX5_choose_19 : decode cX5_choose 19 = .ok (.goto 4, 3) := by decide +kernel
theorem dX5_choose_22 : decode cX5_choose 22 = .ok (.iconst 0, 1) := by decide +kernel
theorem dX5_choose_23 : decode cX5_choose 23 = .ok (.ireturn, 1) := by decide +kernel
theorem dX5_choose_24 : decode cX5_choose 24 = .ok (.iconst 0, 1) := by decide +kernel
theorem dX5_choose_25 : decode cX5_choose 25 = .ok (.istore_n 1, 1) := by decide +kernel
theorem dX5_choose_26 : decode cX5_choose 26 = .ok (.iload_n 1, 1) := by decide +kernel
theorem dX5_choose_27 : decode cX5_choose 27 = .ok (.aload_n 0, 1) := by decide +kernel
theorem dX5_choose_28 : decode cX5_choose 28 = .ok (.getfield 79, 3) := by decide +kernel
theorem dX5_choose_31 : decode cX5_choose 31 = .ok (.if_icmp .ge 16, 3) := by decide +kernel
theorem dX5_choose_34 : decode cX5_choose 34 = .ok (.aload_n 0, 1) := by decide +kernel
theorem dX5_choose_35 : decode cX5_choose 35 = .ok (.getfield 51, 3) := by decide +kernel
theorem dX5_choose_38 : decode cX5_choose 38 = .ok (.iload_n 1, 1) := by decide +kernel
theorem dX5_choose_39 : decode cX5_choose 39 = .ok (.iconst 0, 1) := by decide +kernel
theorem dX5_choose_40 : decode cX5_choose 40 = .ok (.iastore, 1) := by decide +kernel
theorem dX5_choose_41 : decode cX5_choose 41 = .ok (.iinc 1 1, 3) := by decide +kernel
theorem dX5_choose_44 : decode cX5_choose 44 = .ok (.goto (-18), 3) := by decide +kernel
theorem dX5_choose_47 : decode cX5_choose 47 = .ok (.iconst 1, 1) := by decide +kernel
theorem dX5_choose_48 : decode cX5_choose 48 = .ok (.istore_n 1, 1) := by decide +kernel
theorem dX5_choose_49 : decode cX5_choose 49 = .ok (.iload_n 1, 1) := by decide +kernel
theorem dX5_choose_50 : decode cX5_choose 50 = .ok (.ifCond .eq 136, 3) := by decide +kernel
theorem dX5_choose_53 : decode cX5_choose 53 = .ok (.iconst 0, 1) := by decide +kernel
theorem dX5_choose_54 : decode cX5_choose 54 = .ok (.istore_n 1, 1) := by decide +kernel
theorem dX5_choose_55 : decode cX5_choose 55 = .ok (.iconst 0, 1) := by decide +kernel
theorem dX5_choose_56 : decode cX5_choose 56 = .ok (.istore_n 2, 1) := by decide +kernel
theorem dX5_choose_57 : decode cX5_choose 57 = .ok (.iload_n 2, 1) := by decide +kernel
theorem dX5_choose_58 : decode cX5_choose 58 = .ok (.aload_n 0, 1) := by decide +kernel
theorem dX5_choose_59 : decode cX5_choose 59 = .ok (.getfield 79, 3) := by decide +kernel
theorem dX5_choose_62 : decode cX5_choose 62 = .ok (.if_icmp .ge 47, 3) := by decide +kernel
theorem dX5_choose_65 : decode cX5_choose 65 = .ok (.aload_n 0, 1) := by decide +kernel
theorem dX5_choose_66 : decode cX5_choose 66 = .ok (.getfield 54, 3) := by decide +kernel
theorem dX5_choose_69 : decode cX5_choose 69 = .ok (.iload_n 2, 1) := by decide +kernel
theorem dX5_choose_70 : decode cX5_choose 70 = .ok (.aload_n 0, 1) := by decide +kernel
theorem dX5_choose_71 : decode cX5_choose 71 = .ok (.iload_n 2, 1) := by decide +kernel
theorem dX5_choose_72 : decode cX5_choose 72 = .ok (.invokevirtual 119, 3) := by decide +kernel
theorem dX5_choose_75 : decode cX5_choose 75 = .ok (.ifCond .ne 7, 3) := by decide +kernel
theorem dX5_choose_78 : decode cX5_choose 78 = .ok (.iconst 1, 1) := by decide +kernel
theorem dX5_choose_79 : decode cX5_choose 79 = .ok (.goto 4, 3) := by decide +kernel
theorem dX5_choose_82 : decode cX5_choose 82 = .ok (.iconst 0, 1) := by decide +kernel
theorem dX5_choose_83 : decode cX5_choose 83 = .ok (.bastore, 1) := by decide +kernel
theorem dX5_choose_84 : decode cX5_choose 84 = .ok (.iload_n 1, 1) := by decide +kernel
theorem dX5_choose_85 : decode cX5_choose 85 = .ok (.ifCond .ne 12, 3) := by decide +kernel
theorem dX5_choose_88 : decode cX5_choose 88 = .ok (.aload_n 0, 1) := by decide +kernel
theorem dX5_choose_89 : decode cX5_choose 89 = .ok (.getfield 54, 3) := by decide +kernel
theorem dX5_choose_92 : decode cX5_choose 92 = .ok (.iload_n 2, 1) := by decide +kernel
theorem dX5_choose_93 : decode cX5_choose 93 = .ok (.baload, 1) := by decide +kernel
theorem dX5_choose_94 : decode cX5_choose 94 = .ok (.ifCond .eq 7, 3) := by decide +kernel
theorem dX5_choose_97 : decode cX5_choose 97 = .ok (.iconst 1, 1) := by decide +kernel
theorem dX5_choose_98 : decode cX5_choose 98 = .ok (.goto 4, 3) := by decide +kernel
theorem dX5_choose_101 : decode cX5_choose 101 = .ok (.iconst 0, 1) := by decide +kernel
theorem dX5_choose_102 : decode cX5_choose 102 = .ok (.istore_n 1, 1) := by decide +kernel
theorem dX5_choose_103 : decode cX5_choose 103 = .ok (.iinc 2 1, 3) := by decide +kernel
theorem dX5_choose_106 : decode cX5_choose 106 = .ok (.goto (-49), 3) := by decide +kernel
theorem dX5_choose_109 : decode cX5_choose 109 = .ok (.iconst 0, 1) := by decide +kernel
theorem dX5_choose_110 : decode cX5_choose 110 = .ok (.istore_n 2, 1) := by decide +kernel
theorem dX5_choose_111 : decode cX5_choose 111 = .ok (.iload_n 2, 1) := by decide +kernel
theorem dX5_choose_112 : decode cX5_choose 112 = .ok (.aload_n 0, 1) := by decide +kernel
theorem dX5_choose_113 : decode cX5_choose 113 = .ok (.getfield 79, 3) := by decide +kernel
theorem dX5_choose_116 : decode cX5_choose 116 = .ok (.if_icmp .ge 67, 3) := by decide +kernel
theorem dX5_choose_119 : decode cX5_choose 119 = .ok (.aload_n 0, 1) := by decide +kernel
theorem dX5_choose_120 : decode cX5_choose 120 = .ok (.getfield 54, 3) := by decide +kernel
theorem dX5_choose_123 : decode cX5_choose 123 = .ok (.iload_n 2, 1) := by decide +kernel
theorem dX5_choose_124 : decode cX5_choose 124 = .ok (.baload, 1) := by decide +kernel
theorem dX5_choose_125 : decode cX5_choose 125 = .ok (.ifCond .eq 20, 3) := by decide +kernel
theorem dX5_choose_128 : decode cX5_choose 128 = .ok (.aload_n 0, 1) := by decide +kernel
theorem dX5_choose_129 : decode cX5_choose 129 = .ok (.getfield 51, 3) := by decide +kernel
theorem dX5_choose_132 : decode cX5_choose 132 = .ok (.iload_n 2, 1) := by decide +kernel
theorem dX5_choose_133 : decode cX5_choose 133 = .ok (.iaload, 1) := by decide +kernel
theorem dX5_choose_134 : decode cX5_choose 134 = .ok (.aload_n 0, 1) := by decide +kernel
theorem dX5_choose_135 : decode cX5_choose 135 = .ok (.getfield 76, 3) := by decide +kernel
theorem dX5_choose_138 : decode cX5_choose 138 = .ok (.iconst 1, 1) := by decide +kernel
theorem dX5_choose_139 : decode cX5_choose 139 = .ok (.isub, 1) := by decide +kernel
theorem dX5_choose_140 : decode cX5_choose 140 = .ok (.if_icmp .ne 5, 3) := by decide +kernel
theorem dX5_choose_143 : decode cX5_choose 143 = .ok (.iconst 0, 1) := by decide +kernel
theorem dX5_choose_144 : decode cX5_choose 144 = .ok (.ireturn, 1) := by decide +kernel
theorem dX5_choose_145 : decode cX5_choose 145 = .ok (.aload_n 0, 1) := by decide +kernel
theorem dX5_choose_146 : decode cX5_choose 146 = .ok (.getfield 51, 3) := by decide +kernel
theorem dX5_choose_149 : decode cX5_choose 149 = .ok (.iload_n 2, 1) := by decide +kernel
theorem dX5_choose_150 : decode cX5_choose 150 = .ok (.aload_n 0, 1) := by decide +kernel
theorem dX5_choose_151 : decode cX5_choose 151 = .ok (.getfield 54, 3) := by decide +kernel
theorem dX5_choose_154 : decode cX5_choose 154 = .ok (.iload_n 2, 1) := by decide +kernel
theorem dX5_choose_155 : decode cX5_choose 155 = .ok (.baload, 1) := by decide +kernel
theorem dX5_choose_156 : decode cX5_choose 156 = .ok (.ifCond .eq 14, 3) := by decide +kernel
theorem dX5_choose_159 : decode cX5_choose 159 = .ok (.aload_n 0, 1) := by decide +kernel
theorem dX5_choose_160 : decode cX5_choose 160 = .ok (.getfield 51, 3) := by decide +kernel
theorem dX5_choose_163 : decode cX5_choose 163 = .ok (.iload_n 2, 1) := by decide +kernel
theorem dX5_choose_164 : decode cX5_choose 164 = .ok (.iaload, 1) := by decide +kernel
theorem dX5_choose_165 : decode cX5_choose 165 = .ok (.iconst 1, 1) := by decide +kernel
theorem dX5_choose_166 : decode cX5_choose 166 = .ok (.iadd, 1) := by decide +kernel
theorem dX5_choose_167 : decode cX5_choose 167 = .ok (.goto 9, 3) := by decide +kernel
theorem dX5_choose_170 : decode cX5_choose 170 = .ok (.aload_n 0, 1) := by decide +kernel
theorem dX5_choose_171 : decode cX5_choose 171 = .ok (.getfield 51, 3) := by decide +kernel
theorem dX5_choose_174 : decode cX5_choose 174 = .ok (.iload_n 2, 1) := by decide +kernel
theorem dX5_choose_175 : decode cX5_choose 175 = .ok (.iaload, 1) := by decide +kernel
theorem dX5_choose_176 : decode cX5_choose 176 = .ok (.iastore, 1) := by decide +kernel
theorem dX5_choose_177 : decode cX5_choose 177 = .ok (.iinc 2 1, 3) := by decide +kernel
theorem dX5_choose_180 : decode cX5_choose 180 = .ok (.goto (-69), 3) := by decide +kernel
theorem dX5_choose_183 : decode cX5_choose 183 = .ok (.goto (-134), 3) := by decide +kernel
theorem dX5_choose_186 : decode cX5_choose 186 = .ok (.iconst 1, 1) := by decide +kernel
theorem dX5_choose_187 : decode cX5_choose 187 = .ok (.ireturn, 1) := by decide +kernel
theorem dX5_isRight_0 : decode cX5_isRight 0 = .ok (.aload_n 0, 1) := by decide +kernel
theorem dX5_isRight_1 : decode cX5_isRight 1 = .ok (.getfield 48, 3) := by decide +kernel
theorem dX5_isRight_4 : decode cX5_isRight 4 = .ok (.iload_n 1, 1) := by decide +kernel
theorem dX5_isRight_5 : decode cX5_isRight 5 = .ok (.iaload, 1) := by decide +kernel
theorem dX5_isRight_6 : decode cX5_isRight 6 = .ok (.iconst (-1), 1) := by decide +kernel
theorem dX5_isRight_7 : decode cX5_isRight 7 = .ok (.if_icmp .eq 29, 3) := by decide +kernel
theorem dX5_isRight_10 : decode cX5_isRight 10 = .ok (.aload_n 0, 1) := by decide +kernel
theorem dX5_isRight_11 : decode cX5_isRight 11 = .ok (.iload_n 1, 1) := by decide +kernel
theorem dX5_isRight_12 : decode cX5_isRight 12 = .ok (.invokevirtual 113, 3) := by decide +kernel
theorem dX5_isRight_15 : decode cX5_isRight 15 = .ok (.aload_n 0, 1) := by decide +kernel
theorem dX5_isRight_16 : decode cX5_isRight 16 = .ok (.getfield 34, 3) := by decide +kernel
theorem dX5_isRight_19 : decode cX5_isRight 19 = .ok (.iload_n 1, 1) := by decide +kernel
theorem dX5_isRight_20 : decode cX5_isRight 20 = .ok (.iaload, 1) := by decide +kernel
theorem dX5_isRight_21 : decode cX5_isRight 21 = .ok (.if_icmp .lt 19, 3) := by decide +kernel
theorem dX5_isRight_24 : decode cX5_isRight 24 = .ok (.aload_n 0, 1) := by decide +kernel
theorem dX5_isRight_25 : decode cX5_isRight 25 = .ok (.iload_n 1, 1) := by decide +kernel
theorem dX5_isRight_26 : decode cX5_isRight 26 = .ok (.invokevirtual 116, 3) := by decide +kernel
theorem dX5_isRight_29 : decode cX5_isRight 29 = .ok (.aload_n 0, 1) := by decide +kernel
theorem dX5_isRight_30 : decode cX5_isRight 30 = .ok (.getfield 38, 3) := by decide +kernel
theorem dX5_isRight_33 : decode cX5_isRight 33 = .ok (.if_icmp .gt 7, 3) := by decide +kernel
theorem dX5_isRight_36 : decode cX5_isRight 36 = .ok (.iconst 1, 1) := by decide +kernel
theorem dX5_isRight_37 : decode cX5_isRight 37 = .ok (.goto 4, 3) := by decide +kernel
theorem dX5_isRight_40 : decode cX5_isRight 40 = .ok (.iconst 0, 1) := by decide +kernel
theorem dX5_isRight_41 : decode cX5_isRight 41 = .ok (.ireturn, 1) := by decide +kernel
theorem dX5_carries_0 : decode cX5_carries 0 = .ok (.sipush 1000, 3) := by decide +kernel
theorem dX5_carries_3 : decode cX5_carries 3 = .ok (.istore_n 2, 1) := by decide +kernel
theorem dX5_carries_4 : decode cX5_carries 4 = .ok (.iconst 0, 1) := by decide +kernel
theorem dX5_carries_5 : decode cX5_carries 5 = .ok (.istore_n 3, 1) := by decide +kernel
theorem dX5_carries_6 : decode cX5_carries 6 = .ok (.aload_n 0, 1) := by decide +kernel
theorem dX5_carries_7 : decode cX5_carries 7 = .ok (.getfield 45, 3) := by decide +kernel
theorem dX5_carries_10 : decode cX5_carries 10 = .ok (.bipush 16, 2) := by decide +kernel
theorem dX5_carries_12 : decode cX5_carries 12 = .ok (.iload_n 1, 1) := by decide +kernel
theorem dX5_carries_13 : decode cX5_carries 13 = .ok (.imul, 1) := by decide +kernel
theorem dX5_carries_14 : decode cX5_carries 14 = .ok (.iload_n 3, 1) := by decide +kernel
theorem dX5_carries_15 : decode cX5_carries 15 = .ok (.iadd, 1) := by decide +kernel
theorem dX5_carries_16 : decode cX5_carries 16 = .ok (.iaload, 1) := by decide +kernel
theorem dX5_carries_17 : decode cX5_carries 17 = .ok (.iconst (-1), 1) := by decide +kernel
theorem dX5_carries_18 : decode cX5_carries 18 = .ok (.if_icmp .eq 39, 3) := by decide +kernel
theorem dX5_carries_21 : decode cX5_carries 21 = .ok (.aload_n 0, 1) := by decide +kernel
theorem dX5_carries_22 : decode cX5_carries 22 = .ok (.aload_n 0, 1) := by decide +kernel
theorem dX5_carries_23 : decode cX5_carries 23 = .ok (.getfield 45, 3) := by decide +kernel
theorem dX5_carries_26 : decode cX5_carries 26 = .ok (.bipush 16, 2) := by decide +kernel
theorem dX5_carries_28 : decode cX5_carries 28 = .ok (.iload_n 1, 1) := by decide +kernel
theorem dX5_carries_29 : decode cX5_carries 29 = .ok (.imul, 1) := by decide +kernel
theorem dX5_carries_30 : decode cX5_carries 30 = .ok (.iload_n 3, 1) := by decide +kernel
theorem dX5_carries_31 : decode cX5_carries 31 = .ok (.iadd, 1) := by decide +kernel
theorem dX5_carries_32 : decode cX5_carries 32 = .ok (.iaload, 1) := by decide +kernel
theorem dX5_carries_33 : decode cX5_carries 33 = .ok (.invokevirtual 110, 3) := by decide +kernel
theorem dX5_carries_36 : decode cX5_carries 36 = .ok (.istore 4, 2) := by decide +kernel
theorem dX5_carries_38 : decode cX5_carries 38 = .ok (.iload 4, 2) := by decide +kernel
theorem dX5_carries_40 : decode cX5_carries 40 = .ok (.iload_n 2, 1) := by decide +kernel
theorem dX5_carries_41 : decode cX5_carries 41 = .ok (.if_icmp .ge 8, 3) := by decide +kernel
theorem dX5_carries_44 : decode cX5_carries 44 = .ok (.iload 4, 2) := by decide +kernel
theorem dX5_carries_46 : decode cX5_carries 46 = .ok (.goto 4, 3) := by decide +kernel
theorem dX5_carries_49 : decode cX5_carries 49 = .ok (.iload_n 2, 1) := by decide +kernel
theorem dX5_carries_50 : decode cX5_carries 50 = .ok (.istore_n 2, 1) := by decide +kernel
theorem dX5_carries_51 : decode cX5_carries 51 = .ok (.iinc 3 1, 3) := by decide +kernel
theorem dX5_carries_54 : decode cX5_carries 54 = .ok (.goto (-48), 3) := by decide +kernel
theorem dX5_carries_57 : decode cX5_carries 57 = .ok (.aload_n 0, 1) := by decide +kernel
theorem dX5_carries_58 : decode cX5_carries 58 = .ok (.getfield 22, 3) := by decide +kernel
theorem dX5_carries_61 : decode cX5_carries 61 = .ok (.aload_n 0, 1) := by decide +kernel
theorem dX5_carries_62 : decode cX5_carries 62 = .ok (.getfield 51, 3) := by decide +kernel
theorem dX5_carries_65 : decode cX5_carries 65 = .ok (.iload_n 1, 1) := by decide +kernel
theorem dX5_carries_66 : decode cX5_carries 66 = .ok (.iaload, 1) := by decide +kernel
theorem dX5_carries_67 : decode cX5_carries 67 = .ok (.iaload, 1) := by decide +kernel
theorem dX5_carries_68 : decode cX5_carries 68 = .ok (.iload_n 2, 1) := by decide +kernel
theorem dX5_carries_69 : decode cX5_carries 69 = .ok (.imul, 1) := by decide +kernel
theorem dX5_carries_70 : decode cX5_carries 70 = .ok (.sipush 1000, 3) := by decide +kernel
theorem dX5_carries_73 : decode cX5_carries 73 = .ok (.idiv, 1) := by decide +kernel
theorem dX5_carries_74 : decode cX5_carries 74 = .ok (.ireturn, 1) := by decide +kernel
theorem dX5_factor_0 : decode cX5_factor 0 = .ok (.aload_n 0, 1) := by decide +kernel
theorem dX5_factor_1 : decode cX5_factor 1 = .ok (.iload_n 1, 1) := by decide +kernel
theorem dX5_factor_2 : decode cX5_factor 2 = .ok (.invokevirtual 106, 3) := by decide +kernel
theorem dX5_factor_5 : decode cX5_factor 5 = .ok (.istore_n 2, 1) := by decide +kernel
theorem dX5_factor_6 : decode cX5_factor 6 = .ok (.iload_n 2, 1) := by decide +kernel
theorem dX5_factor_7 : decode cX5_factor 7 = .ok (.sipush 200, 3) := by decide +kernel
theorem dX5_factor_10 : decode cX5_factor 10 = .ok (.if_icmp .gt 9, 3) := by decide +kernel
theorem dX5_factor_13 : decode cX5_factor 13 = .ok (.sipush 1000, 3) := by decide +kernel
theorem dX5_factor_16 : decode cX5_factor 16 = .ok (.goto 56, 3) := by decide +kernel
theorem dX5_factor_19 : decode cX5_factor 19 = .ok (.iload_n 2, 1) := by decide +kernel
theorem dX5_factor_20 : decode cX5_factor 20 = .ok (.sipush 400, 3) := by decide +kernel
theorem dX5_factor_23 : decode cX5_factor 23 = .ok (.if_icmp .gt 9, 3) := by decide +kernel
theorem dX5_factor_26 : decode cX5_factor 26 = .ok (.sipush 800, 3) := by decide +kernel
theorem dX5_factor_29 : decode cX5_factor 29 = .ok (.goto 43, 3) := by decide +kernel
theorem dX5_factor_32 : decode cX5_factor 32 = .ok (.iload_n 2, 1) := by decide +kernel
theorem dX5_factor_33 : decode cX5_factor 33 = .ok (.sipush 600, 3) := by decide +kernel
theorem dX5_factor_36 : decode cX5_factor 36 = .ok (.if_icmp .gt 9, 3) := by decide +kernel
theorem dX5_factor_39 : decode cX5_factor 39 = .ok (.sipush 650, 3) := by decide +kernel
theorem dX5_factor_42 : decode cX5_factor 42 = .ok (.goto 30, 3) := by decide +kernel
theorem dX5_factor_45 : decode cX5_factor 45 = .ok (.iload_n 2, 1) := by decide +kernel
theorem dX5_factor_46 : decode cX5_factor 46 = .ok (.sipush 800, 3) := by decide +kernel
theorem dX5_factor_49 : decode cX5_factor 49 = .ok (.if_icmp .gt 9, 3) := by decide +kernel
theorem dX5_factor_52 : decode cX5_factor 52 = .ok (.sipush 550, 3) := by decide +kernel
theorem dX5_factor_55 : decode cX5_factor 55 = .ok (.goto 17, 3) := by decide +kernel
theorem dX5_factor_58 : decode cX5_factor 58 = .ok (.iload_n 2, 1) := by decide +kernel
theorem dX5_factor_59 : decode cX5_factor 59 = .ok (.sipush 1000, 3) := by decide +kernel
theorem dX5_factor_62 : decode cX5_factor 62 = .ok (.if_icmp .gt 9, 3) := by decide +kernel
theorem dX5_factor_65 : decode cX5_factor 65 = .ok (.sipush 500, 3) := by decide +kernel
theorem dX5_factor_68 : decode cX5_factor 68 = .ok (.goto 4, 3) := by decide +kernel
theorem dX5_factor_71 : decode cX5_factor 71 = .ok (.iconst 0, 1) := by decide +kernel
theorem dX5_factor_72 : decode cX5_factor 72 = .ok (.ireturn, 1) := by decide +kernel
theorem dX5_fill_0 : decode cX5_fill 0 = .ok (.iconst 0, 1) := by decide +kernel
theorem dX5_fill_1 : decode cX5_fill 1 = .ok (.istore_n 2, 1) := by decide +kernel
theorem dX5_fill_2 : decode cX5_fill 2 = .ok (.iconst 0, 1) := by decide +kernel
theorem dX5_fill_3 : decode cX5_fill 3 = .ok (.istore_n 3, 1) := by decide +kernel
theorem dX5_fill_4 : decode cX5_fill 4 = .ok (.iload_n 3, 1) := by decide +kernel
theorem dX5_fill_5 : decode cX5_fill 5 = .ok (.aload_n 0, 1) := by decide +kernel
theorem dX5_fill_6 : decode cX5_fill 6 = .ok (.getfield 79, 3) := by decide +kernel
theorem dX5_fill_9 : decode cX5_fill 9 = .ok (.if_icmp .ge 36, 3) := by decide +kernel
theorem dX5_fill_12 : decode cX5_fill 12 = .ok (.aload_n 0, 1) := by decide +kernel
theorem dX5_fill_13 : decode cX5_fill 13 = .ok (.iload_n 3, 1) := by decide +kernel
theorem dX5_fill_14 : decode cX5_fill 14 = .ok (.iload_n 1, 1) := by decide +kernel
theorem dX5_fill_15 : decode cX5_fill 15 = .ok (.invokevirtual 102, 3) := by decide +kernel
theorem dX5_fill_18 : decode cX5_fill 18 = .ok (.ifCond .eq 19, 3) := by decide +kernel
theorem dX5_fill_21 : decode cX5_fill 21 = .ok (.iload_n 2, 1) := by decide +kernel
theorem dX5_fill_22 : decode cX5_fill 22 = .ok (.aload_n 0, 1) := by decide +kernel
theorem dX5_fill_23 : decode cX5_fill 23 = .ok (.getfield 19, 3) := by decide +kernel
theorem dX5_fill_26 : decode cX5_fill 26 = .ok (.aload_n 0, 1) := by decide +kernel
theorem dX5_fill_27 : decode cX5_fill 27 = .ok (.getfield 51, 3) := by decide +kernel
theorem dX5_fill_30 : decode cX5_fill 30 = .ok (.iload_n 3, 1) := by decide +kernel
theorem dX5_fill_31 : decode cX5_fill 31 = .ok (.iaload, 1) := by decide +kernel
theorem dX5_fill_32 : decode cX5_fill 32 = .ok (.iaload, 1) := by decide +kernel
theorem dX5_fill_33 : decode cX5_fill 33 = .ok (.iadd, 1) := by decide +kernel
theorem dX5_fill_34 : decode cX5_fill 34 = .ok (.goto 4, 3) := by decide +kernel
theorem dX5_fill_37 : decode cX5_fill 37 = .ok (.iload_n 2, 1) := by decide +kernel
theorem dX5_fill_38 : decode cX5_fill 38 = .ok (.istore_n 2, 1) := by decide +kernel
theorem dX5_fill_39 : decode cX5_fill 39 = .ok (.iinc 3 1, 3) := by decide +kernel
theorem dX5_fill_42 : decode cX5_fill 42 = .ok (.goto (-38), 3) := by decide +kernel
theorem dX5_fill_45 : decode cX5_fill 45 = .ok (.sipush 1000, 3) := by decide +kernel
theorem dX5_fill_48 : decode cX5_fill 48 = .ok (.iload_n 2, 1) := by decide +kernel
theorem dX5_fill_49 : decode cX5_fill 49 = .ok (.imul, 1) := by decide +kernel
theorem dX5_fill_50 : decode cX5_fill 50 = .ok (.aload_n 0, 1) := by decide +kernel
theorem dX5_fill_51 : decode cX5_fill 51 = .ok (.getfield 16, 3) := by decide +kernel
theorem dX5_fill_54 : decode cX5_fill 54 = .ok (.iload_n 1, 1) := by decide +kernel
theorem dX5_fill_55 : decode cX5_fill 55 = .ok (.iaload, 1) := by decide +kernel
theorem dX5_fill_56 : decode cX5_fill 56 = .ok (.idiv, 1) := by decide +kernel
theorem dX5_fill_57 : decode cX5_fill 57 = .ok (.ireturn, 1) := by decide +kernel
theorem dX5_isOn_0 : decode cX5_isOn 0 = .ok (.iconst 0, 1) := by decide +kernel
theorem dX5_isOn_1 : decode cX5_isOn 1 = .ok (.istore_n 3, 1) := by decide +kernel
theorem dX5_isOn_2 : decode cX5_isOn 2 = .ok (.aload_n 0, 1) := by decide +kernel
theorem dX5_isOn_3 : decode cX5_isOn 3 = .ok (.getfield 45, 3) := by decide +kernel
theorem dX5_isOn_6 : decode cX5_isOn 6 = .ok (.bipush 16, 2) := by decide +kernel
theorem dX5_isOn_8 : decode cX5_isOn 8 = .ok (.iload_n 1, 1) := by decide +kernel
theorem dX5_isOn_9 : decode cX5_isOn 9 = .ok (.imul, 1) := by decide +kernel
theorem dX5_isOn_10 : decode cX5_isOn 10 = .ok (.iload_n 3, 1) := by decide +kernel
theorem dX5_isOn_11 : decode cX5_isOn 11 = .ok (.iadd, 1) := by decide +kernel
theorem dX5_isOn_12 : decode cX5_isOn 12 = .ok (.iaload, 1) := by decide +kernel
theorem dX5_isOn_13 : decode cX5_isOn 13 = .ok (.iconst (-1), 1) := by decide +kernel
theorem dX5_isOn_14 : decode cX5_isOn 14 = .ok (.if_icmp .eq 26, 3) := by decide +kernel
theorem dX5_isOn_17 : decode cX5_isOn 17 = .ok (.aload_n 0, 1) := by decide +kernel
theorem dX5_isOn_18 : decode cX5_isOn 18 = .ok (.getfield 45, 3) := by decide +kernel
theorem dX5_isOn_21 : decode cX5_isOn 21 = .ok (.bipush 16, 2) := by decide +kernel
theorem dX5_isOn_23 : decode cX5_isOn 23 = .ok (.iload_n 1, 1) := by decide +kernel
theorem dX5_isOn_24 : decode cX5_isOn 24 = .ok (.imul, 1) := by decide +kernel
theorem dX5_isOn_25 : decode cX5_isOn 25 = .ok (.iload_n 3, 1) := by decide +kernel
theorem dX5_isOn_26 : decode cX5_isOn 26 = .ok (.iadd, 1) := by decide +kernel
theorem dX5_isOn_27 : decode cX5_isOn 27 = .ok (.iaload, 1) := by decide +kernel
theorem dX5_isOn_28 : decode cX5_isOn 28 = .ok (.iload_n 2, 1) := by decide +kernel
theorem dX5_isOn_29 : decode cX5_isOn 29 = .ok (.if_icmp .ne 5, 3) := by decide +kernel
theorem dX5_isOn_32 : decode cX5_isOn 32 = .ok (.iconst 1, 1) := by decide +kernel
theorem dX5_isOn_33 : decode cX5_isOn 33 = .ok (.ireturn, 1) := by decide +kernel
theorem dX5_isOn_34 : decode cX5_isOn 34 = .ok (.iinc 3 1, 3) := by decide +kernel
theorem dX5_isOn_37 : decode cX5_isOn 37 = .ok (.goto (-35), 3) := by decide +kernel
theorem dX5_isOn_40 : decode cX5_isOn 40 = .ok (.iconst 0, 1) := by decide +kernel
theorem dX5_isOn_41 : decode cX5_isOn 41 = .ok (.ireturn, 1) := by decide +kernel
theorem dX5_drop_0 : decode cX5_drop 0 = .ok (.aload_n 0, 1) := by decide +kernel
theorem dX5_drop_1 : decode cX5_drop 1 = .ok (.getfield 48, 3) := by decide +kernel
theorem dX5_drop_4 : decode cX5_drop 4 = .ok (.iload_n 1, 1) := by decide +kernel
theorem dX5_drop_5 : decode cX5_drop 5 = .ok (.iaload, 1) := by decide +kernel
theorem dX5_drop_6 : decode cX5_drop 6 = .ok (.iconst (-1), 1) := by decide +kernel
theorem dX5_drop_7 : decode cX5_drop 7 = .ok (.if_icmp .ne 7, 3) := by decide +kernel
theorem dX5_drop_10 : decode cX5_drop 10 = .ok (.iconst 0, 1) := by decide +kernel
theorem dX5_drop_11 : decode cX5_drop 11 = .ok (.goto 36, 3) := by decide +kernel
theorem dX5_drop_14 : decode cX5_drop 14 = .ok (.aload_n 0, 1) := by decide +kernel
theorem dX5_drop_15 : decode cX5_drop 15 = .ok (.getfield 34, 3) := by decide +kernel
theorem dX5_drop_18 : decode cX5_drop 18 = .ok (.iload_n 1, 1) := by decide +kernel
theorem dX5_drop_19 : decode cX5_drop 19 = .ok (.iaload, 1) := by decide +kernel
theorem dX5_drop_20 : decode cX5_drop 20 = .ok (.i2l, 1) := by decide +kernel
theorem dX5_drop_21 : decode cX5_drop 21 = .ok (.aload_n 0, 1) := by decide +kernel
theorem dX5_drop_22 : decode cX5_drop 22 = .ok (.getfield 25, 3) := by decide +kernel
theorem dX5_drop_25 : decode cX5_drop 25 = .ok (.aload_n 0, 1) := by decide +kernel
theorem dX5_drop_26 : decode cX5_drop 26 = .ok (.getfield 51, 3) := by decide +kernel
theorem dX5_drop_29 : decode cX5_drop 29 = .ok (.iload_n 1, 1) := by decide +kernel
theorem dX5_drop_30 : decode cX5_drop 30 = .ok (.iaload, 1) := by decide +kernel
theorem dX5_drop_31 : decode cX5_drop 31 = .ok (.iaload, 1) := by decide +kernel
theorem dX5_drop_32 : decode cX5_drop 32 = .ok (.i2l, 1) := by decide +kernel
theorem dX5_drop_33 : decode cX5_drop 33 = .ok (.lmul, 1) := by decide +kernel
theorem dX5_drop_34 : decode cX5_drop 34 = .ok (.aload_n 0, 1) := by decide +kernel
theorem dX5_drop_35 : decode cX5_drop 35 = .ok (.getfield 48, 3) := by decide +kernel
theorem dX5_drop_38 : decode cX5_drop 38 = .ok (.iload_n 1, 1) := by decide +kernel
theorem dX5_drop_39 : decode cX5_drop 39 = .ok (.iaload, 1) := by decide +kernel
theorem dX5_drop_40 : decode cX5_drop 40 = .ok (.i2l, 1) := by decide +kernel
theorem dX5_drop_41 : decode cX5_drop 41 = .ok (.lmul, 1) := by decide +kernel
theorem dX5_drop_42 : decode cX5_drop 42 = .ok (.ldc2_w 71, 3) := by decide +kernel
theorem dX5_drop_45 : decode cX5_drop 45 = .ok (.ldiv, 1) := by decide +kernel
theorem dX5_drop_46 : decode cX5_drop 46 = .ok (.l2i, 1) := by decide +kernel
theorem dX5_drop_47 : decode cX5_drop 47 = .ok (.ireturn, 1) := by decide +kernel
theorem dX5_chosen_0 : decode cX5_chosen 0 = .ok (.aload_n 0, 1) := by decide +kernel
theorem dX5_chosen_1 : decode cX5_chosen 1 = .ok (.aload_n 0, 1) := by decide +kernel
theorem dX5_chosen_2 : decode cX5_chosen 2 = .ok (.iload_n 1, 1) := by decide +kernel
theorem dX5_chosen_3 : decode cX5_chosen 3 = .ok (.invokevirtual 82, 3) := by decide +kernel
theorem dX5_chosen_6 : decode cX5_chosen 6 = .ok (.ifCond .eq 7, 3) := by decide +kernel
theorem dX5_chosen_9 : decode cX5_chosen 9 = .ok (.iconst 1, 1) := by decide +kernel
theorem dX5_chosen_10 : decode cX5_chosen 10 = .ok (.goto 4, 3) := by decide +kernel
theorem dX5_chosen_13 : decode cX5_chosen 13 = .ok (.iconst 0, 1) := by decide +kernel
theorem dX5_chosen_14 : decode cX5_chosen 14 = .ok (.putfield 58, 3) := by decide +kernel
theorem dX5_chosen_17 : decode cX5_chosen 17 = .ok (.aload_n 0, 1) := by decide +kernel
theorem dX5_chosen_18 : decode cX5_chosen 18 = .ok (.getfield 58, 3) := by decide +kernel
theorem dX5_chosen_21 : decode cX5_chosen 21 = .ok (.ifCond .le 7, 3) := by decide +kernel
theorem dX5_chosen_24 : decode cX5_chosen 24 = .ok (.iconst 0, 1) := by decide +kernel
theorem dX5_chosen_25 : decode cX5_chosen 25 = .ok (.goto 20, 3) := by decide +kernel
theorem dX5_chosen_28 : decode cX5_chosen 28 = .ok (.aload_n 0, 1) := by decide +kernel
theorem dX5_chosen_29 : decode cX5_chosen 29 = .ok (.invokevirtual 122, 3) := by decide +kernel
theorem dX5_chosen_32 : decode cX5_chosen 32 = .ok (.ifCond .eq 12, 3) := by decide +kernel
theorem dX5_chosen_35 : decode cX5_chosen 35 = .ok (.aload_n 0, 1) := by decide +kernel
theorem dX5_chosen_36 : decode cX5_chosen 36 = .ok (.getfield 51, 3) := by decide +kernel
theorem dX5_chosen_39 : decode cX5_chosen 39 = .ok (.iload_n 1, 1) := by decide +kernel
theorem dX5_chosen_40 : decode cX5_chosen 40 = .ok (.iaload, 1) := by decide +kernel
theorem dX5_chosen_41 : decode cX5_chosen 41 = .ok (.goto 4, 3) := by decide +kernel
theorem dX5_chosen_44 : decode cX5_chosen 44 = .ok (.iconst (-1), 1) := by decide +kernel
theorem dX5_chosen_45 : decode cX5_chosen 45 = .ok (.ireturn, 1) := by decide +kernel
theorem dX5_told_0 : decode cX5_told 0 = .ok (.aload_n 0, 1) := by decide +kernel
theorem dX5_told_1 : decode cX5_told 1 = .ok (.aload_n 0, 1) := by decide +kernel
theorem dX5_told_2 : decode cX5_told 2 = .ok (.iload_n 1, 1) := by decide +kernel
theorem dX5_told_3 : decode cX5_told 3 = .ok (.invokevirtual 85, 3) := by decide +kernel
theorem dX5_told_6 : decode cX5_told 6 = .ok (.ifCond .ne 15, 3) := by decide +kernel
theorem dX5_told_9 : decode cX5_told 9 = .ok (.iload_n 2, 1) := by decide +kernel
theorem dX5_told_10 : decode cX5_told 10 = .ok (.i2l, 1) := by decide +kernel
theorem dX5_told_11 : decode cX5_told 11 = .ok (.lconst 0, 1) := by decide +kernel
theorem dX5_told_12 : decode cX5_told 12 = .ok (.ldc2_w 126, 3) := by decide +kernel
theorem dX5_told_15 : decode cX5_told 15 = .ok (.invokestatic 67, 3) := by decide +kernel
theorem dX5_told_18 : decode cX5_told 18 = .ok (.ifCond .ne 7, 3) := by decide +kernel
theorem dX5_told_21 : decode cX5_told 21 = .ok (.iconst 1, 1) := by decide +kernel
theorem dX5_told_22 : decode cX5_told 22 = .ok (.goto 4, 3) := by decide +kernel
theorem dX5_told_25 : decode cX5_told 25 = .ok (.iconst 0, 1) := by decide +kernel
theorem dX5_told_26 : decode cX5_told 26 = .ok (.putfield 58, 3) := by decide +kernel
theorem dX5_told_29 : decode cX5_told 29 = .ok (.aload_n 0, 1) := by decide +kernel
theorem dX5_told_30 : decode cX5_told 30 = .ok (.getfield 58, 3) := by decide +kernel
theorem dX5_told_33 : decode cX5_told 33 = .ok (.ifCond .le 5, 3) := by decide +kernel
theorem dX5_told_36 : decode cX5_told 36 = .ok (.iconst 0, 1) := by decide +kernel
theorem dX5_told_37 : decode cX5_told 37 = .ok (.ireturn, 1) := by decide +kernel
theorem dX5_told_38 : decode cX5_told 38 = .ok (.aload_n 0, 1) := by decide +kernel
theorem dX5_told_39 : decode cX5_told 39 = .ok (.invokevirtual 122, 3) := by decide +kernel
theorem dX5_told_42 : decode cX5_told 42 = .ok (.istore_n 3, 1) := by decide +kernel
theorem dX5_told_43 : decode cX5_told 43 = .ok (.iload_n 2, 1) := by decide +kernel
theorem dX5_told_44 : decode cX5_told 44 = .ok (.iconst 2, 1) := by decide +kernel
theorem dX5_told_45 : decode cX5_told 45 = .ok (.if_icmp .ne 48, 3) := by decide +kernel
theorem dX5_told_48 : decode cX5_told 48 = .ok (.iconst 0, 1) := by decide +kernel
theorem dX5_told_49 : decode cX5_told 49 = .ok (.istore 4, 2) := by decide +kernel
theorem dX5_told_51 : decode cX5_told 51 = .ok (.iconst 0, 1) := by decide +kernel
theorem dX5_told_52 : decode cX5_told 52 = .ok (.istore 5, 2) := by decide +kernel
theorem dX5_told_54 : decode cX5_told 54 = .ok (.iload 5, 2) := by decide +kernel
theorem dX5_told_56 : decode cX5_told 56 = .ok (.aload_n 0, 1) := by decide +kernel
theorem dX5_told_57 : decode cX5_told 57 = .ok (.getfield 79, 3) := by decide +kernel
theorem dX5_told_60 : decode cX5_told 60 = .ok (.if_icmp .ge 30, 3) := by decide +kernel
theorem dX5_told_63 : decode cX5_told 63 = .ok (.aload_n 0, 1) := by decide +kernel
theorem dX5_told_64 : decode cX5_told 64 = .ok (.iload 5, 2) := by decide +kernel
theorem dX5_told_66 : decode cX5_told 66 = .ok (.iload_n 1, 1) := by decide +kernel
theorem dX5_told_67 : decode cX5_told 67 = .ok (.invokevirtual 102, 3) := by decide +kernel
theorem dX5_told_70 : decode cX5_told 70 = .ok (.ifCond .eq 10, 3) := by decide +kernel
theorem dX5_told_73 : decode cX5_told 73 = .ok (.iload 4, 2) := by decide +kernel
theorem dX5_told_75 : decode cX5_told 75 = .ok (.iconst 1, 1) := by decide +kernel
theorem dX5_told_76 : decode cX5_told 76 = .ok (.iadd, 1) := by decide +kernel
theorem dX5_told_77 : decode cX5_told 77 = .ok (.goto 5, 3) := by decide +kernel
theorem dX5_told_80 : decode cX5_told 80 = .ok (.iload 4, 2) := by decide +kernel
theorem dX5_told_82 : decode cX5_told 82 = .ok (.istore 4, 2) := by decide +kernel
theorem dX5_told_84 : decode cX5_told 84 = .ok (.iinc 5 1, 3) := by decide +kernel
theorem dX5_told_87 : decode cX5_told 87 = .ok (.goto (-33), 3) := by decide +kernel
theorem dX5_told_90 : decode cX5_told 90 = .ok (.iload 4, 2) := by decide +kernel
theorem dX5_told_92 : decode cX5_told 92 = .ok (.ireturn, 1) := by decide +kernel
theorem dX5_told_93 : decode cX5_told 93 = .ok (.iload_n 3, 1) := by decide +kernel
theorem dX5_told_94 : decode cX5_told 94 = .ok (.ifCond .ne 7, 3) := by decide +kernel
theorem dX5_told_97 : decode cX5_told 97 = .ok (.iconst (-1), 1) := by decide +kernel
theorem dX5_told_98 : decode cX5_told 98 = .ok (.goto 20, 3) := by decide +kernel
theorem dX5_told_101 : decode cX5_told 101 = .ok (.iload_n 2, 1) := by decide +kernel
theorem dX5_told_102 : decode cX5_told 102 = .ok (.ifCond .ne 11, 3) := by decide +kernel
theorem dX5_told_105 : decode cX5_told 105 = .ok (.aload_n 0, 1) := by decide +kernel
theorem dX5_told_106 : decode cX5_told 106 = .ok (.iload_n 1, 1) := by decide +kernel
theorem dX5_told_107 : decode cX5_told 107 = .ok (.invokevirtual 106, 3) := by decide +kernel
theorem dX5_told_110 : decode cX5_told 110 = .ok (.goto 8, 3) := by decide +kernel
theorem dX5_told_113 : decode cX5_told 113 = .ok (.aload_n 0, 1) := by decide +kernel
theorem dX5_told_114 : decode cX5_told 114 = .ok (.iload_n 1, 1) := by decide +kernel
theorem dX5_told_115 : decode cX5_told 115 = .ok (.invokevirtual 110, 3) := by decide +kernel
theorem dX5_told_118 : decode cX5_told 118 = .ok (.ireturn, 1) := by decide +kernel
theorem dX5_cableAt_0 : decode cX5_cableAt 0 = .ok (.aload_n 0, 1) := by decide +kernel
theorem dX5_cableAt_1 : decode cX5_cableAt 1 = .ok (.aload_n 0, 1) := by decide +kernel
theorem dX5_cableAt_2 : decode cX5_cableAt 2 = .ok (.iload_n 1, 1) := by decide +kernel
theorem dX5_cableAt_3 : decode cX5_cableAt 3 = .ok (.invokevirtual 82, 3) := by decide +kernel
theorem dX5_cableAt_6 : decode cX5_cableAt 6 = .ok (.ifCond .ne 13, 3) := by decide +kernel
theorem dX5_cableAt_9 : decode cX5_cableAt 9 = .ok (.iload_n 2, 1) := by decide +kernel
theorem dX5_cableAt_10 : decode cX5_cableAt 10 = .ok (.i2l, 1) := by decide +kernel
theorem dX5_cableAt_11 : decode cX5_cableAt 11 = .ok (.lconst 0, 1) := by decide +kernel
theorem dX5_cableAt_12 : decode cX5_cableAt 12 = .ok (.lconst 1, 1) := by decide +kernel
theorem dX5_cableAt_13 : decode cX5_cableAt 13 = .ok (.invokestatic 67, 3) := by decide +kernel
theorem dX5_cableAt_16 : decode cX5_cableAt 16 = .ok (.ifCond .ne 7, 3) := by decide +kernel
theorem dX5_cableAt_19 : decode cX5_cableAt 19 = .ok (.iconst 1, 1) := by decide +kernel
theorem dX5_cableAt_20 : decode cX5_cableAt 20 = .ok (.goto 4, 3) := by decide +kernel
theorem dX5_cableAt_23 : decode cX5_cableAt 23 = .ok (.iconst 0, 1) := by decide +kernel
theorem dX5_cableAt_24 : decode cX5_cableAt 24 = .ok (.putfield 58, 3) := by decide +kernel
theorem dX5_cableAt_27 : decode cX5_cableAt 27 = .ok (.aload_n 0, 1) := by decide +kernel
theorem dX5_cableAt_28 : decode cX5_cableAt 28 = .ok (.getfield 58, 3) := by decide +kernel
theorem dX5_cableAt_31 : decode cX5_cableAt 31 = .ok (.ifCond .le 5, 3) := by decide +kernel
theorem dX5_cableAt_34 : decode cX5_cableAt 34 = .ok (.iconst 0, 1) := by decide +kernel
theorem dX5_cableAt_35 : decode cX5_cableAt 35 = .ok (.ireturn, 1) := by decide +kernel
theorem dX5_cableAt_36 : decode cX5_cableAt 36 = .ok (.aload_n 0, 1) := by decide +kernel
theorem dX5_cableAt_37 : decode cX5_cableAt 37 = .ok (.invokevirtual 122, 3) := by decide +kernel
theorem dX5_cableAt_40 : decode cX5_cableAt 40 = .ok (.ifCond .ne 7, 3) := by decide +kernel
theorem dX5_cableAt_43 : decode cX5_cableAt 43 = .ok (.iconst (-1), 1) := by decide +kernel
theorem dX5_cableAt_44 : decode cX5_cableAt 44 = .ok (.goto 20, 3) := by decide +kernel
theorem dX5_cableAt_47 : decode cX5_cableAt 47 = .ok (.iload_n 2, 1) := by decide +kernel
theorem dX5_cableAt_48 : decode cX5_cableAt 48 = .ok (.ifCond .ne 11, 3) := by decide +kernel
theorem dX5_cableAt_51 : decode cX5_cableAt 51 = .ok (.aload_n 0, 1) := by decide +kernel
theorem dX5_cableAt_52 : decode cX5_cableAt 52 = .ok (.iload_n 1, 1) := by decide +kernel
theorem dX5_cableAt_53 : decode cX5_cableAt 53 = .ok (.invokevirtual 116, 3) := by decide +kernel
theorem dX5_cableAt_56 : decode cX5_cableAt 56 = .ok (.goto 8, 3) := by decide +kernel
theorem dX5_cableAt_59 : decode cX5_cableAt 59 = .ok (.aload_n 0, 1) := by decide +kernel
theorem dX5_cableAt_60 : decode cX5_cableAt 60 = .ok (.iload_n 1, 1) := by decide +kernel
theorem dX5_cableAt_61 : decode cX5_cableAt 61 = .ok (.invokevirtual 113, 3) := by decide +kernel
theorem dX5_cableAt_64 : decode cX5_cableAt 64 = .ok (.ireturn, 1) := by decide +kernel
theorem dX5_copper_0 : decode cX5_copper 0 = .ok (.aload_n 0, 1) := by decide +kernel
theorem dX5_copper_1 : decode cX5_copper 1 = .ok (.iconst 0, 1) := by decide +kernel
theorem dX5_copper_2 : decode cX5_copper 2 = .ok (.putfield 58, 3) := by decide +kernel
theorem dX5_copper_5 : decode cX5_copper 5 = .ok (.aload_n 0, 1) := by decide +kernel
theorem dX5_copper_6 : decode cX5_copper 6 = .ok (.invokevirtual 122, 3) := by decide +kernel
theorem dX5_copper_9 : decode cX5_copper 9 = .ok (.ifCond .ne 5, 3) := by decide +kernel
theorem dX5_copper_12 : decode cX5_copper 12 = .ok (.iconst (-1), 1) := by decide +kernel
theorem dX5_copper_13 : decode cX5_copper 13 = .ok (.ireturn, 1) := by decide +kernel
theorem dX5_copper_14 : decode cX5_copper 14 = .ok (.iconst 0, 1) := by decide +kernel
theorem dX5_copper_15 : decode cX5_copper 15 = .ok (.istore_n 1, 1) := by decide +kernel
theorem dX5_copper_16 : decode cX5_copper 16 = .ok (.iconst 0, 1) := by decide +kernel
theorem dX5_copper_17 : decode cX5_copper 17 = .ok (.istore_n 2, 1) := by decide +kernel
theorem dX5_copper_18 : decode cX5_copper 18 = .ok (.iload_n 2, 1) := by decide +kernel
theorem dX5_copper_19 : decode cX5_copper 19 = .ok (.aload_n 0, 1) := by decide +kernel
theorem dX5_copper_20 : decode cX5_copper 20 = .ok (.getfield 79, 3) := by decide +kernel
theorem dX5_copper_23 : decode cX5_copper 23 = .ok (.if_icmp .ge 44, 3) := by decide +kernel
theorem dX5_copper_26 : decode cX5_copper 26 = .ok (.aload_n 0, 1) := by decide +kernel
theorem dX5_copper_27 : decode cX5_copper 27 = .ok (.getfield 48, 3) := by decide +kernel
theorem dX5_copper_30 : decode cX5_copper 30 = .ok (.iload_n 2, 1) := by decide +kernel
theorem dX5_copper_31 : decode cX5_copper 31 = .ok (.iaload, 1) := by decide +kernel
theorem dX5_copper_32 : decode cX5_copper 32 = .ok (.iconst (-1), 1) := by decide +kernel
theorem dX5_copper_33 : decode cX5_copper 33 = .ok (.if_icmp .ne 7, 3) := by decide +kernel
theorem dX5_copper_36 : decode cX5_copper 36 = .ok (.iload_n 1, 1) := by decide +kernel
theorem dX5_copper_37 : decode cX5_copper 37 = .ok (.goto 23, 3) := by decide +kernel
theorem dX5_copper_40 : decode cX5_copper 40 = .ok (.iload_n 1, 1) := by decide +kernel
theorem dX5_copper_41 : decode cX5_copper 41 = .ok (.aload_n 0, 1) := by decide +kernel
theorem dX5_copper_42 : decode cX5_copper 42 = .ok (.getfield 19, 3) := by decide +kernel
theorem dX5_copper_45 : decode cX5_copper 45 = .ok (.aload_n 0, 1) := by decide +kernel
theorem dX5_copper_46 : decode cX5_copper 46 = .ok (.getfield 51, 3) := by decide +kernel
theorem dX5_copper_49 : decode cX5_copper 49 = .ok (.iload_n 2, 1) := by decide +kernel
theorem dX5_copper_50 : decode cX5_copper 50 = .ok (.iaload, 1) := by decide +kernel
theorem dX5_copper_51 : decode cX5_copper 51 = .ok (.iaload, 1) := by decide +kernel
theorem dX5_copper_52 : decode cX5_copper 52 = .ok (.aload_n 0, 1) := by decide +kernel
theorem dX5_copper_53 : decode cX5_copper 53 = .ok (.getfield 48, 3) := by decide +kernel
theorem dX5_copper_56 : decode cX5_copper 56 = .ok (.iload_n 2, 1) := by decide +kernel
theorem dX5_copper_57 : decode cX5_copper 57 = .ok (.iaload, 1) := by decide +kernel
theorem dX5_copper_58 : decode cX5_copper 58 = .ok (.imul, 1) := by decide +kernel
theorem dX5_copper_59 : decode cX5_copper 59 = .ok (.iadd, 1) := by decide +kernel
theorem dX5_copper_60 : decode cX5_copper 60 = .ok (.istore_n 1, 1) := by decide +kernel
theorem dX5_copper_61 : decode cX5_copper 61 = .ok (.iinc 2 1, 3) := by decide +kernel
theorem dX5_copper_64 : decode cX5_copper 64 = .ok (.goto (-46), 3) := by decide +kernel
theorem dX5_copper_67 : decode cX5_copper 67 = .ok (.iload_n 1, 1) := by decide +kernel
theorem dX5_copper_68 : decode cX5_copper 68 = .ok (.ireturn, 1) := by decide +kernel
theorem dX5_right_0 : decode cX5_right 0 = .ok (.aload_n 0, 1) := by decide +kernel
theorem dX5_right_1 : decode cX5_right 1 = .ok (.invokevirtual 99, 3) := by decide +kernel
theorem dX5_right_4 : decode cX5_right 4 = .ok (.lload_n 1, 1) := by decide +kernel
theorem dX5_right_5 : decode cX5_right 5 = .ok (.lstore_n 3, 1) := by decide +kernel
theorem dX5_right_6 : decode cX5_right 6 = .ok (.lload_n 1, 1) := by decide +kernel
theorem dX5_right_7 : decode cX5_right 7 = .ok (.lconst 0, 1) := by decide +kernel
theorem dX5_right_8 : decode cX5_right 8 = .ok (.lcmp, 1) := by decide +kernel
theorem dX5_right_9 : decode cX5_right 9 = .ok (.ifCond .lt 7, 3) := by decide +kernel
theorem dX5_right_12 : decode cX5_right 12 = .ok (.iconst 1, 1) := by decide +kernel
theorem dX5_right_13 : decode cX5_right 13 = .ok (.goto 4, 3) := by decide +kernel
theorem dX5_right_16 : decode cX5_right 16 = .ok (.iconst 0, 1) := by decide +kernel
theorem dX5_right_17 : decode cX5_right 17 = .ok (.istore 5, 2) := by decide +kernel
theorem dX5_right_19 : decode cX5_right 19 = .ok (.iconst 0, 1) := by decide +kernel
theorem dX5_right_20 : decode cX5_right 20 = .ok (.istore 6, 2) := by decide +kernel
theorem dX5_right_22 : decode cX5_right 22 = .ok (.iload 6, 2) := by decide +kernel
theorem dX5_right_24 : decode cX5_right 24 = .ok (.aload_n 0, 1) := by decide +kernel
theorem dX5_right_25 : decode cX5_right 25 = .ok (.getfield 79, 3) := by decide +kernel
theorem dX5_right_28 : decode cX5_right 28 = .ok (.if_icmp .ge 54, 3) := by decide +kernel
theorem dX5_right_31 : decode cX5_right 31 = .ok (.iload 5, 2) := by decide +kernel
theorem dX5_right_33 : decode cX5_right 33 = .ok (.ifCond .eq 49, 3) := by decide +kernel
theorem dX5_right_36 : decode cX5_right 36 = .ok (.aload_n 0, 1) := by decide +kernel
theorem dX5_right_37 : decode cX5_right 37 = .ok (.getfield 51, 3) := by decide +kernel
theorem dX5_right_40 : decode cX5_right 40 = .ok (.iload 6, 2) := by decide +kernel
theorem dX5_right_42 : decode cX5_right 42 = .ok (.lload_n 3, 1) := by decide +kernel
theorem dX5_right_43 : decode cX5_right 43 = .ok (.ldc2_w 128, 3) := by decide +kernel
theorem dX5_right_46 : decode cX5_right 46 = .ok (.lrem, 1) := by decide +kernel
theorem dX5_right_47 : decode cX5_right 47 = .ok (.l2i, 1) := by decide +kernel
theorem dX5_right_48 : decode cX5_right 48 = .ok (.iastore, 1) := by decide +kernel
theorem dX5_right_49 : decode cX5_right 49 = .ok (.aload_n 0, 1) := by decide +kernel
theorem dX5_right_50 : decode cX5_right 50 = .ok (.getfield 51, 3) := by decide +kernel
theorem dX5_right_53 : decode cX5_right 53 = .ok (.iload 6, 2) := by decide +kernel
theorem dX5_right_55 : decode cX5_right 55 = .ok (.iaload, 1) := by decide +kernel
theorem dX5_right_56 : decode cX5_right 56 = .ok (.aload_n 0, 1) := by decide +kernel
theorem dX5_right_57 : decode cX5_right 57 = .ok (.getfield 76, 3) := by decide +kernel
theorem dX5_right_60 : decode cX5_right 60 = .ok (.if_icmp .ge 7, 3) := by decide +kernel
theorem dX5_right_63 : decode cX5_right 63 = .ok (.iconst 1, 1) := by decide +kernel
theorem dX5_right_64 : decode cX5_right 64 = .ok (.goto 4, 3) := by decide +kernel
theorem dX5_right_67 : decode cX5_right 67 = .ok (.iconst 0, 1) := by decide +kernel
theorem dX5_right_68 : decode cX5_right 68 = .ok (.istore 5, 2) := by decide +kernel
theorem dX5_right_70 : decode cX5_right 70 = .ok (.lload_n 3, 1) := by decide +kernel
theorem dX5_right_71 : decode cX5_right 71 = .ok (.ldc2_w 128, 3) := by decide +kernel
theorem dX5_right_74 : decode cX5_right 74 = .ok (.ldiv, 1) := by decide +kernel
theorem dX5_right_75 : decode cX5_right 75 = .ok (.lstore_n 3, 1) := by decide +kernel
theorem dX5_right_76 : decode cX5_right 76 = .ok (.iinc 6 1, 3) := by decide +kernel
theorem dX5_right_79 : decode cX5_right 79 = .ok (.goto (-57), 3) := by decide +kernel
theorem dX5_right_82 : decode cX5_right 82 = .ok (.aload_n 0, 1) := by decide +kernel
theorem dX5_right_83 : decode cX5_right 83 = .ok (.iload 5, 2) := by decide +kernel
theorem dX5_right_85 : decode cX5_right 85 = .ok (.ifCond .eq 13, 3) := by decide +kernel
theorem dX5_right_88 : decode cX5_right 88 = .ok (.lload_n 3, 1) := by decide +kernel
theorem dX5_right_89 : decode cX5_right 89 = .ok (.lconst 0, 1) := by decide +kernel
theorem dX5_right_90 : decode cX5_right 90 = .ok (.lcmp, 1) := by decide +kernel
theorem dX5_right_91 : decode cX5_right 91 = .ok (.ifCond .ne 7, 3) := by decide +kernel
theorem dX5_right_94 : decode cX5_right 94 = .ok (.iconst 0, 1) := by decide +kernel
theorem dX5_right_95 : decode cX5_right 95 = .ok (.goto 4, 3) := by decide +kernel
theorem dX5_right_98 : decode cX5_right 98 = .ok (.iconst 1, 1) := by decide +kernel
theorem dX5_right_99 : decode cX5_right 99 = .ok (.putfield 58, 3) := by decide +kernel
theorem dX5_right_102 : decode cX5_right 102 = .ok (.aload_n 0, 1) := by decide +kernel
theorem dX5_right_103 : decode cX5_right 103 = .ok (.getfield 58, 3) := by decide +kernel
theorem dX5_right_106 : decode cX5_right 106 = .ok (.ifCond .ne 7, 3) := by decide +kernel
theorem dX5_right_109 : decode cX5_right 109 = .ok (.iconst 1, 1) := by decide +kernel
theorem dX5_right_110 : decode cX5_right 110 = .ok (.goto 4, 3) := by decide +kernel
theorem dX5_right_113 : decode cX5_right 113 = .ok (.iconst 0, 1) := by decide +kernel
theorem dX5_right_114 : decode cX5_right 114 = .ok (.istore 6, 2) := by decide +kernel
theorem dX5_right_116 : decode cX5_right 116 = .ok (.iconst 0, 1) := by decide +kernel
theorem dX5_right_117 : decode cX5_right 117 = .ok (.istore 7, 2) := by decide +kernel
theorem dX5_right_119 : decode cX5_right 119 = .ok (.iload 7, 2) := by decide +kernel
theorem dX5_right_121 : decode cX5_right 121 = .ok (.aload_n 0, 1) := by decide +kernel
theorem dX5_right_122 : decode cX5_right 122 = .ok (.getfield 79, 3) := by decide +kernel
theorem dX5_right_125 : decode cX5_right 125 = .ok (.if_icmp .ge 22, 3) := by decide +kernel
theorem dX5_right_128 : decode cX5_right 128 = .ok (.iload 6, 2) := by decide +kernel
theorem dX5_right_130 : decode cX5_right 130 = .ok (.ifCond .eq 17, 3) := by decide +kernel
theorem dX5_right_133 : decode cX5_right 133 = .ok (.aload_n 0, 1) := by decide +kernel
theorem dX5_right_134 : decode cX5_right 134 = .ok (.iload 7, 2) := by decide +kernel
theorem dX5_right_136 : decode cX5_right 136 = .ok (.invokevirtual 119, 3) := by decide +kernel
theorem dX5_right_139 : decode cX5_right 139 = .ok (.istore 6, 2) := by decide +kernel
theorem dX5_right_141 : decode cX5_right 141 = .ok (.iinc 7 1, 3) := by decide +kernel
theorem dX5_right_144 : decode cX5_right 144 = .ok (.goto (-25), 3) := by decide +kernel
theorem dX5_right_147 : decode cX5_right 147 = .ok (.iload 6, 2) := by decide +kernel
theorem dX5_right_149 : decode cX5_right 149 = .ok (.ireturn, 1) := by decide +kernel
