theorem dX10_fillIn_0 : decode cX10_fillIn 0 = .ok (.lload_n 1, 1) := by decide +kernel
theorem dX10_fillIn_1 : decode cX10_fillIn 1 = .ok (.ldc2_w 104, 3) := by decide +kernel
theorem dX10_fillIn_4 : decode cX10_fillIn 4 = .ok (.lmul, 1) := by decide +kernel
theorem dX10_fillIn_5 : decode cX10_fillIn 5 = .ok (.lload_n 3, 1) := by decide +kernel
theorem dX10_fillIn_6 : decode cX10_fillIn 6 = .ok (.ladd, 1) := by decide +kernel
theorem dX10_fillIn_7 : decode cX10_fillIn 7 = .ok (.ldc2_w 106, 3) := by decide +kernel
theorem dX10_fillIn_10 : decode cX10_fillIn 10 = .ok (.lmul, 1) := by decide +kernel
theorem dX10_fillIn_11 : decode cX10_fillIn 11 = .ok (.bipush 53, 2) := by decide +kernel
theorem dX10_fillIn_13 : decode cX10_fillIn 13 = .ok (.lushr, 1) := by decide +kernel
theorem dX10_fillIn_14 : decode cX10_fillIn 14 = .ok (.l2i, 1) := by decide +kernel
theorem dX10_fillIn_15 : decode cX10_fillIn 15 = .ok (.sipush 2047, 3) := by decide +kernel
theorem dX10_fillIn_18 : decode cX10_fillIn 18 = .ok (.iand, 1) := by decide +kernel
theorem dX10_fillIn_19 : decode cX10_fillIn 19 = .ok (.istore 5, 2) := by decide +kernel
theorem dX10_fillIn_21 : decode cX10_fillIn 21 = .ok (.iconst 0, 1) := by decide +kernel
theorem dX10_fillIn_22 : decode cX10_fillIn 22 = .ok (.istore 6, 2) := by decide +kernel
theorem dX10_fillIn_24 : decode cX10_fillIn 24 = .ok (.iload 6, 2) := by decide +kernel
theorem dX10_fillIn_26 : decode cX10_fillIn 26 = .ok (.sipush 2048, 3) := by decide +kernel
theorem dX10_fillIn_29 : decode cX10_fillIn 29 = .ok (.if_icmp .ge 96, 3) := by decide +kernel
theorem dX10_fillIn_32 : decode cX10_fillIn 32 = .ok (.aload_n 0, 1) := by decide +kernel
theorem dX10_fillIn_33 : decode cX10_fillIn 33 = .ok (.getfield 24, 3) := by decide +kernel
theorem dX10_fillIn_36 : decode cX10_fillIn 36 = .ok (.iload 5, 2) := by decide +kernel
theorem dX10_fillIn_38 : decode cX10_fillIn 38 = .ok (.iaload, 1) := by decide +kernel
theorem dX10_fillIn_39 : decode cX10_fillIn 39 = .ok (.aload_n 0, 1) := by decide +kernel
theorem dX10_fillIn_40 : decode cX10_fillIn 40 = .ok (.getfield 28, 3) := by decide +kernel
theorem dX10_fillIn_43 : decode cX10_fillIn 43 = .ok (.if_icmp .eq 41, 3) := by decide +kernel
theorem dX10_fillIn_46 : decode cX10_fillIn 46 = .ok (.aload_n 0, 1) := by decide +kernel
theorem dX10_fillIn_47 : decode cX10_fillIn 47 = .ok (.getfield 24, 3) := by decide +kernel
theorem dX10_fillIn_50 : decode cX10_fillIn 50 = .ok (.iload 5, 2) := by decide +kernel
theorem dX10_fillIn_52 : decode cX10_fillIn 52 = .ok (.aload_n 0, 1) := by decide +kernel
theorem dX10_fillIn_53 : decode cX10_fillIn 53 = .ok (.getfield 28, 3) := by decide +kernel
theorem dX10_fillIn_56 : decode cX10_fillIn 56 = .ok (.iastore, 1) := by decide +kernel
theorem dX10_fillIn_57 : decode cX10_fillIn 57 = .ok (.aload_n 0, 1) := by decide +kernel
theorem dX10_fillIn_58 : decode cX10_fillIn 58 = .ok (.getfield 17, 3) := by decide +kernel
theorem dX10_fillIn_61 : decode cX10_fillIn 61 = .ok (.iload 5, 2) := by decide +kernel
theorem dX10_fillIn_63 : decode cX10_fillIn 63 = .ok (.lload_n 1, 1) := by decide +kernel
theorem dX10_fillIn_64 : decode cX10_fillIn 64 = .ok (.lastore, 1) := by decide +kernel
theorem dX10_fillIn_65 : decode cX10_fillIn 65 = .ok (.aload_n 0, 1) := by decide +kernel
theorem dX10_fillIn_66 : decode cX10_fillIn 66 = .ok (.getfield 21, 3) := by decide +kernel
theorem dX10_fillIn_69 : decode cX10_fillIn 69 = .ok (.iload 5, 2) := by decide +kernel
theorem dX10_fillIn_71 : decode cX10_fillIn 71 = .ok (.lload_n 3, 1) := by decide +kernel
theorem dX10_fillIn_72 : decode cX10_fillIn 72 = .ok (.lastore, 1) := by decide +kernel
theorem dX10_fillIn_73 : decode cX10_fillIn 73 = .ok (.aload_n 0, 1) := by decide +kernel
theorem dX10_fillIn_74 : decode cX10_fillIn 74 = .ok (.dup, 1) := by decide +kernel
theorem dX10_fillIn_75 : decode cX10_fillIn 75 = .ok (.getfield 32, 3) := by decide +kernel
theorem dX10_fillIn_78 : decode cX10_fillIn 78 = .ok (.iconst 1, 1) := by decide +kernel
theorem dX10_fillIn_79 : decode cX10_fillIn 79 = .ok (.iadd, 1) := by decide +kernel
theorem dX10_fillIn_80 : decode cX10_fillIn 80 = .ok (.putfield 32, 3) := by decide +kernel
theorem dX10_fillIn_83 : decode cX10_fillIn 83 = .ok (.return_, 1) := by decide +kernel
theorem dX10_fillIn_84 : decode cX10_fillIn 84 = .ok (.aload_n 0, 1) := by decide +kernel
theorem dX10_fillIn_85 : decode cX10_fillIn 85 = .ok (.getfield 17, 3) := by decide +kernel
theorem dX10_fillIn_88 : decode cX10_fillIn 88 = .ok (.iload 5, 2) := by decide +kernel
theorem dX10_fillIn_90 : decode cX10_fillIn 90 = .ok (.laload, 1) := by decide +kernel
theorem dX10_fillIn_91 : decode cX10_fillIn 91 = .ok (.lload_n 1, 1) := by decide +kernel
theorem dX10_fillIn_92 : decode cX10_fillIn 92 = .ok (.lcmp, 1) := by decide +kernel
theorem dX10_fillIn_93 : decode cX10_fillIn 93 = .ok (.ifCond .ne 16, 3) := by decide +kernel
theorem dX10_fillIn_96 : decode cX10_fillIn 96 = .ok (.aload_n 0, 1) := by decide +kernel
theorem dX10_fillIn_97 : decode cX10_fillIn 97 = .ok (.getfield 21, 3) := by decide +kernel
theorem dX10_fillIn_100 : decode cX10_fillIn 100 = .ok (.iload 5, 2) := by decide +kernel
theorem dX10_fillIn_102 : decode cX10_fillIn 102 = .ok (.laload, 1) := by decide +kernel
theorem dX10_fillIn_103 : decode cX10_fillIn 103 = .ok (.lload_n 3, 1) := by decide +kernel
theorem dX10_fillIn_104 : decode cX10_fillIn 104 = .ok (.lcmp, 1) := by decide +kernel
theorem dX10_fillIn_105 : decode cX10_fillIn 105 = .ok (.ifCond .ne 4, 3) := by decide +kernel
theorem dX10_fillIn_108 : decode cX10_fillIn 108 = .ok (.return_, 1) := by decide +kernel
theorem dX10_fillIn_109 : decode cX10_fillIn 109 = .ok (.iload 5, 2) := by decide +kernel
theorem dX10_fillIn_111 : decode cX10_fillIn 111 = .ok (.iconst 1, 1) := by decide +kernel
theorem dX10_fillIn_112 : decode cX10_fillIn 112 = .ok (.iadd, 1) := by decide +kernel
theorem dX10_fillIn_113 : decode cX10_fillIn 113 = .ok (.sipush 2047, 3) := by decide +kernel
theorem dX10_fillIn_116 : decode cX10_fillIn 116 = .ok (.iand, 1) := by decide +kernel
theorem dX10_fillIn_117 : decode cX10_fillIn 117 = .ok (.istore 5, 2) := by decide +kernel
theorem dX10_fillIn_119 : decode cX10_fillIn 119 = .ok (.iinc 6 1, 3) := by decide +kernel
theorem dX10_fillIn_122 : decode cX10_fillIn 122 = .ok (.goto (-98), 3) := by decide +kernel
theorem dX10_fillIn_125 : decode cX10_fillIn 125 = .ok (.return_, 1) := by decide +kernel
theorem dX10_addTable_0 : decode cX10_addTable 0 = .ok (.lconst 0, 1) := by decide +kernel
theorem dX10_addTable_1 : decode cX10_addTable 1 = .ok (.lstore_n 2, 1) := by decide +kernel
theorem dX10_addTable_2 : decode cX10_addTable 2 = .ok (.lconst 0, 1) := by decide +kernel
theorem dX10_addTable_3 : decode cX10_addTable 3 = .ok (.lstore 4, 2) := by decide +kernel
theorem dX10_addTable_5 : decode cX10_addTable 5 = .ok (.iconst 0, 1) := by decide +kernel
theorem dX10_addTable_6 : decode cX10_addTable 6 = .ok (.istore 6, 2) := by decide +kernel
theorem dX10_addTable_8 : decode cX10_addTable 8 = .ok (.iconst 0, 1) := by decide +kernel
theorem dX10_addTable_9 : decode cX10_addTable 9 = .ok (.istore 7, 2) := by decide +kernel
theorem dX10_addTable_11 : decode cX10_addTable 11 = .ok (.iload 7, 2) := by decide +kernel
theorem dX10_addTable_13 : decode cX10_addTable 13 = .ok (.bipush 6, 2) := by decide +kernel
theorem dX10_addTable_15 : decode cX10_addTable 15 = .ok (.if_icmp .ge 75, 3) := by decide +kernel
theorem dX10_addTable_18 : decode cX10_addTable 18 = .ok (.iload 7, 2) := by decide +kernel
theorem dX10_addTable_20 : decode cX10_addTable 20 = .ok (.iconst 1, 1) := by decide +kernel
theorem dX10_addTable_21 : decode cX10_addTable 21 = .ok (.iadd, 1) := by decide +kernel
theorem dX10_addTable_22 : decode cX10_addTable 22 = .ok (.istore 8, 2) := by decide +kernel
theorem dX10_addTable_24 : decode cX10_addTable 24 = .ok (.iload 8, 2) := by decide +kernel
theorem dX10_addTable_26 : decode cX10_addTable 26 = .ok (.bipush 6, 2) := by decide +kernel
theorem dX10_addTable_28 : decode cX10_addTable 28 = .ok (.if_icmp .ge 56, 3) := by decide +kernel
theorem dX10_addTable_31 : decode cX10_addTable 31 = .ok (.aload_n 1, 1) := by decide +kernel
theorem dX10_addTable_32 : decode cX10_addTable 32 = .ok (.iload 7, 2) := by decide +kernel
theorem dX10_addTable_34 : decode cX10_addTable 34 = .ok (.iload 8, 2) := by decide +kernel
theorem dX10_addTable_36 : decode cX10_addTable 36 = .ok (.invokevirtual 97, 3) := by decide +kernel
theorem dX10_addTable_39 : decode cX10_addTable 39 = .ok (.sipush 128, 3) := by decide +kernel
theorem dX10_addTable_42 : decode cX10_addTable 42 = .ok (.iadd, 1) := by decide +kernel
theorem dX10_addTable_43 : decode cX10_addTable 43 = .ok (.istore 9, 2) := by decide +kernel
theorem dX10_addTable_45 : decode cX10_addTable 45 = .ok (.iload 6, 2) := by decide +kernel
theorem dX10_addTable_47 : decode cX10_addTable 47 = .ok (.bipush 8, 2) := by decide +kernel
theorem dX10_addTable_49 : decode cX10_addTable 49 = .ok (.if_icmp .ge 15, 3) := by decide +kernel
theorem dX10_addTable_52 : decode cX10_addTable 52 = .ok (.lload_n 2, 1) := by decide +kernel
theorem dX10_addTable_53 : decode cX10_addTable 53 = .ok (.bipush 8, 2) := by decide +kernel
theorem dX10_addTable_55 : decode cX10_addTable 55 = .ok (.lshl, 1) := by decide +kernel
theorem dX10_addTable_56 : decode cX10_addTable 56 = .ok (.iload 9, 2) := by decide +kernel
theorem dX10_addTable_58 : decode cX10_addTable 58 = .ok (.i2l, 1) := by decide +kernel
theorem dX10_addTable_59 : decode cX10_addTable 59 = .ok (.lor, 1) := by decide +kernel
theorem dX10_addTable_60 : decode cX10_addTable 60 = .ok (.lstore_n 2, 1) := by decide +kernel
theorem dX10_addTable_61 : decode cX10_addTable 61 = .ok (.goto 14, 3) := by decide +kernel
theorem dX10_addTable_64 : decode cX10_addTable 64 = .ok (.lload 4, 2) := by decide +kernel
theorem dX10_addTable_66 : decode cX10_addTable 66 = .ok (.bipush 8, 2) := by decide +kernel
theorem dX10_addTable_68 : decode cX10_addTable 68 = .ok (.lshl, 1) := by decide +kernel
theorem dX10_addTable_69 : decode cX10_addTable 69 = .ok (.iload 9, 2) := by decide +kernel
theorem dX10_addTable_71 : decode cX10_addTable 71 = .ok (.i2l, 1) := by decide +kernel
theorem dX10_addTable_72 : decode cX10_addTable 72 = .ok (.lor, 1) := by decide +kernel
theorem dX10_addTable_73 : decode cX10_addTable 73 = .ok (.lstore 4, 2) := by decide +kernel
theorem dX10_addTable_75 : decode cX10_addTable 75 = .ok (.iinc 6 1, 3) := by decide +kernel
theorem dX10_addTable_78 : decode cX10_addTable 78 = .ok (.iinc 8 1, 3) := by decide +kernel
theorem dX10_addTable_81 : decode cX10_addTable 81 = .ok (.goto (-57), 3) := by decide +kernel
theorem dX10_addTable_84 : decode cX10_addTable 84 = .ok (.iinc 7 1, 3) := by decide +kernel
theorem dX10_addTable_87 : decode cX10_addTable 87 = .ok (.goto (-76), 3) := by decide +kernel
theorem dX10_addTable_90 : decode cX10_addTable 90 = .ok (.aload_n 0, 1) := by decide +kernel
theorem dX10_addTable_91 : decode cX10_addTable 91 = .ok (.lload_n 2, 1) := by decide +kernel
theorem dX10_addTable_92 : decode cX10_addTable 92 = .ok (.lload 4, 2) := by decide +kernel
theorem dX10_addTable_94 : decode cX10_addTable 94 = .ok (.invokevirtual 100, 3) := by decide +kernel
theorem dX10_addTable_97 : decode cX10_addTable 97 = .ok (.return_, 1) := by decide +kernel
theorem dX10_init_0 : decode cX10_init 0 = .ok (.aload_n 0, 1) := by decide +kernel
theorem dX10_init_1 : decode cX10_init 1 = .ok (.invokespecial 3, 3) := by decide +kernel
theorem dX10_init_4 : decode cX10_init 4 = .ok (.aload_n 0, 1) := by decide +kernel
theorem dX10_init_5 : decode cX10_init 5 = .ok (.iconst 5, 1) := by decide +kernel
theorem dX10_init_6 : decode cX10_init 6 = .ok (.anewarray 9, 3) := by decide +kernel
theorem dX10_init_9 : decode cX10_init 9 = .ok (.putfield 11, 3) := by decide +kernel
theorem dX10_init_12 : decode cX10_init 12 = .ok (.aload_n 0, 1) := by decide +kernel
theorem dX10_init_13 : decode cX10_init 13 = .ok (.sipush 2048, 3) := by decide +kernel
theorem dX10_init_16 : decode cX10_init 16 = .ok (.newarray .long, 2) := by decide +kernel
theorem dX10_init_18 : decode cX10_init 18 = .ok (.putfield 17, 3) := by decide +kernel
theorem dX10_init_21 : decode cX10_init 21 = .ok (.aload_n 0, 1) := by decide +kernel
theorem dX10_init_22 : decode cX10_init 22 = .ok (.sipush 2048, 3) := by decide +kernel
theorem dX10_init_25 : decode cX10_init 25 = .ok (.newarray .long, 2) := by decide +kernel
theorem dX10_init_27 : decode cX10_init 27 = .ok (.putfield 21, 3) := by decide +kernel
theorem dX10_init_30 : decode cX10_init 30 = .ok (.aload_n 0, 1) := by decide +kernel
theorem dX10_init_31 : decode cX10_init 31 = .ok (.sipush 2048, 3) := by decide +kernel
theorem dX10_init_34 : decode cX10_init 34 = .ok (.newarray .int, 2) := by decide +kernel
theorem dX10_init_36 : decode cX10_init 36 = .ok (.putfield 24, 3) := by decide +kernel
theorem dX10_init_39 : decode cX10_init 39 = .ok (.aload_n 0, 1) := by decide +kernel
theorem dX10_init_40 : decode cX10_init 40 = .ok (.iconst 0, 1) := by decide +kernel
theorem dX10_init_41 : decode cX10_init 41 = .ok (.putfield 28, 3) := by decide +kernel
theorem dX10_init_44 : decode cX10_init 44 = .ok (.aload_n 0, 1) := by decide +kernel
theorem dX10_init_45 : decode cX10_init 45 = .ok (.iconst 0, 1) := by decide +kernel
theorem dX10_init_46 : decode cX10_init 46 = .ok (.putfield 32, 3) := by decide +kernel
theorem dX10_init_49 : decode cX10_init 49 = .ok (.aload_n 0, 1) := by decide +kernel
theorem dX10_init_50 : decode cX10_init 50 = .ok (.iconst 0, 1) := by decide +kernel
theorem dX10_init_51 : decode cX10_init 51 = .ok (.putfield 35, 3) := by decide +kernel
theorem dX10_init_54 : decode cX10_init 54 = .ok (.aload_n 0, 1) := by decide +kernel
theorem dX10_init_55 : decode cX10_init 55 = .ok (.iconst 0, 1) := by decide +kernel
theorem dX10_init_56 : decode cX10_init 56 = .ok (.putfield 38, 3) := by decide +kernel
theorem dX10_init_59 : decode cX10_init 59 = .ok (.aload_n 0, 1) := by decide +kernel
theorem dX10_init_60 : decode cX10_init 60 = .ok (.iconst 0, 1) := by decide +kernel
theorem dX10_init_61 : decode cX10_init 61 = .ok (.putfield 41, 3) := by decide +kernel
theorem dX10_init_64 : decode cX10_init 64 = .ok (.aload_n 0, 1) := by decide +kernel
theorem dX10_init_65 : decode cX10_init 65 = .ok (.iconst 0, 1) := by decide +kernel
theorem dX10_init_66 : decode cX10_init 66 = .ok (.putfield 44, 3) := by decide +kernel
theorem dX10_init_69 : decode cX10_init 69 = .ok (.aload_n 0, 1) := by decide +kernel
theorem dX10_init_70 : decode cX10_init 70 = .ok (.iconst 0, 1) := by decide +kernel
theorem dX10_init_71 : decode cX10_init 71 = .ok (.putfield 47, 3) := by decide +kernel
theorem dX10_init_74 : decode cX10_init 74 = .ok (.iconst 0, 1) := by decide +kernel
theorem dX10_init_75 : decode cX10_init 75 = .ok (.istore_n 1, 1) := by decide +kernel
theorem dX10_init_76 : decode cX10_init 76 = .ok (.iload_n 1, 1) := by decide +kernel
theorem dX10_init_77 : decode cX10_init 77 = .ok (.iconst 4, 1) := by decide +kernel
theorem dX10_init_78 : decode cX10_init 78 = .ok (.if_icmp .gt 22, 3) := by decide +kernel
theorem dX10_init_81 : decode cX10_init 81 = .ok (.aload_n 0, 1) := by decide +kernel
theorem dX10_init_82 : decode cX10_init 82 = .ok (.getfield 11, 3) := by decide +kernel
theorem dX10_init_85 : decode cX10_init 85 = .ok (.iload_n 1, 1) := by decide +kernel
theorem dX10_init_86 : decode cX10_init 86 = .ok (.new 9, 3) := by decide +kernel
theorem dX10_init_89 : decode cX10_init 89 = .ok (.dup, 1) := by decide +kernel
theorem dX10_init_90 : decode cX10_init 90 = .ok (.invokespecial 50, 3) := by decide +kernel
theorem dX10_init_93 : decode cX10_init 93 = .ok (.aastore, 1) := by decide +kernel
theorem dX10_init_94 : decode cX10_init 94 = .ok (.iinc 1 1, 3) := by decide +kernel
theorem dX10_init_97 : decode cX10_init 97 = .ok (.goto (-21), 3) := by decide +kernel
theorem dX10_init_100 : decode cX10_init 100 = .ok (.return_, 1) := by decide +kernel
theorem dX10_weigh_0 : decode cX10_weigh 0 = .ok (.aload_n 0, 1) := by decide +kernel
theorem dX10_weigh_1 : decode cX10_weigh 1 = .ok (.getfield 38, 3) := by decide +kernel
theorem dX10_weigh_4 : decode cX10_weigh 4 = .ok (.ifCond .ne 9, 3) := by decide +kernel
theorem dX10_weigh_7 : decode cX10_weigh 7 = .ok (.aload_n 0, 1) := by decide +kernel
theorem dX10_weigh_8 : decode cX10_weigh 8 = .ok (.aload_n 1, 1) := by decide +kernel
theorem dX10_weigh_9 : decode cX10_weigh 9 = .ok (.invokevirtual 87, 3) := by decide +kernel
theorem dX10_weigh_12 : decode cX10_weigh 12 = .ok (.return_, 1) := by decide +kernel
theorem dX10_weigh_13 : decode cX10_weigh 13 = .ok (.aload_n 1, 1) := by decide +kernel
theorem dX10_weigh_14 : decode cX10_weigh 14 = .ok (.invokevirtual 90, 3) := by decide +kernel
theorem dX10_weigh_17 : decode cX10_weigh 17 = .ok (.istore 4, 2) := by decide +kernel
theorem dX10_weigh_19 : decode cX10_weigh 19 = .ok (.aload_n 0, 1) := by decide +kernel
theorem dX10_weigh_20 : decode cX10_weigh 20 = .ok (.getfield 38, 3) := by decide +kernel
theorem dX10_weigh_23 : decode cX10_weigh 23 = .ok (.iconst 1, 1) := by decide +kernel
theorem dX10_weigh_24 : decode cX10_weigh 24 = .ok (.if_icmp .ne 18, 3) := by decide +kernel
theorem dX10_weigh_27 : decode cX10_weigh 27 = .ok (.aload_n 1, 1) := by decide +kernel
theorem dX10_weigh_28 : decode cX10_weigh 28 = .ok (.invokevirtual 94, 3) := by decide +kernel
theorem dX10_weigh_31 : decode cX10_weigh 31 = .ok (.iconst (-1), 1) := by decide +kernel
theorem dX10_weigh_32 : decode cX10_weigh 32 = .ok (.if_icmp .ne 7, 3) := by decide +kernel
theorem dX10_weigh_35 : decode cX10_weigh 35 = .ok (.iconst 1, 1) := by decide +kernel
theorem dX10_weigh_36 : decode cX10_weigh 36 = .ok (.goto 4, 3) := by decide +kernel
theorem dX10_weigh_39 : decode cX10_weigh 39 = .ok (.iconst 0, 1) := by decide +kernel
theorem dX10_weigh_40 : decode cX10_weigh 40 = .ok (.istore 4, 2) := by decide +kernel
theorem dX10_weigh_42 : decode cX10_weigh 42 = .ok (.iload 4, 2) := by decide +kernel
theorem dX10_weigh_44 : decode cX10_weigh 44 = .ok (.aload_n 0, 1) := by decide +kernel
theorem dX10_weigh_45 : decode cX10_weigh 45 = .ok (.getfield 41, 3) := by decide +kernel
theorem dX10_weigh_48 : decode cX10_weigh 48 = .ok (.if_icmp .lt 20, 3) := by decide +kernel
theorem dX10_weigh_51 : decode cX10_weigh 51 = .ok (.iload 4, 2) := by decide +kernel
theorem dX10_weigh_53 : decode cX10_weigh 53 = .ok (.aload_n 0, 1) := by decide +kernel
theorem dX10_weigh_54 : decode cX10_weigh 54 = .ok (.getfield 41, 3) := by decide +kernel
theorem dX10_weigh_57 : decode cX10_weigh 57 = .ok (.if_icmp .ne 27, 3) := by decide +kernel
theorem dX10_weigh_60 : decode cX10_weigh 60 = .ok (.iload_n 2, 1) := by decide +kernel
theorem dX10_weigh_61 : decode cX10_weigh 61 = .ok (.aload_n 0, 1) := by decide +kernel
theorem dX10_weigh_62 : decode cX10_weigh 62 = .ok (.getfield 44, 3) := by decide +kernel
theorem dX10_weigh_65 : decode cX10_weigh 65 = .ok (.if_icmp .ge 19, 3) := by decide +kernel
theorem dX10_weigh_68 : decode cX10_weigh 68 = .ok (.aload_n 0, 1) := by decide +kernel
theorem dX10_weigh_69 : decode cX10_weigh 69 = .ok (.iload 4, 2) := by decide +kernel
theorem dX10_weigh_71 : decode cX10_weigh 71 = .ok (.putfield 41, 3) := by decide +kernel
theorem dX10_weigh_74 : decode cX10_weigh 74 = .ok (.aload_n 0, 1) := by decide +kernel
theorem dX10_weigh_75 : decode cX10_weigh 75 = .ok (.iload_n 2, 1) := by decide +kernel
theorem dX10_weigh_76 : decode cX10_weigh 76 = .ok (.putfield 44, 3) := by decide +kernel
theorem dX10_weigh_79 : decode cX10_weigh 79 = .ok (.aload_n 0, 1) := by decide +kernel
theorem dX10_weigh_80 : decode cX10_weigh 80 = .ok (.iload_n 3, 1) := by decide +kernel
theorem dX10_weigh_81 : decode cX10_weigh 81 = .ok (.putfield 47, 3) := by decide +kernel
theorem dX10_weigh_84 : decode cX10_weigh 84 = .ok (.return_, 1) := by decide +kernel
theorem dX10_visit_0 : decode cX10_visit 0 = .ok (.aload_n 0, 1) := by decide +kernel
theorem dX10_visit_1 : decode cX10_visit 1 = .ok (.getfield 11, 3) := by decide +kernel
theorem dX10_visit_4 : decode cX10_visit 4 = .ok (.iload_n 1, 1) := by decide +kernel
theorem dX10_visit_5 : decode cX10_visit 5 = .ok (.aaload, 1) := by decide +kernel
theorem dX10_visit_6 : decode cX10_visit 6 = .ok (.astore 4, 2) := by decide +kernel
theorem dX10_visit_8 : decode cX10_visit 8 = .ok (.aload_n 0, 1) := by decide +kernel
theorem dX10_visit_9 : decode cX10_visit 9 = .ok (.aload 4, 2) := by decide +kernel
theorem dX10_visit_11 : decode cX10_visit 11 = .ok (.iload_n 1, 1) := by decide +kernel
theorem dX10_visit_12 : decode cX10_visit 12 = .ok (.iload_n 3, 1) := by decide +kernel
theorem dX10_visit_13 : decode cX10_visit 13 = .ok (.invokevirtual 69, 3) := by decide +kernel
theorem dX10_visit_16 : decode cX10_visit 16 = .ok (.aload_n 0, 1) := by decide +kernel
theorem dX10_visit_17 : decode cX10_visit 17 = .ok (.getfield 41, 3) := by decide +kernel
theorem dX10_visit_20 : decode cX10_visit 20 = .ok (.ifCond .ne 17, 3) := by decide +kernel
theorem dX10_visit_23 : decode cX10_visit 23 = .ok (.iload_n 1, 1) := by decide +kernel
theorem dX10_visit_24 : decode cX10_visit 24 = .ok (.iconst 1, 1) := by decide +kernel
theorem dX10_visit_25 : decode cX10_visit 25 = .ok (.iadd, 1) := by decide +kernel
theorem dX10_visit_26 : decode cX10_visit 26 = .ok (.aload_n 0, 1) := by decide +kernel
theorem dX10_visit_27 : decode cX10_visit 27 = .ok (.getfield 44, 3) := by decide +kernel
theorem dX10_visit_30 : decode cX10_visit 30 = .ok (.if_icmp .lt 7, 3) := by decide +kernel
theorem dX10_visit_33 : decode cX10_visit 33 = .ok (.iconst 1, 1) := by decide +kernel
theorem dX10_visit_34 : decode cX10_visit 34 = .ok (.goto 4, 3) := by decide +kernel
theorem dX10_visit_37 : decode cX10_visit 37 = .ok (.iconst 0, 1) := by decide +kernel
theorem dX10_visit_38 : decode cX10_visit 38 = .ok (.istore 5, 2) := by decide +kernel
theorem dX10_visit_40 : decode cX10_visit 40 = .ok (.iload_n 1, 1) := by decide +kernel
theorem dX10_visit_41 : decode cX10_visit 41 = .ok (.aload_n 0, 1) := by decide +kernel
theorem dX10_visit_42 : decode cX10_visit 42 = .ok (.getfield 35, 3) := by decide +kernel
theorem dX10_visit_45 : decode cX10_visit 45 = .ok (.if_icmp .ge 8, 3) := by decide +kernel
theorem dX10_visit_48 : decode cX10_visit 48 = .ok (.iload 5, 2) := by decide +kernel
theorem dX10_visit_50 : decode cX10_visit 50 = .ok (.ifCond .eq 4, 3) := by decide +kernel
theorem dX10_visit_53 : decode cX10_visit 53 = .ok (.return_, 1) := by decide +kernel
theorem dX10_visit_54 : decode cX10_visit 54 = .ok (.aload_n 0, 1) := by decide +kernel
theorem dX10_visit_55 : decode cX10_visit 55 = .ok (.getfield 11, 3) := by decide +kernel
theorem dX10_visit_58 : decode cX10_visit 58 = .ok (.iload_n 1, 1) := by decide +kernel
theorem dX10_visit_59 : decode cX10_visit 59 = .ok (.iconst 1, 1) := by decide +kernel
theorem dX10_visit_60 : decode cX10_visit 60 = .ok (.iadd, 1) := by decide +kernel
theorem dX10_visit_61 : decode cX10_visit 61 = .ok (.aaload, 1) := by decide +kernel
theorem dX10_visit_62 : decode cX10_visit 62 = .ok (.astore 6, 2) := by decide +kernel
theorem dX10_visit_64 : decode cX10_visit 64 = .ok (.iconst 0, 1) := by decide +kernel
theorem dX10_visit_65 : decode cX10_visit 65 = .ok (.istore 7, 2) := by decide +kernel
theorem dX10_visit_67 : decode cX10_visit 67 = .ok (.iload 7, 2) := by decide +kernel
theorem dX10_visit_69 : decode cX10_visit 69 = .ok (.aload 4, 2) := by decide +kernel
theorem dX10_visit_71 : decode cX10_visit 71 = .ok (.getfield 73, 3) := by decide +kernel
theorem dX10_visit_74 : decode cX10_visit 74 = .ok (.if_icmp .ge 75, 3) := by decide +kernel
theorem dX10_visit_77 : decode cX10_visit 77 = .ok (.iload 7, 2) := by decide +kernel
theorem dX10_visit_79 : decode cX10_visit 79 = .ok (.iload_n 2, 1) := by decide +kernel
theorem dX10_visit_80 : decode cX10_visit 80 = .ok (.if_icmp .eq 63, 3) := by decide +kernel
theorem dX10_visit_83 : decode cX10_visit 83 = .ok (.aload 4, 2) := by decide +kernel
theorem dX10_visit_85 : decode cX10_visit 85 = .ok (.iload 7, 2) := by decide +kernel
theorem dX10_visit_87 : decode cX10_visit 87 = .ok (.invokevirtual 76, 3) := by decide +kernel
theorem dX10_visit_90 : decode cX10_visit 90 = .ok (.ifCond .ne 6, 3) := by decide +kernel
theorem dX10_visit_93 : decode cX10_visit 93 = .ok (.goto 50, 3) := by decide +kernel
theorem dX10_visit_96 : decode cX10_visit 96 = .ok (.aload 6, 2) := by decide +kernel
theorem dX10_visit_98 : decode cX10_visit 98 = .ok (.aload 4, 2) := by decide +kernel
theorem dX10_visit_100 : decode cX10_visit 100 = .ok (.invokevirtual 61, 3) := by decide +kernel
theorem dX10_visit_103 : decode cX10_visit 103 = .ok (.iload_n 1, 1) := by decide +kernel
theorem dX10_visit_104 : decode cX10_visit 104 = .ok (.iconst 2, 1) := by decide +kernel
theorem dX10_visit_105 : decode cX10_visit 105 = .ok (.iadd, 1) := by decide +kernel
theorem dX10_visit_106 : decode cX10_visit 106 = .ok (.aload_n 0, 1) := by decide +kernel
theorem dX10_visit_107 : decode cX10_visit 107 = .ok (.getfield 35, 3) := by decide +kernel
theorem dX10_visit_110 : decode cX10_visit 110 = .ok (.if_icmp .ge 10, 3) := by decide +kernel
theorem dX10_visit_113 : decode cX10_visit 113 = .ok (.aload 6, 2) := by decide +kernel
theorem dX10_visit_115 : decode cX10_visit 115 = .ok (.iload 7, 2) := by decide +kernel
theorem dX10_visit_117 : decode cX10_visit 117 = .ok (.invokevirtual 80, 3) := by decide +kernel
theorem dX10_visit_120 : decode cX10_visit 120 = .ok (.aload 6, 2) := by decide +kernel
theorem dX10_visit_122 : decode cX10_visit 122 = .ok (.iload 7, 2) := by decide +kernel
theorem dX10_visit_124 : decode cX10_visit 124 = .ok (.invokevirtual 84, 3) := by decide +kernel
theorem dX10_visit_127 : decode cX10_visit 127 = .ok (.aload_n 0, 1) := by decide +kernel
theorem dX10_visit_128 : decode cX10_visit 128 = .ok (.iload_n 1, 1) := by decide +kernel
theorem dX10_visit_129 : decode cX10_visit 129 = .ok (.iconst 1, 1) := by decide +kernel
theorem dX10_visit_130 : decode cX10_visit 130 = .ok (.iadd, 1) := by decide +kernel
theorem dX10_visit_131 : decode cX10_visit 131 = .ok (.iload 7, 2) := by decide +kernel
theorem dX10_visit_133 : decode cX10_visit 133 = .ok (.bipush 10, 2) := by decide +kernel
theorem dX10_visit_135 : decode cX10_visit 135 = .ok (.iload_n 3, 1) := by decide +kernel
theorem dX10_visit_136 : decode cX10_visit 136 = .ok (.imul, 1) := by decide +kernel
theorem dX10_visit_137 : decode cX10_visit 137 = .ok (.iload 7, 2) := by decide +kernel
theorem dX10_visit_139 : decode cX10_visit 139 = .ok (.iadd, 1) := by decide +kernel
theorem dX10_visit_140 : decode cX10_visit 140 = .ok (.invokevirtual 65, 3) := by decide +kernel
theorem dX10_visit_143 : decode cX10_visit 143 = .ok (.iinc 7 1, 3) := by decide +kernel
theorem dX10_visit_146 : decode cX10_visit 146 = .ok (.goto (-79), 3) := by decide +kernel
theorem dX10_visit_149 : decode cX10_visit 149 = .ok (.return_, 1) := by decide +kernel
theorem dX10_search_0 : decode cX10_search 0 = .ok (.aload_n 0, 1) := by decide +kernel
theorem dX10_search_1 : decode cX10_search 1 = .ok (.iconst 0, 1) := by decide +kernel
theorem dX10_search_2 : decode cX10_search 2 = .ok (.iconst 4, 1) := by decide +kernel
theorem dX10_search_3 : decode cX10_search 3 = .ok (.iload_n 2, 1) := by decide +kernel
theorem dX10_search_4 : decode cX10_search 4 = .ok (.invokestatic 51, 3) := by decide +kernel
theorem dX10_search_7 : decode cX10_search 7 = .ok (.invokestatic 57, 3) := by decide +kernel
theorem dX10_search_10 : decode cX10_search 10 = .ok (.putfield 35, 3) := by decide +kernel
theorem dX10_search_13 : decode cX10_search 13 = .ok (.aload_n 0, 1) := by decide +kernel
theorem dX10_search_14 : decode cX10_search 14 = .ok (.iload_n 3, 1) := by decide +kernel
theorem dX10_search_15 : decode cX10_search 15 = .ok (.putfield 38, 3) := by decide +kernel
theorem dX10_search_18 : decode cX10_search 18 = .ok (.aload_n 0, 1) := by decide +kernel
theorem dX10_search_19 : decode cX10_search 19 = .ok (.dup, 1) := by decide +kernel
theorem dX10_search_20 : decode cX10_search 20 = .ok (.getfield 28, 3) := by decide +kernel
theorem dX10_search_23 : decode cX10_search 23 = .ok (.iconst 1, 1) := by decide +kernel
theorem dX10_search_24 : decode cX10_search 24 = .ok (.iadd, 1) := by decide +kernel
theorem dX10_search_25 : decode cX10_search 25 = .ok (.putfield 28, 3) := by decide +kernel
theorem dX10_search_28 : decode cX10_search 28 = .ok (.aload_n 0, 1) := by decide +kernel
theorem dX10_search_29 : decode cX10_search 29 = .ok (.iconst 0, 1) := by decide +kernel
theorem dX10_search_30 : decode cX10_search 30 = .ok (.putfield 32, 3) := by decide +kernel
theorem dX10_search_33 : decode cX10_search 33 = .ok (.aload_n 0, 1) := by decide +kernel
theorem dX10_search_34 : decode cX10_search 34 = .ok (.ldc 60, 2) := by decide +kernel
theorem dX10_search_36 : decode cX10_search 36 = .ok (.putfield 41, 3) := by decide +kernel
theorem dX10_search_39 : decode cX10_search 39 = .ok (.aload_n 0, 1) := by decide +kernel
theorem dX10_search_40 : decode cX10_search 40 = .ok (.iconst 0, 1) := by decide +kernel
theorem dX10_search_41 : decode cX10_search 41 = .ok (.putfield 44, 3) := by decide +kernel
theorem dX10_search_44 : decode cX10_search 44 = .ok (.aload_n 0, 1) := by decide +kernel
theorem dX10_search_45 : decode cX10_search 45 = .ok (.iconst 0, 1) := by decide +kernel
theorem dX10_search_46 : decode cX10_search 46 = .ok (.putfield 47, 3) := by decide +kernel
theorem dX10_search_49 : decode cX10_search 49 = .ok (.aload_n 0, 1) := by decide +kernel
theorem dX10_search_50 : decode cX10_search 50 = .ok (.getfield 11, 3) := by decide +kernel
theorem dX10_search_53 : decode cX10_search 53 = .ok (.iconst 0, 1) := by decide +kernel
theorem dX10_search_54 : decode cX10_search 54 = .ok (.aaload, 1) := by decide +kernel
theorem dX10_search_55 : decode cX10_search 55 = .ok (.aload_n 1, 1) := by decide +kernel
theorem dX10_search_56 : decode cX10_search 56 = .ok (.invokevirtual 61, 3) := by decide +kernel
theorem dX10_search_59 : decode cX10_search 59 = .ok (.aload_n 0, 1) := by decide +kernel
theorem dX10_search_60 : decode cX10_search 60 = .ok (.iconst 0, 1) := by decide +kernel
theorem dX10_search_61 : decode cX10_search 61 = .ok (.iconst (-1), 1) := by decide +kernel
theorem dX10_search_62 : decode cX10_search 62 = .ok (.iconst 0, 1) := by decide +kernel
theorem dX10_search_63 : decode cX10_search 63 = .ok (.invokevirtual 65, 3) := by decide +kernel
theorem dX10_search_66 : decode cX10_search 66 = .ok (.return_, 1) := by decide +kernel
