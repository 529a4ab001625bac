theorem dX12_readBetween_0 : decode cX12_readBetween 0 = .ok (.iconst 0, 1) := by decide +kernel
theorem dX12_readBetween_1 : decode cX12_readBetween 1 = .ok (.istore_n 3, 1) := by decide +kernel
theorem dX12_readBetween_2 : decode cX12_readBetween 2 = .ok (.iconst 0, 1) := by decide +kernel
theorem dX12_readBetween_3 : decode cX12_readBetween 3 = .ok (.istore 4, 2) := by decide +kernel
theorem dX12_readBetween_5 : decode cX12_readBetween 5 = .ok (.iload 4, 2) := by decide +kernel
theorem dX12_readBetween_7 : decode cX12_readBetween 7 = .ok (.iconst 3, 1) := by decide +kernel
theorem dX12_readBetween_8 : decode cX12_readBetween 8 = .ok (.aload_n 0, 1) := by decide +kernel
theorem dX12_readBetween_9 : decode cX12_readBetween 9 = .ok (.getfield 263, 3) := by decide +kernel
theorem dX12_readBetween_12 : decode cX12_readBetween 12 = .ok (.imul, 1) := by decide +kernel
theorem dX12_readBetween_13 : decode cX12_readBetween 13 = .ok (.if_icmp .ge 81, 3) := by decide +kernel
theorem dX12_readBetween_16 : decode cX12_readBetween 16 = .ok (.aload_n 0, 1) := by decide +kernel
theorem dX12_readBetween_17 : decode cX12_readBetween 17 = .ok (.getfield 52, 3) := by decide +kernel
theorem dX12_readBetween_20 : decode cX12_readBetween 20 = .ok (.iload 4, 2) := by decide +kernel
theorem dX12_readBetween_22 : decode cX12_readBetween 22 = .ok (.iaload, 1) := by decide +kernel
theorem dX12_readBetween_23 : decode cX12_readBetween 23 = .ok (.iload_n 1, 1) := by decide +kernel
theorem dX12_readBetween_24 : decode cX12_readBetween 24 = .ok (.if_icmp .ne 28, 3) := by decide +kernel
theorem dX12_readBetween_27 : decode cX12_readBetween 27 = .ok (.aload_n 0, 1) := by decide +kernel
theorem dX12_readBetween_28 : decode cX12_readBetween 28 = .ok (.getfield 52, 3) := by decide +kernel
theorem dX12_readBetween_31 : decode cX12_readBetween 31 = .ok (.iload 4, 2) := by decide +kernel
theorem dX12_readBetween_33 : decode cX12_readBetween 33 = .ok (.iconst 1, 1) := by decide +kernel
theorem dX12_readBetween_34 : decode cX12_readBetween 34 = .ok (.iadd, 1) := by decide +kernel
theorem dX12_readBetween_35 : decode cX12_readBetween 35 = .ok (.iaload, 1) := by decide +kernel
theorem dX12_readBetween_36 : decode cX12_readBetween 36 = .ok (.iload_n 2, 1) := by decide +kernel
theorem dX12_readBetween_37 : decode cX12_readBetween 37 = .ok (.if_icmp .ne 15, 3) := by decide +kernel
theorem dX12_readBetween_40 : decode cX12_readBetween 40 = .ok (.iload_n 3, 1) := by decide +kernel
theorem dX12_readBetween_41 : decode cX12_readBetween 41 = .ok (.aload_n 0, 1) := by decide +kernel
theorem dX12_readBetween_42 : decode cX12_readBetween 42 = .ok (.getfield 52, 3) := by decide +kernel
theorem dX12_readBetween_45 : decode cX12_readBetween 45 = .ok (.iload 4, 2) := by decide +kernel
theorem dX12_readBetween_47 : decode cX12_readBetween 47 = .ok (.iconst 2, 1) := by decide +kernel
theorem dX12_readBetween_48 : decode cX12_readBetween 48 = .ok (.iadd, 1) := by decide +kernel
theorem dX12_readBetween_49 : decode cX12_readBetween 49 = .ok (.iaload, 1) := by decide +kernel
theorem dX12_readBetween_50 : decode cX12_readBetween 50 = .ok (.iadd, 1) := by decide +kernel
theorem dX12_readBetween_51 : decode cX12_readBetween 51 = .ok (.istore_n 3, 1) := by decide +kernel
theorem dX12_readBetween_52 : decode cX12_readBetween 52 = .ok (.aload_n 0, 1) := by decide +kernel
theorem dX12_readBetween_53 : decode cX12_readBetween 53 = .ok (.getfield 52, 3) := by decide +kernel
theorem dX12_readBetween_56 : decode cX12_readBetween 56 = .ok (.iload 4, 2) := by decide +kernel
theorem dX12_readBetween_58 : decode cX12_readBetween 58 = .ok (.iaload, 1) := by decide +kernel
theorem dX12_readBetween_59 : decode cX12_readBetween 59 = .ok (.iload_n 2, 1) := by decide +kernel
theorem dX12_readBetween_60 : decode cX12_readBetween 60 = .ok (.if_icmp .ne 28, 3) := by decide +kernel
theorem dX12_readBetween_63 : decode cX12_readBetween 63 = .ok (.aload_n 0, 1) := by decide +kernel
theorem dX12_readBetween_64 : decode cX12_readBetween 64 = .ok (.getfield 52, 3) := by decide +kernel
theorem dX12_readBetween_67 : decode cX12_readBetween 67 = .ok (.iload 4, 2) := by decide +kernel
theorem dX12_readBetween_69 : decode cX12_readBetween 69 = .ok (.iconst 1, 1) := by decide +kernel
theorem dX12_readBetween_70 : decode cX12_readBetween 70 = .ok (.iadd, 1) := by decide +kernel
theorem dX12_readBetween_71 : decode cX12_readBetween 71 = .ok (.iaload, 1) := by decide +kernel
theorem dX12_readBetween_72 : decode cX12_readBetween 72 = .ok (.iload_n 1, 1) := by decide +kernel
theorem dX12_readBetween_73 : decode cX12_readBetween 73 = .ok (.if_icmp .ne 15, 3) := by decide +kernel
theorem dX12_readBetween_76 : decode cX12_readBetween 76 = .ok (.iload_n 3, 1) := by decide +kernel
theorem dX12_readBetween_77 : decode cX12_readBetween 77 = .ok (.aload_n 0, 1) := by decide +kernel
theorem dX12_readBetween_78 : decode cX12_readBetween 78 = .ok (.getfield 52, 3) := by decide +kernel
theorem dX12_readBetween_81 : decode cX12_readBetween 81 = .ok (.iload 4, 2) := by decide +kernel
theorem dX12_readBetween_83 : decode cX12_readBetween 83 = .ok (.iconst 2, 1) := by decide +kernel
theorem dX12_readBetween_84 : decode cX12_readBetween 84 = .ok (.iadd, 1) := by decide +kernel
theorem dX12_readBetween_85 : decode cX12_readBetween 85 = .ok (.iaload, 1) := by decide +kernel
theorem dX12_readBetween_86 : decode cX12_readBetween 86 = .ok (.isub, 1) := by decide +kernel
theorem dX12_readBetween_87 : decode cX12_readBetween 87 = .ok (.istore_n 3, 1) := by decide +kernel
theorem dX12_readBetween_88 : decode cX12_readBetween 88 = .ok (.iinc 4 3, 3) := by decide +kernel
theorem dX12_readBetween_91 : decode cX12_readBetween 91 = .ok (.goto (-86), 3) := by decide +kernel
theorem dX12_readBetween_94 : decode cX12_readBetween 94 = .ok (.iload_n 3, 1) := by decide +kernel
theorem dX12_readBetween_95 : decode cX12_readBetween 95 = .ok (.ireturn, 1) := by decide +kernel
theorem dX12_isWhole_0 : decode cX12_isWhole 0 = .ok (.iconst 0, 1) := by decide +kernel
theorem dX12_isWhole_1 : decode cX12_isWhole 1 = .ok (.istore_n 1, 1) := by decide +kernel
theorem dX12_isWhole_2 : decode cX12_isWhole 2 = .ok (.iload_n 1, 1) := by decide +kernel
theorem dX12_isWhole_3 : decode cX12_isWhole 3 = .ok (.iconst 3, 1) := by decide +kernel
theorem dX12_isWhole_4 : decode cX12_isWhole 4 = .ok (.aload_n 0, 1) := by decide +kernel
theorem dX12_isWhole_5 : decode cX12_isWhole 5 = .ok (.getfield 263, 3) := by decide +kernel
theorem dX12_isWhole_8 : decode cX12_isWhole 8 = .ok (.imul, 1) := by decide +kernel
theorem dX12_isWhole_9 : decode cX12_isWhole 9 = .ok (.if_icmp .ge 56, 3) := by decide +kernel
theorem dX12_isWhole_12 : decode cX12_isWhole 12 = .ok (.aload_n 0, 1) := by decide +kernel
theorem dX12_isWhole_13 : decode cX12_isWhole 13 = .ok (.getfield 52, 3) := by decide +kernel
theorem dX12_isWhole_16 : decode cX12_isWhole 16 = .ok (.iload_n 1, 1) := by decide +kernel
theorem dX12_isWhole_17 : decode cX12_isWhole 17 = .ok (.iaload, 1) := by decide +kernel
theorem dX12_isWhole_18 : decode cX12_isWhole 18 = .ok (.aload_n 0, 1) := by decide +kernel
theorem dX12_isWhole_19 : decode cX12_isWhole 19 = .ok (.getfield 260, 3) := by decide +kernel
theorem dX12_isWhole_22 : decode cX12_isWhole 22 = .ok (.if_icmp .ge 35, 3) := by decide +kernel
theorem dX12_isWhole_25 : decode cX12_isWhole 25 = .ok (.aload_n 0, 1) := by decide +kernel
theorem dX12_isWhole_26 : decode cX12_isWhole 26 = .ok (.getfield 52, 3) := by decide +kernel
theorem dX12_isWhole_29 : decode cX12_isWhole 29 = .ok (.iload_n 1, 1) := by decide +kernel
theorem dX12_isWhole_30 : decode cX12_isWhole 30 = .ok (.iconst 1, 1) := by decide +kernel
theorem dX12_isWhole_31 : decode cX12_isWhole 31 = .ok (.iadd, 1) := by decide +kernel
theorem dX12_isWhole_32 : decode cX12_isWhole 32 = .ok (.iaload, 1) := by decide +kernel
theorem dX12_isWhole_33 : decode cX12_isWhole 33 = .ok (.aload_n 0, 1) := by decide +kernel
theorem dX12_isWhole_34 : decode cX12_isWhole 34 = .ok (.getfield 260, 3) := by decide +kernel
theorem dX12_isWhole_37 : decode cX12_isWhole 37 = .ok (.if_icmp .ge 20, 3) := by decide +kernel
theorem dX12_isWhole_40 : decode cX12_isWhole 40 = .ok (.aload_n 0, 1) := by decide +kernel
theorem dX12_isWhole_41 : decode cX12_isWhole 41 = .ok (.getfield 52, 3) := by decide +kernel
theorem dX12_isWhole_44 : decode cX12_isWhole 44 = .ok (.iload_n 1, 1) := by decide +kernel
theorem dX12_isWhole_45 : decode cX12_isWhole 45 = .ok (.iaload, 1) := by decide +kernel
theorem dX12_isWhole_46 : decode cX12_isWhole 46 = .ok (.aload_n 0, 1) := by decide +kernel
theorem dX12_isWhole_47 : decode cX12_isWhole 47 = .ok (.getfield 52, 3) := by decide +kernel
theorem dX12_isWhole_50 : decode cX12_isWhole 50 = .ok (.iload_n 1, 1) := by decide +kernel
theorem dX12_isWhole_51 : decode cX12_isWhole 51 = .ok (.iconst 1, 1) := by decide +kernel
theorem dX12_isWhole_52 : decode cX12_isWhole 52 = .ok (.iadd, 1) := by decide +kernel
theorem dX12_isWhole_53 : decode cX12_isWhole 53 = .ok (.iaload, 1) := by decide +kernel
theorem dX12_isWhole_54 : decode cX12_isWhole 54 = .ok (.if_icmp .ne 5, 3) := by decide +kernel
theorem dX12_isWhole_57 : decode cX12_isWhole 57 = .ok (.iconst 0, 1) := by decide +kernel
theorem dX12_isWhole_58 : decode cX12_isWhole 58 = .ok (.ireturn, 1) := by decide +kernel
theorem dX12_isWhole_59 : decode cX12_isWhole 59 = .ok (.iinc 1 3, 3) := by decide +kernel
theorem dX12_isWhole_62 : decode cX12_isWhole 62 = .ok (.goto (-60), 3) := by decide +kernel
theorem dX12_isWhole_65 : decode cX12_isWhole 65 = .ok (.iconst 0, 1) := by decide +kernel
theorem dX12_isWhole_66 : decode cX12_isWhole 66 = .ok (.istore_n 1, 1) := by decide +kernel
theorem dX12_isWhole_67 : decode cX12_isWhole 67 = .ok (.iload_n 1, 1) := by decide +kernel
theorem dX12_isWhole_68 : decode cX12_isWhole 68 = .ok (.aload_n 0, 1) := by decide +kernel
theorem dX12_isWhole_69 : decode cX12_isWhole 69 = .ok (.getfield 260, 3) := by decide +kernel
theorem dX12_isWhole_72 : decode cX12_isWhole 72 = .ok (.if_icmp .ge 42, 3) := by decide +kernel
theorem dX12_isWhole_75 : decode cX12_isWhole 75 = .ok (.iconst 0, 1) := by decide +kernel
theorem dX12_isWhole_76 : decode cX12_isWhole 76 = .ok (.istore_n 2, 1) := by decide +kernel
theorem dX12_isWhole_77 : decode cX12_isWhole 77 = .ok (.iload_n 2, 1) := by decide +kernel
theorem dX12_isWhole_78 : decode cX12_isWhole 78 = .ok (.iload_n 1, 1) := by decide +kernel
theorem dX12_isWhole_79 : decode cX12_isWhole 79 = .ok (.if_icmp .ge 29, 3) := by decide +kernel
theorem dX12_isWhole_82 : decode cX12_isWhole 82 = .ok (.aload_n 0, 1) := by decide +kernel
theorem dX12_isWhole_83 : decode cX12_isWhole 83 = .ok (.iload_n 1, 1) := by decide +kernel
theorem dX12_isWhole_84 : decode cX12_isWhole 84 = .ok (.iload_n 2, 1) := by decide +kernel
theorem dX12_isWhole_85 : decode cX12_isWhole 85 = .ok (.invokevirtual 276, 3) := by decide +kernel
theorem dX12_isWhole_88 : decode cX12_isWhole 88 = .ok (.invokestatic 279, 3) := by decide +kernel
theorem dX12_isWhole_91 : decode cX12_isWhole 91 = .ok (.aload_n 0, 1) := by decide +kernel
theorem dX12_isWhole_92 : decode cX12_isWhole 92 = .ok (.getfield 40, 3) := by decide +kernel
theorem dX12_isWhole_95 : decode cX12_isWhole 95 = .ok (.iconst 1, 1) := by decide +kernel
theorem dX12_isWhole_96 : decode cX12_isWhole 96 = .ok (.iaload, 1) := by decide +kernel
theorem dX12_isWhole_97 : decode cX12_isWhole 97 = .ok (.if_icmp .le 5, 3) := by decide +kernel
theorem dX12_isWhole_100 : decode cX12_isWhole 100 = .ok (.iconst 0, 1) := by decide +kernel
theorem dX12_isWhole_101 : decode cX12_isWhole 101 = .ok (.ireturn, 1) := by decide +kernel
theorem dX12_isWhole_102 : decode cX12_isWhole 102 = .ok (.iinc 2 1, 3) := by decide +kernel
theorem dX12_isWhole_105 : decode cX12_isWhole 105 = .ok (.goto (-28), 3) := by decide +kernel
theorem dX12_isWhole_108 : decode cX12_isWhole 108 = .ok (.iinc 1 1, 3) := by decide +kernel
theorem dX12_isWhole_111 : decode cX12_isWhole 111 = .ok (.goto (-44), 3) := by decide +kernel
theorem dX12_isWhole_114 : decode cX12_isWhole 114 = .ok (.aload_n 0, 1) := by decide +kernel
theorem dX12_isWhole_115 : decode cX12_isWhole 115 = .ok (.getfield 260, 3) := by decide +kernel
theorem dX12_isWhole_118 : decode cX12_isWhole 118 = .ok (.iconst 1, 1) := by decide +kernel
theorem dX12_isWhole_119 : decode cX12_isWhole 119 = .ok (.if_icmp .le 7, 3) := by decide +kernel
theorem dX12_isWhole_122 : decode cX12_isWhole 122 = .ok (.iconst 1, 1) := by decide +kernel
theorem dX12_isWhole_123 : decode cX12_isWhole 123 = .ok (.goto 4, 3) := by decide +kernel
theorem dX12_isWhole_126 : decode cX12_isWhole 126 = .ok (.iconst 0, 1) := by decide +kernel
theorem dX12_isWhole_127 : decode cX12_isWhole 127 = .ok (.ireturn, 1) := by decide +kernel
theorem dX12_leastOf_0 : decode cX12_leastOf 0 = .ok (.iload_n 0, 1) := by decide +kernel
theorem dX12_leastOf_1 : decode cX12_leastOf 1 = .ok (.bipush 115, 2) := by decide +kernel
theorem dX12_leastOf_3 : decode cX12_leastOf 3 = .ok (.if_icmp .ne 8, 3) := by decide +kernel
theorem dX12_leastOf_6 : decode cX12_leastOf 6 = .ok (.iload_n 1, 1) := by decide +kernel
theorem dX12_leastOf_7 : decode cX12_leastOf 7 = .ok (.iconst 1, 1) := by decide +kernel
theorem dX12_leastOf_8 : decode cX12_leastOf 8 = .ok (.if_icmp .eq 24, 3) := by decide +kernel
theorem dX12_leastOf_11 : decode cX12_leastOf 11 = .ok (.iload_n 0, 1) := by decide +kernel
theorem dX12_leastOf_12 : decode cX12_leastOf 12 = .ok (.bipush 112, 2) := by decide +kernel
theorem dX12_leastOf_14 : decode cX12_leastOf 14 = .ok (.if_icmp .ne 7, 3) := by decide +kernel
theorem dX12_leastOf_17 : decode cX12_leastOf 17 = .ok (.iload_n 1, 1) := by decide +kernel
theorem dX12_leastOf_18 : decode cX12_leastOf 18 = .ok (.ifCond .eq 14, 3) := by decide +kernel
theorem dX12_leastOf_21 : decode cX12_leastOf 21 = .ok (.iload_n 0, 1) := by decide +kernel
theorem dX12_leastOf_22 : decode cX12_leastOf 22 = .ok (.bipush 102, 2) := by decide +kernel
theorem dX12_leastOf_24 : decode cX12_leastOf 24 = .ok (.if_icmp .ne 12, 3) := by decide +kernel
theorem dX12_leastOf_27 : decode cX12_leastOf 27 = .ok (.iload_n 1, 1) := by decide +kernel
theorem dX12_leastOf_28 : decode cX12_leastOf 28 = .ok (.iconst 2, 1) := by decide +kernel
theorem dX12_leastOf_29 : decode cX12_leastOf 29 = .ok (.if_icmp .ne 7, 3) := by decide +kernel
theorem dX12_leastOf_32 : decode cX12_leastOf 32 = .ok (.iconst 1, 1) := by decide +kernel
theorem dX12_leastOf_33 : decode cX12_leastOf 33 = .ok (.goto 4, 3) := by decide +kernel
theorem dX12_leastOf_36 : decode cX12_leastOf 36 = .ok (.iconst 0, 1) := by decide +kernel
theorem dX12_leastOf_37 : decode cX12_leastOf 37 = .ok (.ireturn, 1) := by decide +kernel
theorem dX12_mostOf_0 : decode cX12_mostOf 0 = .ok (.iload_n 0, 1) := by decide +kernel
theorem dX12_mostOf_1 : decode cX12_mostOf 1 = .ok (.bipush 115, 2) := by decide +kernel
theorem dX12_mostOf_3 : decode cX12_mostOf 3 = .ok (.if_icmp .ne 6, 3) := by decide +kernel
theorem dX12_mostOf_6 : decode cX12_mostOf 6 = .ok (.bipush 99, 2) := by decide +kernel
theorem dX12_mostOf_8 : decode cX12_mostOf 8 = .ok (.ireturn, 1) := by decide +kernel
theorem dX12_mostOf_9 : decode cX12_mostOf 9 = .ok (.iload_n 0, 1) := by decide +kernel
theorem dX12_mostOf_10 : decode cX12_mostOf 10 = .ok (.bipush 112, 2) := by decide +kernel
theorem dX12_mostOf_12 : decode cX12_mostOf 12 = .ok (.if_icmp .ne 15, 3) := by decide +kernel
theorem dX12_mostOf_15 : decode cX12_mostOf 15 = .ok (.iload_n 1, 1) := by decide +kernel
theorem dX12_mostOf_16 : decode cX12_mostOf 16 = .ok (.iconst 2, 1) := by decide +kernel
theorem dX12_mostOf_17 : decode cX12_mostOf 17 = .ok (.if_icmp .ne 7, 3) := by decide +kernel
theorem dX12_mostOf_20 : decode cX12_mostOf 20 = .ok (.iconst 1, 1) := by decide +kernel
theorem dX12_mostOf_21 : decode cX12_mostOf 21 = .ok (.goto 5, 3) := by decide +kernel
theorem dX12_mostOf_24 : decode cX12_mostOf 24 = .ok (.bipush 9, 2) := by decide +kernel
theorem dX12_mostOf_26 : decode cX12_mostOf 26 = .ok (.ireturn, 1) := by decide +kernel
theorem dX12_mostOf_27 : decode cX12_mostOf 27 = .ok (.iload_n 1, 1) := by decide +kernel
theorem dX12_mostOf_28 : decode cX12_mostOf 28 = .ok (.iconst 2, 1) := by decide +kernel
theorem dX12_mostOf_29 : decode cX12_mostOf 29 = .ok (.if_icmp .ge 7, 3) := by decide +kernel
theorem dX12_mostOf_32 : decode cX12_mostOf 32 = .ok (.iconst 5, 1) := by decide +kernel
theorem dX12_mostOf_33 : decode cX12_mostOf 33 = .ok (.goto 5, 3) := by decide +kernel
theorem dX12_mostOf_36 : decode cX12_mostOf 36 = .ok (.bipush 9, 2) := by decide +kernel
theorem dX12_mostOf_38 : decode cX12_mostOf 38 = .ok (.ireturn, 1) := by decide +kernel
theorem dX12_number_0 : decode cX12_number 0 = .ok (.aload_n 0, 1) := by decide +kernel
theorem dX12_number_1 : decode cX12_number 1 = .ok (.invokevirtual 153, 3) := by decide +kernel
theorem dX12_number_4 : decode cX12_number 4 = .ok (.istore_n 3, 1) := by decide +kernel
theorem dX12_number_5 : decode cX12_number 5 = .ok (.aload_n 0, 1) := by decide +kernel
theorem dX12_number_6 : decode cX12_number 6 = .ok (.invokevirtual 183, 3) := by decide +kernel
theorem dX12_number_9 : decode cX12_number 9 = .ok (.ifCond .ne 10, 3) := by decide +kernel
theorem dX12_number_12 : decode cX12_number 12 = .ok (.aload_n 0, 1) := by decide +kernel
theorem dX12_number_13 : decode cX12_number 13 = .ok (.invokevirtual 149, 3) := by decide +kernel
theorem dX12_number_16 : decode cX12_number 16 = .ok (.pop, 1) := by decide +kernel
theorem dX12_number_17 : decode cX12_number 17 = .ok (.iconst 0, 1) := by decide +kernel
theorem dX12_number_18 : decode cX12_number 18 = .ok (.ireturn, 1) := by decide +kernel
theorem dX12_number_19 : decode cX12_number 19 = .ok (.iload_n 3, 1) := by decide +kernel
theorem dX12_number_20 : decode cX12_number 20 = .ok (.bipush 48, 2) := by decide +kernel
theorem dX12_number_22 : decode cX12_number 22 = .ok (.isub, 1) := by decide +kernel
theorem dX12_number_23 : decode cX12_number 23 = .ok (.istore 4, 2) := by decide +kernel
theorem dX12_number_25 : decode cX12_number 25 = .ok (.aload_n 0, 1) := by decide +kernel
theorem dX12_number_26 : decode cX12_number 26 = .ok (.dup, 1) := by decide +kernel
theorem dX12_number_27 : decode cX12_number 27 = .ok (.getfield 134, 3) := by decide +kernel
theorem dX12_number_30 : decode cX12_number 30 = .ok (.iconst 1, 1) := by decide +kernel
theorem dX12_number_31 : decode cX12_number 31 = .ok (.iadd, 1) := by decide +kernel
theorem dX12_number_32 : decode cX12_number 32 = .ok (.putfield 134, 3) := by decide +kernel
theorem dX12_number_35 : decode cX12_number 35 = .ok (.aload_n 0, 1) := by decide +kernel
theorem dX12_number_36 : decode cX12_number 36 = .ok (.invokevirtual 183, 3) := by decide +kernel
theorem dX12_number_39 : decode cX12_number 39 = .ok (.ifCond .eq 28, 3) := by decide +kernel
theorem dX12_number_42 : decode cX12_number 42 = .ok (.bipush 10, 2) := by decide +kernel
theorem dX12_number_44 : decode cX12_number 44 = .ok (.iload 4, 2) := by decide +kernel
theorem dX12_number_46 : decode cX12_number 46 = .ok (.imul, 1) := by decide +kernel
theorem dX12_number_47 : decode cX12_number 47 = .ok (.aload_n 0, 1) := by decide +kernel
theorem dX12_number_48 : decode cX12_number 48 = .ok (.invokevirtual 229, 3) := by decide +kernel
theorem dX12_number_51 : decode cX12_number 51 = .ok (.iadd, 1) := by decide +kernel
theorem dX12_number_52 : decode cX12_number 52 = .ok (.bipush 48, 2) := by decide +kernel
theorem dX12_number_54 : decode cX12_number 54 = .ok (.isub, 1) := by decide +kernel
theorem dX12_number_55 : decode cX12_number 55 = .ok (.istore 4, 2) := by decide +kernel
theorem dX12_number_57 : decode cX12_number 57 = .ok (.aload_n 0, 1) := by decide +kernel
theorem dX12_number_58 : decode cX12_number 58 = .ok (.dup, 1) := by decide +kernel
theorem dX12_number_59 : decode cX12_number 59 = .ok (.getfield 134, 3) := by decide +kernel
theorem dX12_number_62 : decode cX12_number 62 = .ok (.iconst 1, 1) := by decide +kernel
theorem dX12_number_63 : decode cX12_number 63 = .ok (.iadd, 1) := by decide +kernel
theorem dX12_number_64 : decode cX12_number 64 = .ok (.putfield 134, 3) := by decide +kernel
theorem dX12_number_67 : decode cX12_number 67 = .ok (.aload_n 0, 1) := by decide +kernel
theorem dX12_number_68 : decode cX12_number 68 = .ok (.invokevirtual 183, 3) := by decide +kernel
theorem dX12_number_71 : decode cX12_number 71 = .ok (.ifCond .eq 10, 3) := by decide +kernel
theorem dX12_number_74 : decode cX12_number 74 = .ok (.aload_n 0, 1) := by decide +kernel
theorem dX12_number_75 : decode cX12_number 75 = .ok (.invokevirtual 149, 3) := by decide +kernel
theorem dX12_number_78 : decode cX12_number 78 = .ok (.pop, 1) := by decide +kernel
theorem dX12_number_79 : decode cX12_number 79 = .ok (.iconst 0, 1) := by decide +kernel
theorem dX12_number_80 : decode cX12_number 80 = .ok (.ireturn, 1) := by decide +kernel
theorem dX12_number_81 : decode cX12_number 81 = .ok (.iload 4, 2) := by decide +kernel
theorem dX12_number_83 : decode cX12_number 83 = .ok (.i2l, 1) := by decide +kernel
theorem dX12_number_84 : decode cX12_number 84 = .ok (.iload_n 1, 1) := by decide +kernel
theorem dX12_number_85 : decode cX12_number 85 = .ok (.i2l, 1) := by decide +kernel
theorem dX12_number_86 : decode cX12_number 86 = .ok (.iload_n 2, 1) := by decide +kernel
theorem dX12_number_87 : decode cX12_number 87 = .ok (.i2l, 1) := by decide +kernel
theorem dX12_number_88 : decode cX12_number 88 = .ok (.invokestatic 232, 3) := by decide +kernel
theorem dX12_number_91 : decode cX12_number 91 = .ok (.ifCond .ne 18, 3) := by decide +kernel
theorem dX12_number_94 : decode cX12_number 94 = .ok (.aload_n 0, 1) := by decide +kernel
theorem dX12_number_95 : decode cX12_number 95 = .ok (.dup, 1) := by decide +kernel
theorem dX12_number_96 : decode cX12_number 96 = .ok (.getfield 134, 3) := by decide +kernel
theorem dX12_number_99 : decode cX12_number 99 = .ok (.iconst 1, 1) := by decide +kernel
theorem dX12_number_100 : decode cX12_number 100 = .ok (.isub, 1) := by decide +kernel
theorem dX12_number_101 : decode cX12_number 101 = .ok (.putfield 134, 3) := by decide +kernel
theorem dX12_number_104 : decode cX12_number 104 = .ok (.aload_n 0, 1) := by decide +kernel
theorem dX12_number_105 : decode cX12_number 105 = .ok (.invokevirtual 149, 3) := by decide +kernel
theorem dX12_number_108 : decode cX12_number 108 = .ok (.pop, 1) := by decide +kernel
theorem dX12_number_109 : decode cX12_number 109 = .ok (.iload 4, 2) := by decide +kernel
theorem dX12_number_111 : decode cX12_number 111 = .ok (.ireturn, 1) := by decide +kernel
theorem dX12_spotOf_0 : decode cX12_spotOf 0 = .ok (.iconst 0, 1) := by decide +kernel
theorem dX12_spotOf_1 : decode cX12_spotOf 1 = .ok (.istore_n 2, 1) := by decide +kernel
theorem dX12_spotOf_2 : decode cX12_spotOf 2 = .ok (.iload_n 2, 1) := by decide +kernel
theorem dX12_spotOf_3 : decode cX12_spotOf 3 = .ok (.aload_n 0, 1) := by decide +kernel
theorem dX12_spotOf_4 : decode cX12_spotOf 4 = .ok (.invokevirtual 114, 3) := by decide +kernel
theorem dX12_spotOf_7 : decode cX12_spotOf 7 = .ok (.if_icmp .ge 20, 3) := by decide +kernel
theorem dX12_spotOf_10 : decode cX12_spotOf 10 = .ok (.aload_n 0, 1) := by decide +kernel
theorem dX12_spotOf_11 : decode cX12_spotOf 11 = .ok (.iload_n 2, 1) := by decide +kernel
theorem dX12_spotOf_12 : decode cX12_spotOf 12 = .ok (.invokevirtual 120, 3) := by decide +kernel
theorem dX12_spotOf_15 : decode cX12_spotOf 15 = .ok (.iload_n 1, 1) := by decide +kernel
theorem dX12_spotOf_16 : decode cX12_spotOf 16 = .ok (.if_icmp .ne 5, 3) := by decide +kernel
theorem dX12_spotOf_19 : decode cX12_spotOf 19 = .ok (.iload_n 2, 1) := by decide +kernel
theorem dX12_spotOf_20 : decode cX12_spotOf 20 = .ok (.ireturn, 1) := by decide +kernel
theorem dX12_spotOf_21 : decode cX12_spotOf 21 = .ok (.iinc 2 1, 3) := by decide +kernel
theorem dX12_spotOf_24 : decode cX12_spotOf 24 = .ok (.goto (-22), 3) := by decide +kernel
theorem dX12_spotOf_27 : decode cX12_spotOf 27 = .ok (.iconst (-1), 1) := by decide +kernel
theorem dX12_spotOf_28 : decode cX12_spotOf 28 = .ok (.ireturn, 1) := by decide +kernel
theorem dX12_usual_0 : decode cX12_usual 0 = .ok (.iload_n 0, 1) := by decide +kernel
theorem dX12_usual_1 : decode cX12_usual 1 = .ok (.bipush 115, 2) := by decide +kernel
theorem dX12_usual_3 : decode cX12_usual 3 = .ok (.if_icmp .ne 6, 3) := by decide +kernel
theorem dX12_usual_6 : decode cX12_usual 6 = .ok (.bipush 20, 2) := by decide +kernel
theorem dX12_usual_8 : decode cX12_usual 8 = .ok (.ireturn, 1) := by decide +kernel
theorem dX12_usual_9 : decode cX12_usual 9 = .ok (.iload_n 0, 1) := by decide +kernel
theorem dX12_usual_10 : decode cX12_usual 10 = .ok (.bipush 112, 2) := by decide +kernel
theorem dX12_usual_12 : decode cX12_usual 12 = .ok (.if_icmp .ne 22, 3) := by decide +kernel
theorem dX12_usual_15 : decode cX12_usual 15 = .ok (.iload_n 1, 1) := by decide +kernel
theorem dX12_usual_16 : decode cX12_usual 16 = .ok (.ifCond .ne 7, 3) := by decide +kernel
theorem dX12_usual_19 : decode cX12_usual 19 = .ok (.iconst 1, 1) := by decide +kernel
theorem dX12_usual_20 : decode cX12_usual 20 = .ok (.goto 13, 3) := by decide +kernel
theorem dX12_usual_23 : decode cX12_usual 23 = .ok (.iload_n 1, 1) := by decide +kernel
theorem dX12_usual_24 : decode cX12_usual 24 = .ok (.iconst 1, 1) := by decide +kernel
theorem dX12_usual_25 : decode cX12_usual 25 = .ok (.if_icmp .ne 7, 3) := by decide +kernel
theorem dX12_usual_28 : decode cX12_usual 28 = .ok (.iconst 2, 1) := by decide +kernel
theorem dX12_usual_29 : decode cX12_usual 29 = .ok (.goto 4, 3) := by decide +kernel
theorem dX12_usual_32 : decode cX12_usual 32 = .ok (.iconst 0, 1) := by decide +kernel
theorem dX12_usual_33 : decode cX12_usual 33 = .ok (.ireturn, 1) := by decide +kernel
theorem dX12_usual_34 : decode cX12_usual 34 = .ok (.iload_n 1, 1) := by decide +kernel
theorem dX12_usual_35 : decode cX12_usual 35 = .ok (.ifCond .ne 7, 3) := by decide +kernel
theorem dX12_usual_38 : decode cX12_usual 38 = .ok (.iconst 0, 1) := by decide +kernel
theorem dX12_usual_39 : decode cX12_usual 39 = .ok (.goto 4, 3) := by decide +kernel
theorem dX12_usual_42 : decode cX12_usual 42 = .ok (.iconst 1, 1) := by decide +kernel
theorem dX12_usual_43 : decode cX12_usual 43 = .ok (.ireturn, 1) := by decide +kernel
theorem dX12_readItems_0 : decode cX12_readItems 0 = .ok (.iconst 0, 1) := by decide +kernel
theorem dX12_readItems_1 : decode cX12_readItems 1 = .ok (.istore 5, 2) := by decide +kernel
theorem dX12_readItems_3 : decode cX12_readItems 3 = .ok (.iload 5, 2) := by decide +kernel
theorem dX12_readItems_5 : decode cX12_readItems 5 = .ok (.aload 4, 2) := by decide +kernel
theorem dX12_readItems_7 : decode cX12_readItems 7 = .ok (.invokevirtual 114, 3) := by decide +kernel
theorem dX12_readItems_10 : decode cX12_readItems 10 = .ok (.if_icmp .ge 21, 3) := by decide +kernel
theorem dX12_readItems_13 : decode cX12_readItems 13 = .ok (.aload_n 2, 1) := by decide +kernel
theorem dX12_readItems_14 : decode cX12_readItems 14 = .ok (.iload_n 3, 1) := by decide +kernel
theorem dX12_readItems_15 : decode cX12_readItems 15 = .ok (.iload 5, 2) := by decide +kernel
theorem dX12_readItems_17 : decode cX12_readItems 17 = .ok (.iadd, 1) := by decide +kernel
theorem dX12_readItems_18 : decode cX12_readItems 18 = .ok (.iload_n 1, 1) := by decide +kernel
theorem dX12_readItems_19 : decode cX12_readItems 19 = .ok (.iload 5, 2) := by decide +kernel
theorem dX12_readItems_21 : decode cX12_readItems 21 = .ok (.invokestatic 236, 3) := by decide +kernel
theorem dX12_readItems_24 : decode cX12_readItems 24 = .ok (.iastore, 1) := by decide +kernel
theorem dX12_readItems_25 : decode cX12_readItems 25 = .ok (.iinc 5 1, 3) := by decide +kernel
theorem dX12_readItems_28 : decode cX12_readItems 28 = .ok (.goto (-25), 3) := by decide +kernel
theorem dX12_readItems_31 : decode cX12_readItems 31 = .ok (.iconst 0, 1) := by decide +kernel
theorem dX12_readItems_32 : decode cX12_readItems 32 = .ok (.istore 5, 2) := by decide +kernel
theorem dX12_readItems_34 : decode cX12_readItems 34 = .ok (.aload 4, 2) := by decide +kernel
theorem dX12_readItems_36 : decode cX12_readItems 36 = .ok (.aload_n 0, 1) := by decide +kernel
theorem dX12_readItems_37 : decode cX12_readItems 37 = .ok (.invokevirtual 153, 3) := by decide +kernel
theorem dX12_readItems_40 : decode cX12_readItems 40 = .ok (.invokestatic 240, 3) := by decide +kernel
theorem dX12_readItems_43 : decode cX12_readItems 43 = .ok (.istore 6, 2) := by decide +kernel
theorem dX12_readItems_45 : decode cX12_readItems 45 = .ok (.iload 6, 2) := by decide +kernel
theorem dX12_readItems_47 : decode cX12_readItems 47 = .ok (.iconst (-1), 1) := by decide +kernel
theorem dX12_readItems_48 : decode cX12_readItems 48 = .ok (.if_icmp .eq 90, 3) := by decide +kernel
theorem dX12_readItems_51 : decode cX12_readItems 51 = .ok (.aload_n 0, 1) := by decide +kernel
theorem dX12_readItems_52 : decode cX12_readItems 52 = .ok (.getfield 143, 3) := by decide +kernel
theorem dX12_readItems_55 : decode cX12_readItems 55 = .ok (.iconst (-1), 1) := by decide +kernel
theorem dX12_readItems_56 : decode cX12_readItems 56 = .ok (.if_icmp .ne 82, 3) := by decide +kernel
theorem dX12_readItems_59 : decode cX12_readItems 59 = .ok (.iload 5, 2) := by decide +kernel
theorem dX12_readItems_61 : decode cX12_readItems 61 = .ok (.iload 6, 2) := by decide +kernel
theorem dX12_readItems_63 : decode cX12_readItems 63 = .ok (.invokestatic 244, 3) := by decide +kernel
theorem dX12_readItems_66 : decode cX12_readItems 66 = .ok (.ifCond .eq 9, 3) := by decide +kernel
theorem dX12_readItems_69 : decode cX12_readItems 69 = .ok (.aload_n 0, 1) := by decide +kernel
theorem dX12_readItems_70 : decode cX12_readItems 70 = .ok (.invokevirtual 149, 3) := by decide +kernel
theorem dX12_readItems_73 : decode cX12_readItems 73 = .ok (.pop, 1) := by decide +kernel
theorem dX12_readItems_74 : decode cX12_readItems 74 = .ok (.return_, 1) := by decide +kernel
theorem dX12_readItems_75 : decode cX12_readItems 75 = .ok (.iload 5, 2) := by decide +kernel
theorem dX12_readItems_77 : decode cX12_readItems 77 = .ok (.iconst 1, 1) := by decide +kernel
theorem dX12_readItems_78 : decode cX12_readItems 78 = .ok (.iload 6, 2) := by decide +kernel
theorem dX12_readItems_80 : decode cX12_readItems 80 = .ok (.ishl, 1) := by decide +kernel
theorem dX12_readItems_81 : decode cX12_readItems 81 = .ok (.ior, 1) := by decide +kernel
theorem dX12_readItems_82 : decode cX12_readItems 82 = .ok (.istore 5, 2) := by decide +kernel
theorem dX12_readItems_84 : decode cX12_readItems 84 = .ok (.aload_n 0, 1) := by decide +kernel
theorem dX12_readItems_85 : decode cX12_readItems 85 = .ok (.dup, 1) := by decide +kernel
theorem dX12_readItems_86 : decode cX12_readItems 86 = .ok (.getfield 134, 3) := by decide +kernel
theorem dX12_readItems_89 : decode cX12_readItems 89 = .ok (.iconst 1, 1) := by decide +kernel
theorem dX12_readItems_90 : decode cX12_readItems 90 = .ok (.iadd, 1) := by decide +kernel
theorem dX12_readItems_91 : decode cX12_readItems 91 = .ok (.putfield 134, 3) := by decide +kernel
theorem dX12_readItems_94 : decode cX12_readItems 94 = .ok (.aload_n 2, 1) := by decide +kernel
theorem dX12_readItems_95 : decode cX12_readItems 95 = .ok (.iload_n 3, 1) := by decide +kernel
theorem dX12_readItems_96 : decode cX12_readItems 96 = .ok (.iload 6, 2) := by decide +kernel
theorem dX12_readItems_98 : decode cX12_readItems 98 = .ok (.iadd, 1) := by decide +kernel
theorem dX12_readItems_99 : decode cX12_readItems 99 = .ok (.aload_n 0, 1) := by decide +kernel
theorem dX12_readItems_100 : decode cX12_readItems 100 = .ok (.iload_n 1, 1) := by decide +kernel
theorem dX12_readItems_101 : decode cX12_readItems 101 = .ok (.iload 6, 2) := by decide +kernel
theorem dX12_readItems_103 : decode cX12_readItems 103 = .ok (.invokestatic 248, 3) := by decide +kernel
theorem dX12_readItems_106 : decode cX12_readItems 106 = .ok (.iload_n 1, 1) := by decide +kernel
theorem dX12_readItems_107 : decode cX12_readItems 107 = .ok (.iload 6, 2) := by decide +kernel
theorem dX12_readItems_109 : decode cX12_readItems 109 = .ok (.invokestatic 251, 3) := by decide +kernel
theorem dX12_readItems_112 : decode cX12_readItems 112 = .ok (.invokevirtual 254, 3) := by decide +kernel
theorem dX12_readItems_115 : decode cX12_readItems 115 = .ok (.iastore, 1) := by decide +kernel
theorem dX12_readItems_116 : decode cX12_readItems 116 = .ok (.aload_n 0, 1) := by decide +kernel
theorem dX12_readItems_117 : decode cX12_readItems 117 = .ok (.getfield 143, 3) := by decide +kernel
theorem dX12_readItems_120 : decode cX12_readItems 120 = .ok (.iconst (-1), 1) := by decide +kernel
theorem dX12_readItems_121 : decode cX12_readItems 121 = .ok (.if_icmp .ne (-76), 3) := by decide +kernel
theorem dX12_readItems_124 : decode cX12_readItems 124 = .ok (.aload 4, 2) := by decide +kernel
theorem dX12_readItems_126 : decode cX12_readItems 126 = .ok (.aload_n 0, 1) := by decide +kernel
theorem dX12_readItems_127 : decode cX12_readItems 127 = .ok (.invokevirtual 153, 3) := by decide +kernel
theorem dX12_readItems_130 : decode cX12_readItems 130 = .ok (.invokestatic 240, 3) := by decide +kernel
theorem dX12_readItems_133 : decode cX12_readItems 133 = .ok (.istore 6, 2) := by decide +kernel
theorem dX12_readItems_135 : decode cX12_readItems 135 = .ok (.goto (-90), 3) := by decide +kernel
theorem dX12_readItems_138 : decode cX12_readItems 138 = .ok (.return_, 1) := by decide +kernel
theorem dX12_readClause_0 : decode cX12_readClause 0 = .ok (.aload_n 0, 1) := by decide +kernel
theorem dX12_readClause_1 : decode cX12_readClause 1 = .ok (.invokevirtual 153, 3) := by decide +kernel
theorem dX12_readClause_4 : decode cX12_readClause 4 = .ok (.istore_n 1, 1) := by decide +kernel
theorem dX12_readClause_5 : decode cX12_readClause 5 = .ok (.iload_n 1, 1) := by decide +kernel
theorem dX12_readClause_6 : decode cX12_readClause 6 = .ok (.bipush 115, 2) := by decide +kernel
theorem dX12_readClause_8 : decode cX12_readClause 8 = .ok (.if_icmp .ne 10, 3) := by decide +kernel
theorem dX12_readClause_11 : decode cX12_readClause 11 = .ok (.aload_n 0, 1) := by decide +kernel
theorem dX12_readClause_12 : decode cX12_readClause 12 = .ok (.getfield 257, 3) := by decide +kernel
theorem dX12_readClause_15 : decode cX12_readClause 15 = .ok (.ifCond .eq 33, 3) := by decide +kernel
theorem dX12_readClause_18 : decode cX12_readClause 18 = .ok (.iload_n 1, 1) := by decide +kernel
theorem dX12_readClause_19 : decode cX12_readClause 19 = .ok (.bipush 112, 2) := by decide +kernel
theorem dX12_readClause_21 : decode cX12_readClause 21 = .ok (.if_icmp .ne 12, 3) := by decide +kernel
theorem dX12_readClause_24 : decode cX12_readClause 24 = .ok (.aload_n 0, 1) := by decide +kernel
theorem dX12_readClause_25 : decode cX12_readClause 25 = .ok (.getfield 260, 3) := by decide +kernel
theorem dX12_readClause_28 : decode cX12_readClause 28 = .ok (.bipush 6, 2) := by decide +kernel
theorem dX12_readClause_30 : decode cX12_readClause 30 = .ok (.if_icmp .lt 18, 3) := by decide +kernel
theorem dX12_readClause_33 : decode cX12_readClause 33 = .ok (.iload_n 1, 1) := by decide +kernel
theorem dX12_readClause_34 : decode cX12_readClause 34 = .ok (.bipush 102, 2) := by decide +kernel
theorem dX12_readClause_36 : decode cX12_readClause 36 = .ok (.if_icmp .ne 16, 3) := by decide +kernel
theorem dX12_readClause_39 : decode cX12_readClause 39 = .ok (.aload_n 0, 1) := by decide +kernel
theorem dX12_readClause_40 : decode cX12_readClause 40 = .ok (.getfield 263, 3) := by decide +kernel
theorem dX12_readClause_43 : decode cX12_readClause 43 = .ok (.bipush 12, 2) := by decide +kernel
theorem dX12_readClause_45 : decode cX12_readClause 45 = .ok (.if_icmp .ge 7, 3) := by decide +kernel
theorem dX12_readClause_48 : decode cX12_readClause 48 = .ok (.iconst 1, 1) := by decide +kernel
theorem dX12_readClause_49 : decode cX12_readClause 49 = .ok (.goto 4, 3) := by decide +kernel
theorem dX12_readClause_52 : decode cX12_readClause 52 = .ok (.iconst 0, 1) := by decide +kernel
theorem dX12_readClause_53 : decode cX12_readClause 53 = .ok (.istore_n 2, 1) := by decide +kernel
theorem dX12_readClause_54 : decode cX12_readClause 54 = .ok (.iload_n 2, 1) := by decide +kernel
theorem dX12_readClause_55 : decode cX12_readClause 55 = .ok (.ifCond .ne 9, 3) := by decide +kernel
theorem dX12_readClause_58 : decode cX12_readClause 58 = .ok (.aload_n 0, 1) := by decide +kernel
theorem dX12_readClause_59 : decode cX12_readClause 59 = .ok (.invokevirtual 149, 3) := by decide +kernel
theorem dX12_readClause_62 : decode cX12_readClause 62 = .ok (.pop, 1) := by decide +kernel
theorem dX12_readClause_63 : decode cX12_readClause 63 = .ok (.return_, 1) := by decide +kernel
theorem dX12_readClause_64 : decode cX12_readClause 64 = .ok (.aload_n 0, 1) := by decide +kernel
theorem dX12_readClause_65 : decode cX12_readClause 65 = .ok (.dup, 1) := by decide +kernel
theorem dX12_readClause_66 : decode cX12_readClause 66 = .ok (.getfield 134, 3) := by decide +kernel
theorem dX12_readClause_69 : decode cX12_readClause 69 = .ok (.iconst 1, 1) := by decide +kernel
theorem dX12_readClause_70 : decode cX12_readClause 70 = .ok (.iadd, 1) := by decide +kernel
theorem dX12_readClause_71 : decode cX12_readClause 71 = .ok (.putfield 134, 3) := by decide +kernel
theorem dX12_readClause_74 : decode cX12_readClause 74 = .ok (.iload_n 1, 1) := by decide +kernel
theorem dX12_readClause_75 : decode cX12_readClause 75 = .ok (.bipush 115, 2) := by decide +kernel
theorem dX12_readClause_77 : decode cX12_readClause 77 = .ok (.if_icmp .ne 24, 3) := by decide +kernel
theorem dX12_readClause_80 : decode cX12_readClause 80 = .ok (.aload_n 0, 1) := by decide +kernel
theorem dX12_readClause_81 : decode cX12_readClause 81 = .ok (.iconst 1, 1) := by decide +kernel
theorem dX12_readClause_82 : decode cX12_readClause 82 = .ok (.putfield 257, 3) := by decide +kernel
theorem dX12_readClause_85 : decode cX12_readClause 85 = .ok (.aload_n 0, 1) := by decide +kernel
theorem dX12_readClause_86 : decode cX12_readClause 86 = .ok (.iload_n 1, 1) := by decide +kernel
theorem dX12_readClause_87 : decode cX12_readClause 87 = .ok (.aload_n 0, 1) := by decide +kernel
theorem dX12_readClause_88 : decode cX12_readClause 88 = .ok (.getfield 40, 3) := by decide +kernel
theorem dX12_readClause_91 : decode cX12_readClause 91 = .ok (.iconst 0, 1) := by decide +kernel
theorem dX12_readClause_92 : decode cX12_readClause 92 = .ok (.ldc_w 266, 3) := by decide +kernel
theorem dX12_readClause_95 : decode cX12_readClause 95 = .ok (.invokevirtual 268, 3) := by decide +kernel
theorem dX12_readClause_98 : decode cX12_readClause 98 = .ok (.goto 72, 3) := by decide +kernel
theorem dX12_readClause_101 : decode cX12_readClause 101 = .ok (.iload_n 1, 1) := by decide +kernel
theorem dX12_readClause_102 : decode cX12_readClause 102 = .ok (.bipush 112, 2) := by decide +kernel
theorem dX12_readClause_104 : decode cX12_readClause 104 = .ok (.if_icmp .ne 36, 3) := by decide +kernel
theorem dX12_readClause_107 : decode cX12_readClause 107 = .ok (.aload_n 0, 1) := by decide +kernel
theorem dX12_readClause_108 : decode cX12_readClause 108 = .ok (.dup, 1) := by decide +kernel
theorem dX12_readClause_109 : decode cX12_readClause 109 = .ok (.getfield 260, 3) := by decide +kernel
theorem dX12_readClause_112 : decode cX12_readClause 112 = .ok (.iconst 1, 1) := by decide +kernel
theorem dX12_readClause_113 : decode cX12_readClause 113 = .ok (.iadd, 1) := by decide +kernel
theorem dX12_readClause_114 : decode cX12_readClause 114 = .ok (.putfield 260, 3) := by decide +kernel
theorem dX12_readClause_117 : decode cX12_readClause 117 = .ok (.aload_n 0, 1) := by decide +kernel
theorem dX12_readClause_118 : decode cX12_readClause 118 = .ok (.iload_n 1, 1) := by decide +kernel
theorem dX12_readClause_119 : decode cX12_readClause 119 = .ok (.aload_n 0, 1) := by decide +kernel
theorem dX12_readClause_120 : decode cX12_readClause 120 = .ok (.getfield 46, 3) := by decide +kernel
theorem dX12_readClause_123 : decode cX12_readClause 123 = .ok (.iconst 3, 1) := by decide +kernel
theorem dX12_readClause_124 : decode cX12_readClause 124 = .ok (.aload_n 0, 1) := by decide +kernel
theorem dX12_readClause_125 : decode cX12_readClause 125 = .ok (.getfield 260, 3) := by decide +kernel
theorem dX12_readClause_128 : decode cX12_readClause 128 = .ok (.iconst 1, 1) := by decide +kernel
theorem dX12_readClause_129 : decode cX12_readClause 129 = .ok (.isub, 1) := by decide +kernel
theorem dX12_readClause_130 : decode cX12_readClause 130 = .ok (.imul, 1) := by decide +kernel
theorem dX12_readClause_131 : decode cX12_readClause 131 = .ok (.ldc_w 272, 3) := by decide +kernel
theorem dX12_readClause_134 : decode cX12_readClause 134 = .ok (.invokevirtual 268, 3) := by decide +kernel
theorem dX12_readClause_137 : decode cX12_readClause 137 = .ok (.goto 33, 3) := by decide +kernel
theorem dX12_readClause_140 : decode cX12_readClause 140 = .ok (.aload_n 0, 1) := by decide +kernel
theorem dX12_readClause_141 : decode cX12_readClause 141 = .ok (.dup, 1) := by decide +kernel
theorem dX12_readClause_142 : decode cX12_readClause 142 = .ok (.getfield 263, 3) := by decide +kernel
theorem dX12_readClause_145 : decode cX12_readClause 145 = .ok (.iconst 1, 1) := by decide +kernel
theorem dX12_readClause_146 : decode cX12_readClause 146 = .ok (.iadd, 1) := by decide +kernel
theorem dX12_readClause_147 : decode cX12_readClause 147 = .ok (.putfield 263, 3) := by decide +kernel
theorem dX12_readClause_150 : decode cX12_readClause 150 = .ok (.aload_n 0, 1) := by decide +kernel
theorem dX12_readClause_151 : decode cX12_readClause 151 = .ok (.iload_n 1, 1) := by decide +kernel
theorem dX12_readClause_152 : decode cX12_readClause 152 = .ok (.aload_n 0, 1) := by decide +kernel
theorem dX12_readClause_153 : decode cX12_readClause 153 = .ok (.getfield 52, 3) := by decide +kernel
theorem dX12_readClause_156 : decode cX12_readClause 156 = .ok (.iconst 3, 1) := by decide +kernel
theorem dX12_readClause_157 : decode cX12_readClause 157 = .ok (.aload_n 0, 1) := by decide +kernel
theorem dX12_readClause_158 : decode cX12_readClause 158 = .ok (.getfield 263, 3) := by decide +kernel
theorem dX12_readClause_161 : decode cX12_readClause 161 = .ok (.iconst 1, 1) := by decide +kernel
theorem dX12_readClause_162 : decode cX12_readClause 162 = .ok (.isub, 1) := by decide +kernel
theorem dX12_readClause_163 : decode cX12_readClause 163 = .ok (.imul, 1) := by decide +kernel
theorem dX12_readClause_164 : decode cX12_readClause 164 = .ok (.ldc_w 274, 3) := by decide +kernel
theorem dX12_readClause_167 : decode cX12_readClause 167 = .ok (.invokevirtual 268, 3) := by decide +kernel
theorem dX12_readClause_170 : decode cX12_readClause 170 = .ok (.return_, 1) := by decide +kernel
theorem dX12_readVillage_0 : decode cX12_readVillage 0 = .ok (.aload_n 0, 1) := by decide +kernel
theorem dX12_readVillage_1 : decode cX12_readVillage 1 = .ok (.aload_n 0, 1) := by decide +kernel
theorem dX12_readVillage_2 : decode cX12_readVillage 2 = .ok (.getfield 9, 3) := by decide +kernel
theorem dX12_readVillage_5 : decode cX12_readVillage 5 = .ok (.iconst 0, 1) := by decide +kernel
theorem dX12_readVillage_6 : decode cX12_readVillage 6 = .ok (.aload_n 0, 1) := by decide +kernel
theorem dX12_readVillage_7 : decode cX12_readVillage 7 = .ok (.getfield 124, 3) := by decide +kernel
theorem dX12_readVillage_10 : decode cX12_readVillage 10 = .ok (.invokevirtual 222, 3) := by decide +kernel
theorem dX12_readVillage_13 : decode cX12_readVillage 13 = .ok (.aload_n 0, 1) := by decide +kernel
theorem dX12_readVillage_14 : decode cX12_readVillage 14 = .ok (.iconst 0, 1) := by decide +kernel
theorem dX12_readVillage_15 : decode cX12_readVillage 15 = .ok (.putfield 260, 3) := by decide +kernel
theorem dX12_readVillage_18 : decode cX12_readVillage 18 = .ok (.aload_n 0, 1) := by decide +kernel
theorem dX12_readVillage_19 : decode cX12_readVillage 19 = .ok (.iconst 0, 1) := by decide +kernel
theorem dX12_readVillage_20 : decode cX12_readVillage 20 = .ok (.putfield 263, 3) := by decide +kernel
theorem dX12_readVillage_23 : decode cX12_readVillage 23 = .ok (.aload_n 0, 1) := by decide +kernel
theorem dX12_readVillage_24 : decode cX12_readVillage 24 = .ok (.iconst 0, 1) := by decide +kernel
theorem dX12_readVillage_25 : decode cX12_readVillage 25 = .ok (.putfield 257, 3) := by decide +kernel
theorem dX12_readVillage_28 : decode cX12_readVillage 28 = .ok (.iconst 0, 1) := by decide +kernel
theorem dX12_readVillage_29 : decode cX12_readVillage 29 = .ok (.istore_n 1, 1) := by decide +kernel
theorem dX12_readVillage_30 : decode cX12_readVillage 30 = .ok (.iload_n 1, 1) := by decide +kernel
theorem dX12_readVillage_31 : decode cX12_readVillage 31 = .ok (.iconst 2, 1) := by decide +kernel
theorem dX12_readVillage_32 : decode cX12_readVillage 32 = .ok (.if_icmp .ge 21, 3) := by decide +kernel
theorem dX12_readVillage_35 : decode cX12_readVillage 35 = .ok (.aload_n 0, 1) := by decide +kernel
theorem dX12_readVillage_36 : decode cX12_readVillage 36 = .ok (.getfield 40, 3) := by decide +kernel
theorem dX12_readVillage_39 : decode cX12_readVillage 39 = .ok (.iload_n 1, 1) := by decide +kernel
theorem dX12_readVillage_40 : decode cX12_readVillage 40 = .ok (.bipush 115, 2) := by decide +kernel
theorem dX12_readVillage_42 : decode cX12_readVillage 42 = .ok (.iload_n 1, 1) := by decide +kernel
theorem dX12_readVillage_43 : decode cX12_readVillage 43 = .ok (.invokestatic 236, 3) := by decide +kernel
theorem dX12_readVillage_46 : decode cX12_readVillage 46 = .ok (.iastore, 1) := by decide +kernel
theorem dX12_readVillage_47 : decode cX12_readVillage 47 = .ok (.iinc 1 1, 3) := by decide +kernel
theorem dX12_readVillage_50 : decode cX12_readVillage 50 = .ok (.goto (-20), 3) := by decide +kernel
theorem dX12_readVillage_53 : decode cX12_readVillage 53 = .ok (.iconst 1, 1) := by decide +kernel
theorem dX12_readVillage_54 : decode cX12_readVillage 54 = .ok (.istore_n 1, 1) := by decide +kernel
theorem dX12_readVillage_55 : decode cX12_readVillage 55 = .ok (.iload_n 1, 1) := by decide +kernel
theorem dX12_readVillage_56 : decode cX12_readVillage 56 = .ok (.ifCond .eq 55, 3) := by decide +kernel
theorem dX12_readVillage_59 : decode cX12_readVillage 59 = .ok (.aload_n 0, 1) := by decide +kernel
theorem dX12_readVillage_60 : decode cX12_readVillage 60 = .ok (.getfield 143, 3) := by decide +kernel
theorem dX12_readVillage_63 : decode cX12_readVillage 63 = .ok (.iconst (-1), 1) := by decide +kernel
theorem dX12_readVillage_64 : decode cX12_readVillage 64 = .ok (.if_icmp .ne 47, 3) := by decide +kernel
theorem dX12_readVillage_67 : decode cX12_readVillage 67 = .ok (.aload_n 0, 1) := by decide +kernel
theorem dX12_readVillage_68 : decode cX12_readVillage 68 = .ok (.invokevirtual 282, 3) := by decide +kernel
theorem dX12_readVillage_71 : decode cX12_readVillage 71 = .ok (.aload_n 0, 1) := by decide +kernel
theorem dX12_readVillage_72 : decode cX12_readVillage 72 = .ok (.getfield 143, 3) := by decide +kernel
theorem dX12_readVillage_75 : decode cX12_readVillage 75 = .ok (.iconst (-1), 1) := by decide +kernel
theorem dX12_readVillage_76 : decode cX12_readVillage 76 = .ok (.if_icmp .ne 16, 3) := by decide +kernel
theorem dX12_readVillage_79 : decode cX12_readVillage 79 = .ok (.aload_n 0, 1) := by decide +kernel
theorem dX12_readVillage_80 : decode cX12_readVillage 80 = .ok (.invokevirtual 153, 3) := by decide +kernel
theorem dX12_readVillage_83 : decode cX12_readVillage 83 = .ok (.bipush 59, 2) := by decide +kernel
theorem dX12_readVillage_85 : decode cX12_readVillage 85 = .ok (.if_icmp .ne 7, 3) := by decide +kernel
theorem dX12_readVillage_88 : decode cX12_readVillage 88 = .ok (.iconst 1, 1) := by decide +kernel
theorem dX12_readVillage_89 : decode cX12_readVillage 89 = .ok (.goto 4, 3) := by decide +kernel
theorem dX12_readVillage_92 : decode cX12_readVillage 92 = .ok (.iconst 0, 1) := by decide +kernel
theorem dX12_readVillage_93 : decode cX12_readVillage 93 = .ok (.istore_n 1, 1) := by decide +kernel
theorem dX12_readVillage_94 : decode cX12_readVillage 94 = .ok (.iload_n 1, 1) := by decide +kernel
theorem dX12_readVillage_95 : decode cX12_readVillage 95 = .ok (.ifCond .eq (-40), 3) := by decide +kernel
theorem dX12_readVillage_98 : decode cX12_readVillage 98 = .ok (.aload_n 0, 1) := by decide +kernel
theorem dX12_readVillage_99 : decode cX12_readVillage 99 = .ok (.dup, 1) := by decide +kernel
theorem dX12_readVillage_100 : decode cX12_readVillage 100 = .ok (.getfield 134, 3) := by decide +kernel
theorem dX12_readVillage_103 : decode cX12_readVillage 103 = .ok (.iconst 1, 1) := by decide +kernel
theorem dX12_readVillage_104 : decode cX12_readVillage 104 = .ok (.iadd, 1) := by decide +kernel
theorem dX12_readVillage_105 : decode cX12_readVillage 105 = .ok (.putfield 134, 3) := by decide +kernel
theorem dX12_readVillage_108 : decode cX12_readVillage 108 = .ok (.goto (-53), 3) := by decide +kernel
theorem dX12_readVillage_111 : decode cX12_readVillage 111 = .ok (.aload_n 0, 1) := by decide +kernel
theorem dX12_readVillage_112 : decode cX12_readVillage 112 = .ok (.getfield 143, 3) := by decide +kernel
theorem dX12_readVillage_115 : decode cX12_readVillage 115 = .ok (.iconst (-1), 1) := by decide +kernel
theorem dX12_readVillage_116 : decode cX12_readVillage 116 = .ok (.if_icmp .ne 23, 3) := by decide +kernel
theorem dX12_readVillage_119 : decode cX12_readVillage 119 = .ok (.aload_n 0, 1) := by decide +kernel
theorem dX12_readVillage_120 : decode cX12_readVillage 120 = .ok (.invokevirtual 153, 3) := by decide +kernel
theorem dX12_readVillage_123 : decode cX12_readVillage 123 = .ok (.iconst (-1), 1) := by decide +kernel
theorem dX12_readVillage_124 : decode cX12_readVillage 124 = .ok (.if_icmp .ne 10, 3) := by decide +kernel
theorem dX12_readVillage_127 : decode cX12_readVillage 127 = .ok (.aload_n 0, 1) := by decide +kernel
theorem dX12_readVillage_128 : decode cX12_readVillage 128 = .ok (.invokevirtual 285, 3) := by decide +kernel
theorem dX12_readVillage_131 : decode cX12_readVillage 131 = .ok (.ifCond .ne 8, 3) := by decide +kernel
theorem dX12_readVillage_134 : decode cX12_readVillage 134 = .ok (.aload_n 0, 1) := by decide +kernel
theorem dX12_readVillage_135 : decode cX12_readVillage 135 = .ok (.invokevirtual 149, 3) := by decide +kernel
theorem dX12_readVillage_138 : decode cX12_readVillage 138 = .ok (.pop, 1) := by decide +kernel
theorem dX12_readVillage_139 : decode cX12_readVillage 139 = .ok (.return_, 1) := by decide +kernel
theorem dX12_fault_0 : decode cX12_fault 0 = .ok (.aload_n 0, 1) := by decide +kernel
theorem dX12_fault_1 : decode cX12_fault 1 = .ok (.iconst 0, 1) := by decide +kernel
theorem dX12_fault_2 : decode cX12_fault 2 = .ok (.putfield 111, 3) := by decide +kernel
theorem dX12_fault_5 : decode cX12_fault 5 = .ok (.iload_n 1, 1) := by decide +kernel
theorem dX12_fault_6 : decode cX12_fault 6 = .ok (.i2l, 1) := by decide +kernel
theorem dX12_fault_7 : decode cX12_fault 7 = .ok (.lconst 0, 1) := by decide +kernel
theorem dX12_fault_8 : decode cX12_fault 8 = .ok (.ldc2_w 288, 3) := by decide +kernel
theorem dX12_fault_11 : decode cX12_fault 11 = .ok (.invokestatic 232, 3) := by decide +kernel
theorem dX12_fault_14 : decode cX12_fault 14 = .ok (.ifCond .ne 6, 3) := by decide +kernel
theorem dX12_fault_17 : decode cX12_fault 17 = .ok (.bipush (-2), 2) := by decide +kernel
theorem dX12_fault_19 : decode cX12_fault 19 = .ok (.ireturn, 1) := by decide +kernel
theorem dX12_fault_20 : decode cX12_fault 20 = .ok (.iload_n 1, 1) := by decide +kernel
theorem dX12_fault_21 : decode cX12_fault 21 = .ok (.ifCond .ne 7, 3) := by decide +kernel
theorem dX12_fault_24 : decode cX12_fault 24 = .ok (.aload_n 0, 1) := by decide +kernel
theorem dX12_fault_25 : decode cX12_fault 25 = .ok (.invokevirtual 290, 3) := by decide +kernel
theorem dX12_fault_28 : decode cX12_fault 28 = .ok (.iload_n 1, 1) := by decide +kernel
theorem dX12_fault_29 : decode cX12_fault 29 = .ok (.iconst 1, 1) := by decide +kernel
theorem dX12_fault_30 : decode cX12_fault 30 = .ok (.if_icmp .ne 16, 3) := by decide +kernel
theorem dX12_fault_33 : decode cX12_fault 33 = .ok (.aload_n 0, 1) := by decide +kernel
theorem dX12_fault_34 : decode cX12_fault 34 = .ok (.aload_n 0, 1) := by decide +kernel
theorem dX12_fault_35 : decode cX12_fault 35 = .ok (.getfield 9, 3) := by decide +kernel
theorem dX12_fault_38 : decode cX12_fault 38 = .ok (.iconst 0, 1) := by decide +kernel
theorem dX12_fault_39 : decode cX12_fault 39 = .ok (.aload_n 0, 1) := by decide +kernel
theorem dX12_fault_40 : decode cX12_fault 40 = .ok (.getfield 124, 3) := by decide +kernel
theorem dX12_fault_43 : decode cX12_fault 43 = .ok (.invokevirtual 293, 3) := by decide +kernel
theorem dX12_fault_46 : decode cX12_fault 46 = .ok (.iload_n 1, 1) := by decide +kernel
theorem dX12_fault_47 : decode cX12_fault 47 = .ok (.iconst 2, 1) := by decide +kernel
theorem dX12_fault_48 : decode cX12_fault 48 = .ok (.if_icmp .ne 7, 3) := by decide +kernel
theorem dX12_fault_51 : decode cX12_fault 51 = .ok (.aload_n 0, 1) := by decide +kernel
theorem dX12_fault_52 : decode cX12_fault 52 = .ok (.invokevirtual 296, 3) := by decide +kernel
theorem dX12_fault_55 : decode cX12_fault 55 = .ok (.aload_n 0, 1) := by decide +kernel
theorem dX12_fault_56 : decode cX12_fault 56 = .ok (.getfield 143, 3) := by decide +kernel
theorem dX12_fault_59 : decode cX12_fault 59 = .ok (.ireturn, 1) := by decide +kernel
theorem dX12_put_0 : decode cX12_put 0 = .ok (.bipush 24, 2) := by decide +kernel
theorem dX12_put_2 : decode cX12_put 2 = .ok (.istore_n 2, 1) := by decide +kernel
theorem dX12_put_3 : decode cX12_put 3 = .ok (.iload_n 2, 1) := by decide +kernel
theorem dX12_put_4 : decode cX12_put 4 = .ok (.ifCond .lt 45, 3) := by decide +kernel
theorem dX12_put_7 : decode cX12_put 7 = .ok (.iload_n 1, 1) := by decide +kernel
theorem dX12_put_8 : decode cX12_put 8 = .ok (.iload_n 2, 1) := by decide +kernel
theorem dX12_put_9 : decode cX12_put 9 = .ok (.ishr, 1) := by decide +kernel
theorem dX12_put_10 : decode cX12_put 10 = .ok (.sipush 255, 3) := by decide +kernel
theorem dX12_put_13 : decode cX12_put 13 = .ok (.iand, 1) := by decide +kernel
theorem dX12_put_14 : decode cX12_put 14 = .ok (.ifCond .ne 6, 3) := by decide +kernel
theorem dX12_put_17 : decode cX12_put 17 = .ok (.goto 26, 3) := by decide +kernel
theorem dX12_put_20 : decode cX12_put 20 = .ok (.aload_n 0, 1) := by decide +kernel
theorem dX12_put_21 : decode cX12_put 21 = .ok (.getfield 9, 3) := by decide +kernel
theorem dX12_put_24 : decode cX12_put 24 = .ok (.aload_n 0, 1) := by decide +kernel
theorem dX12_put_25 : decode cX12_put 25 = .ok (.getfield 124, 3) := by decide +kernel
theorem dX12_put_28 : decode cX12_put 28 = .ok (.iload_n 1, 1) := by decide +kernel
theorem dX12_put_29 : decode cX12_put 29 = .ok (.iload_n 2, 1) := by decide +kernel
theorem dX12_put_30 : decode cX12_put 30 = .ok (.ishr, 1) := by decide +kernel
theorem dX12_put_31 : decode cX12_put 31 = .ok (.i2b, 1) := by decide +kernel
theorem dX12_put_32 : decode cX12_put 32 = .ok (.bastore, 1) := by decide +kernel
theorem dX12_put_33 : decode cX12_put 33 = .ok (.aload_n 0, 1) := by decide +kernel
theorem dX12_put_34 : decode cX12_put 34 = .ok (.dup, 1) := by decide +kernel
theorem dX12_put_35 : decode cX12_put 35 = .ok (.getfield 124, 3) := by decide +kernel
theorem dX12_put_38 : decode cX12_put 38 = .ok (.iconst 1, 1) := by decide +kernel
theorem dX12_put_39 : decode cX12_put 39 = .ok (.iadd, 1) := by decide +kernel
theorem dX12_put_40 : decode cX12_put 40 = .ok (.putfield 124, 3) := by decide +kernel
theorem dX12_put_43 : decode cX12_put 43 = .ok (.iinc 2 (-8), 3) := by decide +kernel
theorem dX12_put_46 : decode cX12_put 46 = .ok (.goto (-43), 3) := by decide +kernel
theorem dX12_put_49 : decode cX12_put 49 = .ok (.return_, 1) := by decide +kernel
theorem dX12_feed_0 : decode cX12_feed 0 = .ok (.aload_n 0, 1) := by decide +kernel
theorem dX12_feed_1 : decode cX12_feed 1 = .ok (.iconst 0, 1) := by decide +kernel
theorem dX12_feed_2 : decode cX12_feed 2 = .ok (.putfield 111, 3) := by decide +kernel
theorem dX12_feed_5 : decode cX12_feed 5 = .ok (.aload_n 0, 1) := by decide +kernel
theorem dX12_feed_6 : decode cX12_feed 6 = .ok (.getfield 124, 3) := by decide +kernel
theorem dX12_feed_9 : decode cX12_feed 9 = .ok (.iload_n 1, 1) := by decide +kernel
theorem dX12_feed_10 : decode cX12_feed 10 = .ok (.invokestatic 126, 3) := by decide +kernel
theorem dX12_feed_13 : decode cX12_feed 13 = .ok (.iadd, 1) := by decide +kernel
theorem dX12_feed_14 : decode cX12_feed 14 = .ok (.iload_n 2, 1) := by decide +kernel
theorem dX12_feed_15 : decode cX12_feed 15 = .ok (.invokestatic 126, 3) := by decide +kernel
theorem dX12_feed_18 : decode cX12_feed 18 = .ok (.iadd, 1) := by decide +kernel
theorem dX12_feed_19 : decode cX12_feed 19 = .ok (.iload_n 3, 1) := by decide +kernel
theorem dX12_feed_20 : decode cX12_feed 20 = .ok (.invokestatic 126, 3) := by decide +kernel
theorem dX12_feed_23 : decode cX12_feed 23 = .ok (.iadd, 1) := by decide +kernel
theorem dX12_feed_24 : decode cX12_feed 24 = .ok (.iload 4, 2) := by decide +kernel
theorem dX12_feed_26 : decode cX12_feed 26 = .ok (.invokestatic 126, 3) := by decide +kernel
theorem dX12_feed_29 : decode cX12_feed 29 = .ok (.iadd, 1) := by decide +kernel
theorem dX12_feed_30 : decode cX12_feed 30 = .ok (.iload 5, 2) := by decide +kernel
theorem dX12_feed_32 : decode cX12_feed 32 = .ok (.invokestatic 126, 3) := by decide +kernel
theorem dX12_feed_35 : decode cX12_feed 35 = .ok (.iadd, 1) := by decide +kernel
theorem dX12_feed_36 : decode cX12_feed 36 = .ok (.sipush 240, 3) := by decide +kernel
theorem dX12_feed_39 : decode cX12_feed 39 = .ok (.if_icmp .le 5, 3) := by decide +kernel
theorem dX12_feed_42 : decode cX12_feed 42 = .ok (.iconst (-1), 1) := by decide +kernel
theorem dX12_feed_43 : decode cX12_feed 43 = .ok (.ireturn, 1) := by decide +kernel
theorem dX12_feed_44 : decode cX12_feed 44 = .ok (.aload_n 0, 1) := by decide +kernel
theorem dX12_feed_45 : decode cX12_feed 45 = .ok (.iload_n 1, 1) := by decide +kernel
theorem dX12_feed_46 : decode cX12_feed 46 = .ok (.invokevirtual 130, 3) := by decide +kernel
theorem dX12_feed_49 : decode cX12_feed 49 = .ok (.aload_n 0, 1) := by decide +kernel
theorem dX12_feed_50 : decode cX12_feed 50 = .ok (.iload_n 2, 1) := by decide +kernel
theorem dX12_feed_51 : decode cX12_feed 51 = .ok (.invokevirtual 130, 3) := by decide +kernel
theorem dX12_feed_54 : decode cX12_feed 54 = .ok (.aload_n 0, 1) := by decide +kernel
theorem dX12_feed_55 : decode cX12_feed 55 = .ok (.iload_n 3, 1) := by decide +kernel
theorem dX12_feed_56 : decode cX12_feed 56 = .ok (.invokevirtual 130, 3) := by decide +kernel
theorem dX12_feed_59 : decode cX12_feed 59 = .ok (.aload_n 0, 1) := by decide +kernel
theorem dX12_feed_60 : decode cX12_feed 60 = .ok (.iload 4, 2) := by decide +kernel
theorem dX12_feed_62 : decode cX12_feed 62 = .ok (.invokevirtual 130, 3) := by decide +kernel
theorem dX12_feed_65 : decode cX12_feed 65 = .ok (.aload_n 0, 1) := by decide +kernel
theorem dX12_feed_66 : decode cX12_feed 66 = .ok (.iload 5, 2) := by decide +kernel
theorem dX12_feed_68 : decode cX12_feed 68 = .ok (.invokevirtual 130, 3) := by decide +kernel
theorem dX12_feed_71 : decode cX12_feed 71 = .ok (.aload_n 0, 1) := by decide +kernel
theorem dX12_feed_72 : decode cX12_feed 72 = .ok (.getfield 124, 3) := by decide +kernel
theorem dX12_feed_75 : decode cX12_feed 75 = .ok (.ireturn, 1) := by decide +kernel
theorem dX12_meets_0 : decode cX12_meets 0 = .ok (.iconst 0, 1) := by decide +kernel
theorem dX12_meets_1 : decode cX12_meets 1 = .ok (.istore_n 2, 1) := by decide +kernel
theorem dX12_meets_2 : decode cX12_meets 2 = .ok (.iload_n 2, 1) := by decide +kernel
theorem dX12_meets_3 : decode cX12_meets 3 = .ok (.aload_n 0, 1) := by decide +kernel
theorem dX12_meets_4 : decode cX12_meets 4 = .ok (.getfield 447, 3) := by decide +kernel
theorem dX12_meets_7 : decode cX12_meets 7 = .ok (.if_icmp .ge 61, 3) := by decide +kernel
theorem dX12_meets_10 : decode cX12_meets 10 = .ok (.iconst 1, 1) := by decide +kernel
theorem dX12_meets_11 : decode cX12_meets 11 = .ok (.istore_n 3, 1) := by decide +kernel
theorem dX12_meets_12 : decode cX12_meets 12 = .ok (.iconst 0, 1) := by decide +kernel
theorem dX12_meets_13 : decode cX12_meets 13 = .ok (.istore 4, 2) := by decide +kernel
theorem dX12_meets_15 : decode cX12_meets 15 = .ok (.iload 4, 2) := by decide +kernel
theorem dX12_meets_17 : decode cX12_meets 17 = .ok (.bipush 36, 2) := by decide +kernel
theorem dX12_meets_19 : decode cX12_meets 19 = .ok (.if_icmp .ge 38, 3) := by decide +kernel
theorem dX12_meets_22 : decode cX12_meets 22 = .ok (.iload_n 3, 1) := by decide +kernel
theorem dX12_meets_23 : decode cX12_meets 23 = .ok (.ifCond .eq 34, 3) := by decide +kernel
theorem dX12_meets_26 : decode cX12_meets 26 = .ok (.aload_n 0, 1) := by decide +kernel
theorem dX12_meets_27 : decode cX12_meets 27 = .ok (.getfield 90, 3) := by decide +kernel
theorem dX12_meets_30 : decode cX12_meets 30 = .ok (.bipush 36, 2) := by decide +kernel
theorem dX12_meets_32 : decode cX12_meets 32 = .ok (.iload_n 2, 1) := by decide +kernel
theorem dX12_meets_33 : decode cX12_meets 33 = .ok (.imul, 1) := by decide +kernel
theorem dX12_meets_34 : decode cX12_meets 34 = .ok (.iload 4, 2) := by decide +kernel
theorem dX12_meets_36 : decode cX12_meets 36 = .ok (.iadd, 1) := by decide +kernel
theorem dX12_meets_37 : decode cX12_meets 37 = .ok (.iaload, 1) := by decide +kernel
theorem dX12_meets_38 : decode cX12_meets 38 = .ok (.aload_n 1, 1) := by decide +kernel
theorem dX12_meets_39 : decode cX12_meets 39 = .ok (.iload 4, 2) := by decide +kernel
theorem dX12_meets_41 : decode cX12_meets 41 = .ok (.iaload, 1) := by decide +kernel
theorem dX12_meets_42 : decode cX12_meets 42 = .ok (.if_icmp .ne 7, 3) := by decide +kernel
theorem dX12_meets_45 : decode cX12_meets 45 = .ok (.iconst 1, 1) := by decide +kernel
theorem dX12_meets_46 : decode cX12_meets 46 = .ok (.goto 4, 3) := by decide +kernel
theorem dX12_meets_49 : decode cX12_meets 49 = .ok (.iconst 0, 1) := by decide +kernel
theorem dX12_meets_50 : decode cX12_meets 50 = .ok (.istore_n 3, 1) := by decide +kernel
theorem dX12_meets_51 : decode cX12_meets 51 = .ok (.iinc 4 1, 3) := by decide +kernel
theorem dX12_meets_54 : decode cX12_meets 54 = .ok (.goto (-39), 3) := by decide +kernel
theorem dX12_meets_57 : decode cX12_meets 57 = .ok (.iload_n 3, 1) := by decide +kernel
theorem dX12_meets_58 : decode cX12_meets 58 = .ok (.ifCond .eq 4, 3) := by decide +kernel
theorem dX12_meets_61 : decode cX12_meets 61 = .ok (.return_, 1) := by decide +kernel
theorem dX12_meets_62 : decode cX12_meets 62 = .ok (.iinc 2 1, 3) := by decide +kernel
theorem dX12_meets_65 : decode cX12_meets 65 = .ok (.goto (-63), 3) := by decide +kernel
theorem dX12_meets_68 : decode cX12_meets 68 = .ok (.iconst 0, 1) := by decide +kernel
theorem dX12_meets_69 : decode cX12_meets 69 = .ok (.istore_n 2, 1) := by decide +kernel
theorem dX12_meets_70 : decode cX12_meets 70 = .ok (.iload_n 2, 1) := by decide +kernel
theorem dX12_meets_71 : decode cX12_meets 71 = .ok (.bipush 36, 2) := by decide +kernel
theorem dX12_meets_73 : decode cX12_meets 73 = .ok (.if_icmp .ge 26, 3) := by decide +kernel
theorem dX12_meets_76 : decode cX12_meets 76 = .ok (.aload_n 0, 1) := by decide +kernel
theorem dX12_meets_77 : decode cX12_meets 77 = .ok (.getfield 90, 3) := by decide +kernel
theorem dX12_meets_80 : decode cX12_meets 80 = .ok (.bipush 36, 2) := by decide +kernel
theorem dX12_meets_82 : decode cX12_meets 82 = .ok (.aload_n 0, 1) := by decide +kernel
theorem dX12_meets_83 : decode cX12_meets 83 = .ok (.getfield 447, 3) := by decide +kernel
theorem dX12_meets_86 : decode cX12_meets 86 = .ok (.imul, 1) := by decide +kernel
theorem dX12_meets_87 : decode cX12_meets 87 = .ok (.iload_n 2, 1) := by decide +kernel
theorem dX12_meets_88 : decode cX12_meets 88 = .ok (.iadd, 1) := by decide +kernel
theorem dX12_meets_89 : decode cX12_meets 89 = .ok (.aload_n 1, 1) := by decide +kernel
theorem dX12_meets_90 : decode cX12_meets 90 = .ok (.iload_n 2, 1) := by decide +kernel
theorem dX12_meets_91 : decode cX12_meets 91 = .ok (.iaload, 1) := by decide +kernel
theorem dX12_meets_92 : decode cX12_meets 92 = .ok (.iastore, 1) := by decide +kernel
theorem dX12_meets_93 : decode cX12_meets 93 = .ok (.iinc 2 1, 3) := by decide +kernel
theorem dX12_meets_96 : decode cX12_meets 96 = .ok (.goto (-26), 3) := by decide +kernel
theorem dX12_meets_99 : decode cX12_meets 99 = .ok (.aload_n 0, 1) := by decide +kernel
theorem dX12_meets_100 : decode cX12_meets 100 = .ok (.dup, 1) := by decide +kernel
theorem dX12_meets_101 : decode cX12_meets 101 = .ok (.getfield 447, 3) := by decide +kernel
theorem dX12_meets_104 : decode cX12_meets 104 = .ok (.iconst 1, 1) := by decide +kernel
theorem dX12_meets_105 : decode cX12_meets 105 = .ok (.iadd, 1) := by decide +kernel
theorem dX12_meets_106 : decode cX12_meets 106 = .ok (.putfield 447, 3) := by decide +kernel
theorem dX12_meets_109 : decode cX12_meets 109 = .ok (.return_, 1) := by decide +kernel
theorem dX12_tries_0 : decode cX12_tries 0 = .ok (.aload_n 0, 1) := by decide +kernel
theorem dX12_tries_1 : decode cX12_tries 1 = .ok (.getfield 450, 3) := by decide +kernel
theorem dX12_tries_4 : decode cX12_tries 4 = .ok (.ifCond .ne 12, 3) := by decide +kernel
theorem dX12_tries_7 : decode cX12_tries 7 = .ok (.aload_n 0, 1) := by decide +kernel
theorem dX12_tries_8 : decode cX12_tries 8 = .ok (.aload_n 0, 1) := by decide +kernel
theorem dX12_tries_9 : decode cX12_tries 9 = .ok (.getfield 64, 3) := by decide +kernel
theorem dX12_tries_12 : decode cX12_tries 12 = .ok (.invokevirtual 453, 3) := by decide +kernel
theorem dX12_tries_15 : decode cX12_tries 15 = .ok (.return_, 1) := by decide +kernel
theorem dX12_tries_16 : decode cX12_tries 16 = .ok (.aload_n 0, 1) := by decide +kernel
theorem dX12_tries_17 : decode cX12_tries 17 = .ok (.getfield 450, 3) := by decide +kernel
theorem dX12_tries_20 : decode cX12_tries 20 = .ok (.iconst 1, 1) := by decide +kernel
theorem dX12_tries_21 : decode cX12_tries 21 = .ok (.if_icmp .ne 42, 3) := by decide +kernel
theorem dX12_tries_24 : decode cX12_tries 24 = .ok (.aload_n 0, 1) := by decide +kernel
theorem dX12_tries_25 : decode cX12_tries 25 = .ok (.aload_n 0, 1) := by decide +kernel
theorem dX12_tries_26 : decode cX12_tries 26 = .ok (.getfield 64, 3) := by decide +kernel
theorem dX12_tries_29 : decode cX12_tries 29 = .ok (.invokevirtual 366, 3) := by decide +kernel
theorem dX12_tries_32 : decode cX12_tries 32 = .ok (.ifCond .ne 19, 3) := by decide +kernel
theorem dX12_tries_35 : decode cX12_tries 35 = .ok (.aload_n 0, 1) := by decide +kernel
theorem dX12_tries_36 : decode cX12_tries 36 = .ok (.getfield 456, 3) := by decide +kernel
theorem dX12_tries_39 : decode cX12_tries 39 = .ok (.iconst (-1), 1) := by decide +kernel
theorem dX12_tries_40 : decode cX12_tries 40 = .ok (.if_icmp .eq 12, 3) := by decide +kernel
theorem dX12_tries_43 : decode cX12_tries 43 = .ok (.iload_n 1, 1) := by decide +kernel
theorem dX12_tries_44 : decode cX12_tries 44 = .ok (.aload_n 0, 1) := by decide +kernel
theorem dX12_tries_45 : decode cX12_tries 45 = .ok (.getfield 456, 3) := by decide +kernel
theorem dX12_tries_48 : decode cX12_tries 48 = .ok (.if_icmp .lt 4, 3) := by decide +kernel
theorem dX12_tries_51 : decode cX12_tries 51 = .ok (.return_, 1) := by decide +kernel
theorem dX12_tries_52 : decode cX12_tries 52 = .ok (.aload_n 0, 1) := by decide +kernel
theorem dX12_tries_53 : decode cX12_tries 53 = .ok (.iload_n 1, 1) := by decide +kernel
theorem dX12_tries_54 : decode cX12_tries 54 = .ok (.putfield 456, 3) := by decide +kernel
theorem dX12_tries_57 : decode cX12_tries 57 = .ok (.aload_n 0, 1) := by decide +kernel
theorem dX12_tries_58 : decode cX12_tries 58 = .ok (.iload_n 2, 1) := by decide +kernel
theorem dX12_tries_59 : decode cX12_tries 59 = .ok (.putfield 459, 3) := by decide +kernel
theorem dX12_tries_62 : decode cX12_tries 62 = .ok (.return_, 1) := by decide +kernel
theorem dX12_tries_63 : decode cX12_tries 63 = .ok (.aload_n 0, 1) := by decide +kernel
theorem dX12_tries_64 : decode cX12_tries 64 = .ok (.aload_n 0, 1) := by decide +kernel
theorem dX12_tries_65 : decode cX12_tries 65 = .ok (.getfield 64, 3) := by decide +kernel
theorem dX12_tries_68 : decode cX12_tries 68 = .ok (.invokevirtual 363, 3) := by decide +kernel
theorem dX12_tries_71 : decode cX12_tries 71 = .ok (.istore_n 3, 1) := by decide +kernel
theorem dX12_tries_72 : decode cX12_tries 72 = .ok (.aload_n 0, 1) := by decide +kernel
theorem dX12_tries_73 : decode cX12_tries 73 = .ok (.getfield 456, 3) := by decide +kernel
theorem dX12_tries_76 : decode cX12_tries 76 = .ok (.iconst (-1), 1) := by decide +kernel
theorem dX12_tries_77 : decode cX12_tries 77 = .ok (.if_icmp .eq 28, 3) := by decide +kernel
theorem dX12_tries_80 : decode cX12_tries 80 = .ok (.iload_n 3, 1) := by decide +kernel
theorem dX12_tries_81 : decode cX12_tries 81 = .ok (.aload_n 0, 1) := by decide +kernel
theorem dX12_tries_82 : decode cX12_tries 82 = .ok (.getfield 462, 3) := by decide +kernel
theorem dX12_tries_85 : decode cX12_tries 85 = .ok (.if_icmp .gt 19, 3) := by decide +kernel
theorem dX12_tries_88 : decode cX12_tries 88 = .ok (.iload_n 3, 1) := by decide +kernel
theorem dX12_tries_89 : decode cX12_tries 89 = .ok (.aload_n 0, 1) := by decide +kernel
theorem dX12_tries_90 : decode cX12_tries 90 = .ok (.getfield 462, 3) := by decide +kernel
theorem dX12_tries_93 : decode cX12_tries 93 = .ok (.if_icmp .ne 12, 3) := by decide +kernel
theorem dX12_tries_96 : decode cX12_tries 96 = .ok (.iload_n 1, 1) := by decide +kernel
theorem dX12_tries_97 : decode cX12_tries 97 = .ok (.aload_n 0, 1) := by decide +kernel
theorem dX12_tries_98 : decode cX12_tries 98 = .ok (.getfield 456, 3) := by decide +kernel
theorem dX12_tries_101 : decode cX12_tries 101 = .ok (.if_icmp .lt 4, 3) := by decide +kernel
theorem dX12_tries_104 : decode cX12_tries 104 = .ok (.return_, 1) := by decide +kernel
theorem dX12_tries_105 : decode cX12_tries 105 = .ok (.aload_n 0, 1) := by decide +kernel
theorem dX12_tries_106 : decode cX12_tries 106 = .ok (.iload_n 1, 1) := by decide +kernel
theorem dX12_tries_107 : decode cX12_tries 107 = .ok (.putfield 456, 3) := by decide +kernel
theorem dX12_tries_110 : decode cX12_tries 110 = .ok (.aload_n 0, 1) := by decide +kernel
theorem dX12_tries_111 : decode cX12_tries 111 = .ok (.iload_n 3, 1) := by decide +kernel
theorem dX12_tries_112 : decode cX12_tries 112 = .ok (.putfield 462, 3) := by decide +kernel
theorem dX12_tries_115 : decode cX12_tries 115 = .ok (.aload_n 0, 1) := by decide +kernel
theorem dX12_tries_116 : decode cX12_tries 116 = .ok (.iload_n 2, 1) := by decide +kernel
theorem dX12_tries_117 : decode cX12_tries 117 = .ok (.putfield 459, 3) := by decide +kernel
theorem dX12_tries_120 : decode cX12_tries 120 = .ok (.return_, 1) := by decide +kernel
theorem dX12_goWays_0 : decode cX12_goWays 0 = .ok (.aload_n 0, 1) := by decide +kernel
theorem dX12_goWays_1 : decode cX12_goWays 1 = .ok (.iload_n 1, 1) := by decide +kernel
theorem dX12_goWays_2 : decode cX12_goWays 2 = .ok (.iload_n 3, 1) := by decide +kernel
theorem dX12_goWays_3 : decode cX12_goWays 3 = .ok (.invokevirtual 465, 3) := by decide +kernel
theorem dX12_goWays_6 : decode cX12_goWays 6 = .ok (.iload_n 1, 1) := by decide +kernel
theorem dX12_goWays_7 : decode cX12_goWays 7 = .ok (.iload_n 2, 1) := by decide +kernel
theorem dX12_goWays_8 : decode cX12_goWays 8 = .ok (.if_icmp .ne 4, 3) := by decide +kernel
theorem dX12_goWays_11 : decode cX12_goWays 11 = .ok (.return_, 1) := by decide +kernel
theorem dX12_goWays_12 : decode cX12_goWays 12 = .ok (.iconst 0, 1) := by decide +kernel
theorem dX12_goWays_13 : decode cX12_goWays 13 = .ok (.istore 4, 2) := by decide +kernel
theorem dX12_goWays_15 : decode cX12_goWays 15 = .ok (.iload 4, 2) := by decide +kernel
theorem dX12_goWays_17 : decode cX12_goWays 17 = .ok (.bipush 51, 2) := by decide +kernel
theorem dX12_goWays_19 : decode cX12_goWays 19 = .ok (.if_icmp .ge 28, 3) := by decide +kernel
theorem dX12_goWays_22 : decode cX12_goWays 22 = .ok (.aload_n 0, 1) := by decide +kernel
theorem dX12_goWays_23 : decode cX12_goWays 23 = .ok (.getfield 93, 3) := by decide +kernel
theorem dX12_goWays_26 : decode cX12_goWays 26 = .ok (.bipush 51, 2) := by decide +kernel
theorem dX12_goWays_28 : decode cX12_goWays 28 = .ok (.iload_n 1, 1) := by decide +kernel
theorem dX12_goWays_29 : decode cX12_goWays 29 = .ok (.imul, 1) := by decide +kernel
theorem dX12_goWays_30 : decode cX12_goWays 30 = .ok (.iload 4, 2) := by decide +kernel
theorem dX12_goWays_32 : decode cX12_goWays 32 = .ok (.iadd, 1) := by decide +kernel
theorem dX12_goWays_33 : decode cX12_goWays 33 = .ok (.aload_n 0, 1) := by decide +kernel
theorem dX12_goWays_34 : decode cX12_goWays 34 = .ok (.getfield 64, 3) := by decide +kernel
theorem dX12_goWays_37 : decode cX12_goWays 37 = .ok (.iload 4, 2) := by decide +kernel
theorem dX12_goWays_39 : decode cX12_goWays 39 = .ok (.iaload, 1) := by decide +kernel
theorem dX12_goWays_40 : decode cX12_goWays 40 = .ok (.iastore, 1) := by decide +kernel
theorem dX12_goWays_41 : decode cX12_goWays 41 = .ok (.iinc 4 1, 3) := by decide +kernel
theorem dX12_goWays_44 : decode cX12_goWays 44 = .ok (.goto (-29), 3) := by decide +kernel
theorem dX12_goWays_47 : decode cX12_goWays 47 = .ok (.iconst 0, 1) := by decide +kernel
theorem dX12_goWays_48 : decode cX12_goWays 48 = .ok (.istore 4, 2) := by decide +kernel
theorem dX12_goWays_50 : decode cX12_goWays 50 = .ok (.iload 4, 2) := by decide +kernel
theorem dX12_goWays_52 : decode cX12_goWays 52 = .ok (.aload_n 0, 1) := by decide +kernel
theorem dX12_goWays_53 : decode cX12_goWays 53 = .ok (.getfield 307, 3) := by decide +kernel
theorem dX12_goWays_56 : decode cX12_goWays 56 = .ok (.if_icmp .ge 85, 3) := by decide +kernel
theorem dX12_goWays_59 : decode cX12_goWays 59 = .ok (.iconst 0, 1) := by decide +kernel
theorem dX12_goWays_60 : decode cX12_goWays 60 = .ok (.istore 5, 2) := by decide +kernel
theorem dX12_goWays_62 : decode cX12_goWays 62 = .ok (.iload 5, 2) := by decide +kernel
theorem dX12_goWays_64 : decode cX12_goWays 64 = .ok (.bipush 51, 2) := by decide +kernel
theorem dX12_goWays_66 : decode cX12_goWays 66 = .ok (.if_icmp .ge 28, 3) := by decide +kernel
theorem dX12_goWays_69 : decode cX12_goWays 69 = .ok (.aload_n 0, 1) := by decide +kernel
theorem dX12_goWays_70 : decode cX12_goWays 70 = .ok (.getfield 64, 3) := by decide +kernel
theorem dX12_goWays_73 : decode cX12_goWays 73 = .ok (.iload 5, 2) := by decide +kernel
theorem dX12_goWays_75 : decode cX12_goWays 75 = .ok (.aload_n 0, 1) := by decide +kernel
theorem dX12_goWays_76 : decode cX12_goWays 76 = .ok (.getfield 93, 3) := by decide +kernel
theorem dX12_goWays_79 : decode cX12_goWays 79 = .ok (.bipush 51, 2) := by decide +kernel
theorem dX12_goWays_81 : decode cX12_goWays 81 = .ok (.iload_n 1, 1) := by decide +kernel
theorem dX12_goWays_82 : decode cX12_goWays 82 = .ok (.imul, 1) := by decide +kernel
theorem dX12_goWays_83 : decode cX12_goWays 83 = .ok (.iload 5, 2) := by decide +kernel
theorem dX12_goWays_85 : decode cX12_goWays 85 = .ok (.iadd, 1) := by decide +kernel
theorem dX12_goWays_86 : decode cX12_goWays 86 = .ok (.iaload, 1) := by decide +kernel
theorem dX12_goWays_87 : decode cX12_goWays 87 = .ok (.iastore, 1) := by decide +kernel
theorem dX12_goWays_88 : decode cX12_goWays 88 = .ok (.iinc 5 1, 3) := by decide +kernel
theorem dX12_goWays_91 : decode cX12_goWays 91 = .ok (.goto (-29), 3) := by decide +kernel
theorem dX12_goWays_94 : decode cX12_goWays 94 = .ok (.aload_n 0, 1) := by decide +kernel
theorem dX12_goWays_95 : decode cX12_goWays 95 = .ok (.aload_n 0, 1) := by decide +kernel
theorem dX12_goWays_96 : decode cX12_goWays 96 = .ok (.getfield 64, 3) := by decide +kernel
theorem dX12_goWays_99 : decode cX12_goWays 99 = .ok (.iload 4, 2) := by decide +kernel
theorem dX12_goWays_101 : decode cX12_goWays 101 = .ok (.invokevirtual 403, 3) := by decide +kernel
theorem dX12_goWays_104 : decode cX12_goWays 104 = .ok (.ifCond .ne 6, 3) := by decide +kernel
theorem dX12_goWays_107 : decode cX12_goWays 107 = .ok (.goto 28, 3) := by decide +kernel
theorem dX12_goWays_110 : decode cX12_goWays 110 = .ok (.aload_n 0, 1) := by decide +kernel
theorem dX12_goWays_111 : decode cX12_goWays 111 = .ok (.aload_n 0, 1) := by decide +kernel
theorem dX12_goWays_112 : decode cX12_goWays 112 = .ok (.getfield 64, 3) := by decide +kernel
theorem dX12_goWays_115 : decode cX12_goWays 115 = .ok (.iload 4, 2) := by decide +kernel
theorem dX12_goWays_117 : decode cX12_goWays 117 = .ok (.invokevirtual 391, 3) := by decide +kernel
theorem dX12_goWays_120 : decode cX12_goWays 120 = .ok (.aload_n 0, 1) := by decide +kernel
theorem dX12_goWays_121 : decode cX12_goWays 121 = .ok (.iload_n 1, 1) := by decide +kernel
theorem dX12_goWays_122 : decode cX12_goWays 122 = .ok (.iconst 1, 1) := by decide +kernel
theorem dX12_goWays_123 : decode cX12_goWays 123 = .ok (.iadd, 1) := by decide +kernel
theorem dX12_goWays_124 : decode cX12_goWays 124 = .ok (.iload_n 2, 1) := by decide +kernel
theorem dX12_goWays_125 : decode cX12_goWays 125 = .ok (.bipush 10, 2) := by decide +kernel
theorem dX12_goWays_127 : decode cX12_goWays 127 = .ok (.iload_n 3, 1) := by decide +kernel
theorem dX12_goWays_128 : decode cX12_goWays 128 = .ok (.imul, 1) := by decide +kernel
theorem dX12_goWays_129 : decode cX12_goWays 129 = .ok (.iload 4, 2) := by decide +kernel
theorem dX12_goWays_131 : decode cX12_goWays 131 = .ok (.iadd, 1) := by decide +kernel
theorem dX12_goWays_132 : decode cX12_goWays 132 = .ok (.invokevirtual 469, 3) := by decide +kernel
theorem dX12_goWays_135 : decode cX12_goWays 135 = .ok (.iinc 4 1, 3) := by decide +kernel
theorem dX12_goWays_138 : decode cX12_goWays 138 = .ok (.goto (-88), 3) := by decide +kernel
theorem dX12_goWays_141 : decode cX12_goWays 141 = .ok (.iconst 0, 1) := by decide +kernel
theorem dX12_goWays_142 : decode cX12_goWays 142 = .ok (.istore 4, 2) := by decide +kernel
theorem dX12_goWays_144 : decode cX12_goWays 144 = .ok (.iload 4, 2) := by decide +kernel
theorem dX12_goWays_146 : decode cX12_goWays 146 = .ok (.bipush 51, 2) := by decide +kernel
theorem dX12_goWays_148 : decode cX12_goWays 148 = .ok (.if_icmp .ge 28, 3) := by decide +kernel
theorem dX12_goWays_151 : decode cX12_goWays 151 = .ok (.aload_n 0, 1) := by decide +kernel
theorem dX12_goWays_152 : decode cX12_goWays 152 = .ok (.getfield 64, 3) := by decide +kernel
theorem dX12_goWays_155 : decode cX12_goWays 155 = .ok (.iload 4, 2) := by decide +kernel
theorem dX12_goWays_157 : decode cX12_goWays 157 = .ok (.aload_n 0, 1) := by decide +kernel
theorem dX12_goWays_158 : decode cX12_goWays 158 = .ok (.getfield 93, 3) := by decide +kernel
theorem dX12_goWays_161 : decode cX12_goWays 161 = .ok (.bipush 51, 2) := by decide +kernel
theorem dX12_goWays_163 : decode cX12_goWays 163 = .ok (.iload_n 1, 1) := by decide +kernel
theorem dX12_goWays_164 : decode cX12_goWays 164 = .ok (.imul, 1) := by decide +kernel
theorem dX12_goWays_165 : decode cX12_goWays 165 = .ok (.iload 4, 2) := by decide +kernel
theorem dX12_goWays_167 : decode cX12_goWays 167 = .ok (.iadd, 1) := by decide +kernel
theorem dX12_goWays_168 : decode cX12_goWays 168 = .ok (.iaload, 1) := by decide +kernel
theorem dX12_goWays_169 : decode cX12_goWays 169 = .ok (.iastore, 1) := by decide +kernel
theorem dX12_goWays_170 : decode cX12_goWays 170 = .ok (.iinc 4 1, 3) := by decide +kernel
theorem dX12_goWays_173 : decode cX12_goWays 173 = .ok (.goto (-29), 3) := by decide +kernel
theorem dX12_goWays_176 : decode cX12_goWays 176 = .ok (.return_, 1) := by decide +kernel
theorem dX12_seeks_0 : decode cX12_seeks 0 = .ok (.aload_n 0, 1) := by decide +kernel
theorem dX12_seeks_1 : decode cX12_seeks 1 = .ok (.iload_n 1, 1) := by decide +kernel
theorem dX12_seeks_2 : decode cX12_seeks 2 = .ok (.putfield 450, 3) := by decide +kernel
theorem dX12_seeks_5 : decode cX12_seeks 5 = .ok (.aload_n 0, 1) := by decide +kernel
theorem dX12_seeks_6 : decode cX12_seeks 6 = .ok (.iconst 0, 1) := by decide +kernel
theorem dX12_seeks_7 : decode cX12_seeks 7 = .ok (.putfield 447, 3) := by decide +kernel
theorem dX12_seeks_10 : decode cX12_seeks 10 = .ok (.aload_n 0, 1) := by decide +kernel
theorem dX12_seeks_11 : decode cX12_seeks 11 = .ok (.iconst (-1), 1) := by decide +kernel
theorem dX12_seeks_12 : decode cX12_seeks 12 = .ok (.putfield 456, 3) := by decide +kernel
theorem dX12_seeks_15 : decode cX12_seeks 15 = .ok (.aload_n 0, 1) := by decide +kernel
theorem dX12_seeks_16 : decode cX12_seeks 16 = .ok (.iconst 0, 1) := by decide +kernel
theorem dX12_seeks_17 : decode cX12_seeks 17 = .ok (.putfield 462, 3) := by decide +kernel
theorem dX12_seeks_20 : decode cX12_seeks 20 = .ok (.aload_n 0, 1) := by decide +kernel
theorem dX12_seeks_21 : decode cX12_seeks 21 = .ok (.iconst (-1), 1) := by decide +kernel
theorem dX12_seeks_22 : decode cX12_seeks 22 = .ok (.putfield 459, 3) := by decide +kernel
theorem dX12_seeks_25 : decode cX12_seeks 25 = .ok (.aload_n 0, 1) := by decide +kernel
theorem dX12_seeks_26 : decode cX12_seeks 26 = .ok (.getfield 61, 3) := by decide +kernel
theorem dX12_seeks_29 : decode cX12_seeks 29 = .ok (.aload_n 0, 1) := by decide +kernel
theorem dX12_seeks_30 : decode cX12_seeks 30 = .ok (.getfield 64, 3) := by decide +kernel
theorem dX12_seeks_33 : decode cX12_seeks 33 = .ok (.invokestatic 428, 3) := by decide +kernel
theorem dX12_seeks_36 : decode cX12_seeks 36 = .ok (.aload_n 0, 1) := by decide +kernel
theorem dX12_seeks_37 : decode cX12_seeks 37 = .ok (.iconst 0, 1) := by decide +kernel
theorem dX12_seeks_38 : decode cX12_seeks 38 = .ok (.iload_n 2, 1) := by decide +kernel
theorem dX12_seeks_39 : decode cX12_seeks 39 = .ok (.iconst 0, 1) := by decide +kernel
theorem dX12_seeks_40 : decode cX12_seeks 40 = .ok (.invokevirtual 469, 3) := by decide +kernel
theorem dX12_seeks_43 : decode cX12_seeks 43 = .ok (.return_, 1) := by decide +kernel
theorem dX12_fewest_0 : decode cX12_fewest 0 = .ok (.aload_n 0, 1) := by decide +kernel
theorem dX12_fewest_1 : decode cX12_fewest 1 = .ok (.iconst 0, 1) := by decide +kernel
theorem dX12_fewest_2 : decode cX12_fewest 2 = .ok (.putfield 111, 3) := by decide +kernel
theorem dX12_fewest_5 : decode cX12_fewest 5 = .ok (.aload_n 0, 1) := by decide +kernel
theorem dX12_fewest_6 : decode cX12_fewest 6 = .ok (.getfield 307, 3) := by decide +kernel
theorem dX12_fewest_9 : decode cX12_fewest 9 = .ok (.ifCond .eq 25, 3) := by decide +kernel
theorem dX12_fewest_12 : decode cX12_fewest 12 = .ok (.iload_n 1, 1) := by decide +kernel
theorem dX12_fewest_13 : decode cX12_fewest 13 = .ok (.i2l, 1) := by decide +kernel
theorem dX12_fewest_14 : decode cX12_fewest 14 = .ok (.lconst 0, 1) := by decide +kernel
theorem dX12_fewest_15 : decode cX12_fewest 15 = .ok (.ldc2_w 473, 3) := by decide +kernel
theorem dX12_fewest_18 : decode cX12_fewest 18 = .ok (.invokestatic 232, 3) := by decide +kernel
theorem dX12_fewest_21 : decode cX12_fewest 21 = .ok (.ifCond .eq 13, 3) := by decide +kernel
theorem dX12_fewest_24 : decode cX12_fewest 24 = .ok (.iload_n 2, 1) := by decide +kernel
theorem dX12_fewest_25 : decode cX12_fewest 25 = .ok (.i2l, 1) := by decide +kernel
theorem dX12_fewest_26 : decode cX12_fewest 26 = .ok (.lconst 0, 1) := by decide +kernel
