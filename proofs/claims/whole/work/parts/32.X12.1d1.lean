theorem dX12_isHouse_0 : decode cX12_isHouse 0 = .ok (.iload_n 1, 1) := by decide +kernel
theorem dX12_isHouse_1 : decode cX12_isHouse 1 = .ok (.ifCond .lt 15, 3) := by decide +kernel
theorem dX12_isHouse_4 : decode cX12_isHouse 4 = .ok (.iload_n 1, 1) := by decide +kernel
theorem dX12_isHouse_5 : decode cX12_isHouse 5 = .ok (.aload_n 0, 1) := by decide +kernel
theorem dX12_isHouse_6 : decode cX12_isHouse 6 = .ok (.getfield 307, 3) := by decide +kernel
theorem dX12_isHouse_9 : decode cX12_isHouse 9 = .ok (.if_icmp .ge 7, 3) := by decide +kernel
theorem dX12_isHouse_12 : decode cX12_isHouse 12 = .ok (.iconst 1, 1) := by decide +kernel
theorem dX12_isHouse_13 : decode cX12_isHouse 13 = .ok (.goto 4, 3) := by decide +kernel
theorem dX12_isHouse_16 : decode cX12_isHouse 16 = .ok (.iconst 0, 1) := by decide +kernel
theorem dX12_isHouse_17 : decode cX12_isHouse 17 = .ok (.ireturn, 1) := by decide +kernel
theorem dX12_isIn_0 : decode cX12_isIn 0 = .ok (.lload_n 0, 1) := by decide +kernel
theorem dX12_isIn_1 : decode cX12_isIn 1 = .ok (.lload_n 2, 1) := by decide +kernel
theorem dX12_isIn_2 : decode cX12_isIn 2 = .ok (.lcmp, 1) := by decide +kernel
theorem dX12_isIn_3 : decode cX12_isIn 3 = .ok (.ifCond .lt 14, 3) := by decide +kernel
theorem dX12_isIn_6 : decode cX12_isIn 6 = .ok (.lload_n 0, 1) := by decide +kernel
theorem dX12_isIn_7 : decode cX12_isIn 7 = .ok (.lload 4, 2) := by decide +kernel
theorem dX12_isIn_9 : decode cX12_isIn 9 = .ok (.lcmp, 1) := by decide +kernel
theorem dX12_isIn_10 : decode cX12_isIn 10 = .ok (.ifCond .gt 7, 3) := by decide +kernel
theorem dX12_isIn_13 : decode cX12_isIn 13 = .ok (.iconst 1, 1) := by decide +kernel
theorem dX12_isIn_14 : decode cX12_isIn 14 = .ok (.goto 4, 3) := by decide +kernel
theorem dX12_isIn_17 : decode cX12_isIn 17 = .ok (.iconst 0, 1) := by decide +kernel
theorem dX12_isIn_18 : decode cX12_isIn 18 = .ok (.ireturn, 1) := by decide +kernel
theorem dX12_isSong_0 : decode cX12_isSong 0 = .ok (.iload_n 1, 1) := by decide +kernel
theorem dX12_isSong_1 : decode cX12_isSong 1 = .ok (.ifCond .lt 15, 3) := by decide +kernel
theorem dX12_isSong_4 : decode cX12_isSong 4 = .ok (.iload_n 1, 1) := by decide +kernel
theorem dX12_isSong_5 : decode cX12_isSong 5 = .ok (.aload_n 0, 1) := by decide +kernel
theorem dX12_isSong_6 : decode cX12_isSong 6 = .ok (.getfield 302, 3) := by decide +kernel
theorem dX12_isSong_9 : decode cX12_isSong 9 = .ok (.if_icmp .ge 7, 3) := by decide +kernel
theorem dX12_isSong_12 : decode cX12_isSong 12 = .ok (.iconst 1, 1) := by decide +kernel
theorem dX12_isSong_13 : decode cX12_isSong 13 = .ok (.goto 4, 3) := by decide +kernel
theorem dX12_isSong_16 : decode cX12_isSong 16 = .ok (.iconst 0, 1) := by decide +kernel
theorem dX12_isSong_17 : decode cX12_isSong 17 = .ok (.ireturn, 1) := by decide +kernel
theorem dX12_copy_0 : decode cX12_copy 0 = .ok (.iconst 0, 1) := by decide +kernel
theorem dX12_copy_1 : decode cX12_copy 1 = .ok (.istore_n 2, 1) := by decide +kernel
theorem dX12_copy_2 : decode cX12_copy 2 = .ok (.iload_n 2, 1) := by decide +kernel
theorem dX12_copy_3 : decode cX12_copy 3 = .ok (.bipush 51, 2) := by decide +kernel
theorem dX12_copy_5 : decode cX12_copy 5 = .ok (.if_icmp .ge 15, 3) := by decide +kernel
theorem dX12_copy_8 : decode cX12_copy 8 = .ok (.aload_n 1, 1) := by decide +kernel
theorem dX12_copy_9 : decode cX12_copy 9 = .ok (.iload_n 2, 1) := by decide +kernel
theorem dX12_copy_10 : decode cX12_copy 10 = .ok (.aload_n 0, 1) := by decide +kernel
theorem dX12_copy_11 : decode cX12_copy 11 = .ok (.iload_n 2, 1) := by decide +kernel
theorem dX12_copy_12 : decode cX12_copy 12 = .ok (.iaload, 1) := by decide +kernel
theorem dX12_copy_13 : decode cX12_copy 13 = .ok (.iastore, 1) := by decide +kernel
theorem dX12_copy_14 : decode cX12_copy 14 = .ok (.iinc 2 1, 3) := by decide +kernel
theorem dX12_copy_17 : decode cX12_copy 17 = .ok (.goto (-15), 3) := by decide +kernel
theorem dX12_copy_20 : decode cX12_copy 20 = .ok (.return_, 1) := by decide +kernel
theorem dX12_has_0 : decode cX12_has 0 = .ok (.iload_n 0, 1) := by decide +kernel
theorem dX12_has_1 : decode cX12_has 1 = .ok (.iload_n 1, 1) := by decide +kernel
theorem dX12_has_2 : decode cX12_has 2 = .ok (.ishr, 1) := by decide +kernel
theorem dX12_has_3 : decode cX12_has 3 = .ok (.iconst 1, 1) := by decide +kernel
theorem dX12_has_4 : decode cX12_has 4 = .ok (.iand, 1) := by decide +kernel
theorem dX12_has_5 : decode cX12_has 5 = .ok (.iconst 1, 1) := by decide +kernel
theorem dX12_has_6 : decode cX12_has 6 = .ok (.if_icmp .ne 7, 3) := by decide +kernel
theorem dX12_has_9 : decode cX12_has 9 = .ok (.iconst 1, 1) := by decide +kernel
theorem dX12_has_10 : decode cX12_has 10 = .ok (.goto 4, 3) := by decide +kernel
theorem dX12_has_13 : decode cX12_has 13 = .ok (.iconst 0, 1) := by decide +kernel
theorem dX12_has_14 : decode cX12_has 14 = .ok (.ireturn, 1) := by decide +kernel
theorem dX12_laysNext_0 : decode cX12_laysNext 0 = .ok (.iconst 0, 1) := by decide +kernel
theorem dX12_laysNext_1 : decode cX12_laysNext 1 = .ok (.istore_n 3, 1) := by decide +kernel
theorem dX12_laysNext_2 : decode cX12_laysNext 2 = .ok (.iload_n 3, 1) := by decide +kernel
theorem dX12_laysNext_3 : decode cX12_laysNext 3 = .ok (.aload_n 0, 1) := by decide +kernel
theorem dX12_laysNext_4 : decode cX12_laysNext 4 = .ok (.getfield 307, 3) := by decide +kernel
theorem dX12_laysNext_7 : decode cX12_laysNext 7 = .ok (.if_icmp .ge 135, 3) := by decide +kernel
theorem dX12_laysNext_10 : decode cX12_laysNext 10 = .ok (.iconst 0, 1) := by decide +kernel
theorem dX12_laysNext_11 : decode cX12_laysNext 11 = .ok (.istore 4, 2) := by decide +kernel
theorem dX12_laysNext_13 : decode cX12_laysNext 13 = .ok (.iload 4, 2) := by decide +kernel
theorem dX12_laysNext_15 : decode cX12_laysNext 15 = .ok (.aload_n 0, 1) := by decide +kernel
theorem dX12_laysNext_16 : decode cX12_laysNext 16 = .ok (.getfield 307, 3) := by decide +kernel
theorem dX12_laysNext_19 : decode cX12_laysNext 19 = .ok (.if_icmp .ge 117, 3) := by decide +kernel
theorem dX12_laysNext_22 : decode cX12_laysNext 22 = .ok (.aload_n 1, 1) := by decide +kernel
theorem dX12_laysNext_23 : decode cX12_laysNext 23 = .ok (.bipush 6, 2) := by decide +kernel
theorem dX12_laysNext_25 : decode cX12_laysNext 25 = .ok (.iload_n 3, 1) := by decide +kernel
theorem dX12_laysNext_26 : decode cX12_laysNext 26 = .ok (.imul, 1) := by decide +kernel
theorem dX12_laysNext_27 : decode cX12_laysNext 27 = .ok (.iload_n 2, 1) := by decide +kernel
theorem dX12_laysNext_28 : decode cX12_laysNext 28 = .ok (.iadd, 1) := by decide +kernel
theorem dX12_laysNext_29 : decode cX12_laysNext 29 = .ok (.iaload, 1) := by decide +kernel
theorem dX12_laysNext_30 : decode cX12_laysNext 30 = .ok (.istore 5, 2) := by decide +kernel
theorem dX12_laysNext_32 : decode cX12_laysNext 32 = .ok (.aload_n 1, 1) := by decide +kernel
theorem dX12_laysNext_33 : decode cX12_laysNext 33 = .ok (.bipush 6, 2) := by decide +kernel
theorem dX12_laysNext_35 : decode cX12_laysNext 35 = .ok (.iload_n 2, 1) := by decide +kernel
theorem dX12_laysNext_36 : decode cX12_laysNext 36 = .ok (.imul, 1) := by decide +kernel
theorem dX12_laysNext_37 : decode cX12_laysNext 37 = .ok (.iload 4, 2) := by decide +kernel
theorem dX12_laysNext_39 : decode cX12_laysNext 39 = .ok (.iadd, 1) := by decide +kernel
theorem dX12_laysNext_40 : decode cX12_laysNext 40 = .ok (.iaload, 1) := by decide +kernel
theorem dX12_laysNext_41 : decode cX12_laysNext 41 = .ok (.istore 6, 2) := by decide +kernel
theorem dX12_laysNext_43 : decode cX12_laysNext 43 = .ok (.aload_n 1, 1) := by decide +kernel
theorem dX12_laysNext_44 : decode cX12_laysNext 44 = .ok (.bipush 6, 2) := by decide +kernel
theorem dX12_laysNext_46 : decode cX12_laysNext 46 = .ok (.iload_n 3, 1) := by decide +kernel
theorem dX12_laysNext_47 : decode cX12_laysNext 47 = .ok (.imul, 1) := by decide +kernel
theorem dX12_laysNext_48 : decode cX12_laysNext 48 = .ok (.iload 4, 2) := by decide +kernel
theorem dX12_laysNext_50 : decode cX12_laysNext 50 = .ok (.iadd, 1) := by decide +kernel
theorem dX12_laysNext_51 : decode cX12_laysNext 51 = .ok (.iaload, 1) := by decide +kernel
theorem dX12_laysNext_52 : decode cX12_laysNext 52 = .ok (.istore 7, 2) := by decide +kernel
theorem dX12_laysNext_54 : decode cX12_laysNext 54 = .ok (.iload_n 3, 1) := by decide +kernel
theorem dX12_laysNext_55 : decode cX12_laysNext 55 = .ok (.iload_n 2, 1) := by decide +kernel
theorem dX12_laysNext_56 : decode cX12_laysNext 56 = .ok (.if_icmp .eq 9, 3) := by decide +kernel
theorem dX12_laysNext_59 : decode cX12_laysNext 59 = .ok (.iload 4, 2) := by decide +kernel
theorem dX12_laysNext_61 : decode cX12_laysNext 61 = .ok (.iload_n 2, 1) := by decide +kernel
theorem dX12_laysNext_62 : decode cX12_laysNext 62 = .ok (.if_icmp .ne 11, 3) := by decide +kernel
theorem dX12_laysNext_65 : decode cX12_laysNext 65 = .ok (.iload 7, 2) := by decide +kernel
theorem dX12_laysNext_67 : decode cX12_laysNext 67 = .ok (.ineg, 1) := by decide +kernel
theorem dX12_laysNext_68 : decode cX12_laysNext 68 = .ok (.istore 7, 2) := by decide +kernel
theorem dX12_laysNext_70 : decode cX12_laysNext 70 = .ok (.goto 46, 3) := by decide +kernel
theorem dX12_laysNext_73 : decode cX12_laysNext 73 = .ok (.iload 5, 2) := by decide +kernel
theorem dX12_laysNext_75 : decode cX12_laysNext 75 = .ok (.ifCond .le 21, 3) := by decide +kernel
theorem dX12_laysNext_78 : decode cX12_laysNext 78 = .ok (.iload 6, 2) := by decide +kernel
theorem dX12_laysNext_80 : decode cX12_laysNext 80 = .ok (.ifCond .le 16, 3) := by decide +kernel
theorem dX12_laysNext_83 : decode cX12_laysNext 83 = .ok (.iload 7, 2) := by decide +kernel
theorem dX12_laysNext_85 : decode cX12_laysNext 85 = .ok (.iload 5, 2) := by decide +kernel
theorem dX12_laysNext_87 : decode cX12_laysNext 87 = .ok (.iload 6, 2) := by decide +kernel
theorem dX12_laysNext_89 : decode cX12_laysNext 89 = .ok (.imul, 1) := by decide +kernel
theorem dX12_laysNext_90 : decode cX12_laysNext 90 = .ok (.iadd, 1) := by decide +kernel
theorem dX12_laysNext_91 : decode cX12_laysNext 91 = .ok (.istore 7, 2) := by decide +kernel
theorem dX12_laysNext_93 : decode cX12_laysNext 93 = .ok (.goto 23, 3) := by decide +kernel
theorem dX12_laysNext_96 : decode cX12_laysNext 96 = .ok (.iload 5, 2) := by decide +kernel
theorem dX12_laysNext_98 : decode cX12_laysNext 98 = .ok (.ifCond .ge 18, 3) := by decide +kernel
theorem dX12_laysNext_101 : decode cX12_laysNext 101 = .ok (.iload 6, 2) := by decide +kernel
theorem dX12_laysNext_103 : decode cX12_laysNext 103 = .ok (.ifCond .ge 13, 3) := by decide +kernel
theorem dX12_laysNext_106 : decode cX12_laysNext 106 = .ok (.iload 7, 2) := by decide +kernel
theorem dX12_laysNext_108 : decode cX12_laysNext 108 = .ok (.iload 5, 2) := by decide +kernel
theorem dX12_laysNext_110 : decode cX12_laysNext 110 = .ok (.iload 6, 2) := by decide +kernel
theorem dX12_laysNext_112 : decode cX12_laysNext 112 = .ok (.imul, 1) := by decide +kernel
theorem dX12_laysNext_113 : decode cX12_laysNext 113 = .ok (.isub, 1) := by decide +kernel
theorem dX12_laysNext_114 : decode cX12_laysNext 114 = .ok (.istore 7, 2) := by decide +kernel
theorem dX12_laysNext_116 : decode cX12_laysNext 116 = .ok (.aload_n 0, 1) := by decide +kernel
theorem dX12_laysNext_117 : decode cX12_laysNext 117 = .ok (.getfield 77, 3) := by decide +kernel
theorem dX12_laysNext_120 : decode cX12_laysNext 120 = .ok (.bipush 6, 2) := by decide +kernel
theorem dX12_laysNext_122 : decode cX12_laysNext 122 = .ok (.iload_n 3, 1) := by decide +kernel
theorem dX12_laysNext_123 : decode cX12_laysNext 123 = .ok (.imul, 1) := by decide +kernel
theorem dX12_laysNext_124 : decode cX12_laysNext 124 = .ok (.iload 4, 2) := by decide +kernel
theorem dX12_laysNext_126 : decode cX12_laysNext 126 = .ok (.iadd, 1) := by decide +kernel
theorem dX12_laysNext_127 : decode cX12_laysNext 127 = .ok (.iload 7, 2) := by decide +kernel
theorem dX12_laysNext_129 : decode cX12_laysNext 129 = .ok (.iastore, 1) := by decide +kernel
theorem dX12_laysNext_130 : decode cX12_laysNext 130 = .ok (.iinc 4 1, 3) := by decide +kernel
theorem dX12_laysNext_133 : decode cX12_laysNext 133 = .ok (.goto (-120), 3) := by decide +kernel
theorem dX12_laysNext_136 : decode cX12_laysNext 136 = .ok (.iinc 3 1, 3) := by decide +kernel
theorem dX12_laysNext_139 : decode cX12_laysNext 139 = .ok (.goto (-137), 3) := by decide +kernel
theorem dX12_laysNext_142 : decode cX12_laysNext 142 = .ok (.return_, 1) := by decide +kernel
theorem dX12_stops_0 : decode cX12_stops 0 = .ok (.aload_n 1, 1) := by decide +kernel
theorem dX12_stops_1 : decode cX12_stops 1 = .ok (.bipush 48, 2) := by decide +kernel
theorem dX12_stops_3 : decode cX12_stops 3 = .ok (.iaload, 1) := by decide +kernel
theorem dX12_stops_4 : decode cX12_stops 4 = .ok (.iload_n 2, 1) := by decide +kernel
theorem dX12_stops_5 : decode cX12_stops 5 = .ok (.invokestatic 244, 3) := by decide +kernel
theorem dX12_stops_8 : decode cX12_stops 8 = .ok (.ifCond .eq 5, 3) := by decide +kernel
theorem dX12_stops_11 : decode cX12_stops 11 = .ok (.iconst 2, 1) := by decide +kernel
theorem dX12_stops_12 : decode cX12_stops 12 = .ok (.ireturn, 1) := by decide +kernel
theorem dX12_stops_13 : decode cX12_stops 13 = .ok (.aload_n 1, 1) := by decide +kernel
theorem dX12_stops_14 : decode cX12_stops 14 = .ok (.bipush 36, 2) := by decide +kernel
theorem dX12_stops_16 : decode cX12_stops 16 = .ok (.iload_n 2, 1) := by decide +kernel
theorem dX12_stops_17 : decode cX12_stops 17 = .ok (.iadd, 1) := by decide +kernel
theorem dX12_stops_18 : decode cX12_stops 18 = .ok (.iaload, 1) := by decide +kernel
theorem dX12_stops_19 : decode cX12_stops 19 = .ok (.ifCond .ne 5, 3) := by decide +kernel
theorem dX12_stops_22 : decode cX12_stops 22 = .ok (.iconst 3, 1) := by decide +kernel
theorem dX12_stops_23 : decode cX12_stops 23 = .ok (.ireturn, 1) := by decide +kernel
theorem dX12_stops_24 : decode cX12_stops 24 = .ok (.aload_n 0, 1) := by decide +kernel
theorem dX12_stops_25 : decode cX12_stops 25 = .ok (.aload_n 1, 1) := by decide +kernel
theorem dX12_stops_26 : decode cX12_stops 26 = .ok (.iload_n 2, 1) := by decide +kernel
theorem dX12_stops_27 : decode cX12_stops 27 = .ok (.invokevirtual 331, 3) := by decide +kernel
theorem dX12_stops_30 : decode cX12_stops 30 = .ok (.iconst 0, 1) := by decide +kernel
theorem dX12_stops_31 : decode cX12_stops 31 = .ok (.istore_n 3, 1) := by decide +kernel
theorem dX12_stops_32 : decode cX12_stops 32 = .ok (.iload_n 3, 1) := by decide +kernel
theorem dX12_stops_33 : decode cX12_stops 33 = .ok (.aload_n 0, 1) := by decide +kernel
theorem dX12_stops_34 : decode cX12_stops 34 = .ok (.getfield 307, 3) := by decide +kernel
theorem dX12_stops_37 : decode cX12_stops 37 = .ok (.if_icmp .ge 50, 3) := by decide +kernel
theorem dX12_stops_40 : decode cX12_stops 40 = .ok (.iconst 0, 1) := by decide +kernel
theorem dX12_stops_41 : decode cX12_stops 41 = .ok (.istore 4, 2) := by decide +kernel
theorem dX12_stops_43 : decode cX12_stops 43 = .ok (.iload 4, 2) := by decide +kernel
theorem dX12_stops_45 : decode cX12_stops 45 = .ok (.aload_n 0, 1) := by decide +kernel
theorem dX12_stops_46 : decode cX12_stops 46 = .ok (.getfield 307, 3) := by decide +kernel
theorem dX12_stops_49 : decode cX12_stops 49 = .ok (.if_icmp .ge 32, 3) := by decide +kernel
theorem dX12_stops_52 : decode cX12_stops 52 = .ok (.aload_n 0, 1) := by decide +kernel
theorem dX12_stops_53 : decode cX12_stops 53 = .ok (.getfield 77, 3) := by decide +kernel
theorem dX12_stops_56 : decode cX12_stops 56 = .ok (.bipush 6, 2) := by decide +kernel
theorem dX12_stops_58 : decode cX12_stops 58 = .ok (.iload_n 3, 1) := by decide +kernel
theorem dX12_stops_59 : decode cX12_stops 59 = .ok (.imul, 1) := by decide +kernel
theorem dX12_stops_60 : decode cX12_stops 60 = .ok (.iload 4, 2) := by decide +kernel
theorem dX12_stops_62 : decode cX12_stops 62 = .ok (.iadd, 1) := by decide +kernel
theorem dX12_stops_63 : decode cX12_stops 63 = .ok (.iaload, 1) := by decide +kernel
theorem dX12_stops_64 : decode cX12_stops 64 = .ok (.aload_n 0, 1) := by decide +kernel
theorem dX12_stops_65 : decode cX12_stops 65 = .ok (.getfield 37, 3) := by decide +kernel
theorem dX12_stops_68 : decode cX12_stops 68 = .ok (.iconst 1, 1) := by decide +kernel
theorem dX12_stops_69 : decode cX12_stops 69 = .ok (.iaload, 1) := by decide +kernel
theorem dX12_stops_70 : decode cX12_stops 70 = .ok (.if_icmp .le 5, 3) := by decide +kernel
theorem dX12_stops_73 : decode cX12_stops 73 = .ok (.iconst 3, 1) := by decide +kernel
theorem dX12_stops_74 : decode cX12_stops 74 = .ok (.ireturn, 1) := by decide +kernel
theorem dX12_stops_75 : decode cX12_stops 75 = .ok (.iinc 4 1, 3) := by decide +kernel
theorem dX12_stops_78 : decode cX12_stops 78 = .ok (.goto (-35), 3) := by decide +kernel
theorem dX12_stops_81 : decode cX12_stops 81 = .ok (.iinc 3 1, 3) := by decide +kernel
theorem dX12_stops_84 : decode cX12_stops 84 = .ok (.goto (-52), 3) := by decide +kernel
theorem dX12_stops_87 : decode cX12_stops 87 = .ok (.iconst (-1), 1) := by decide +kernel
theorem dX12_stops_88 : decode cX12_stops 88 = .ok (.ireturn, 1) := by decide +kernel
theorem dX12_can_0 : decode cX12_can 0 = .ok (.aload_n 0, 1) := by decide +kernel
theorem dX12_can_1 : decode cX12_can 1 = .ok (.iload_n 2, 1) := by decide +kernel
theorem dX12_can_2 : decode cX12_can 2 = .ok (.invokevirtual 335, 3) := by decide +kernel
theorem dX12_can_5 : decode cX12_can 5 = .ok (.ifCond .eq 17, 3) := by decide +kernel
theorem dX12_can_8 : decode cX12_can 8 = .ok (.aload_n 0, 1) := by decide +kernel
theorem dX12_can_9 : decode cX12_can 9 = .ok (.aload_n 1, 1) := by decide +kernel
theorem dX12_can_10 : decode cX12_can 10 = .ok (.iload_n 2, 1) := by decide +kernel
theorem dX12_can_11 : decode cX12_can 11 = .ok (.invokevirtual 338, 3) := by decide +kernel
theorem dX12_can_14 : decode cX12_can 14 = .ok (.iconst (-1), 1) := by decide +kernel
theorem dX12_can_15 : decode cX12_can 15 = .ok (.if_icmp .ne 7, 3) := by decide +kernel
theorem dX12_can_18 : decode cX12_can 18 = .ok (.iconst 1, 1) := by decide +kernel
theorem dX12_can_19 : decode cX12_can 19 = .ok (.goto 4, 3) := by decide +kernel
theorem dX12_can_22 : decode cX12_can 22 = .ok (.iconst 0, 1) := by decide +kernel
theorem dX12_can_23 : decode cX12_can 23 = .ok (.ireturn, 1) := by decide +kernel
theorem dX12_inverse_0 : decode cX12_inverse 0 = .ok (.lconst 1, 1) := by decide +kernel
theorem dX12_inverse_1 : decode cX12_inverse 1 = .ok (.lstore_n 2, 1) := by decide +kernel
theorem dX12_inverse_2 : decode cX12_inverse 2 = .ok (.lload_n 0, 1) := by decide +kernel
theorem dX12_inverse_3 : decode cX12_inverse 3 = .ok (.lstore 4, 2) := by decide +kernel
theorem dX12_inverse_5 : decode cX12_inverse 5 = .ok (.ldc_w 330, 3) := by decide +kernel
theorem dX12_inverse_8 : decode cX12_inverse 8 = .ok (.istore 6, 2) := by decide +kernel
theorem dX12_inverse_10 : decode cX12_inverse 10 = .ok (.iload 6, 2) := by decide +kernel
theorem dX12_inverse_12 : decode cX12_inverse 12 = .ok (.ifCond .le 40, 3) := by decide +kernel
theorem dX12_inverse_15 : decode cX12_inverse 15 = .ok (.iload 6, 2) := by decide +kernel
theorem dX12_inverse_17 : decode cX12_inverse 17 = .ok (.iconst 2, 1) := by decide +kernel
theorem dX12_inverse_18 : decode cX12_inverse 18 = .ok (.irem, 1) := by decide +kernel
theorem dX12_inverse_19 : decode cX12_inverse 19 = .ok (.iconst 1, 1) := by decide +kernel
theorem dX12_inverse_20 : decode cX12_inverse 20 = .ok (.if_icmp .ne 12, 3) := by decide +kernel
theorem dX12_inverse_23 : decode cX12_inverse 23 = .ok (.lload_n 2, 1) := by decide +kernel
theorem dX12_inverse_24 : decode cX12_inverse 24 = .ok (.lload 4, 2) := by decide +kernel
theorem dX12_inverse_26 : decode cX12_inverse 26 = .ok (.lmul, 1) := by decide +kernel
theorem dX12_inverse_27 : decode cX12_inverse 27 = .ok (.ldc2_w 328, 3) := by decide +kernel
theorem dX12_inverse_30 : decode cX12_inverse 30 = .ok (.lrem, 1) := by decide +kernel
theorem dX12_inverse_31 : decode cX12_inverse 31 = .ok (.lstore_n 2, 1) := by decide +kernel
theorem dX12_inverse_32 : decode cX12_inverse 32 = .ok (.lload 4, 2) := by decide +kernel
theorem dX12_inverse_34 : decode cX12_inverse 34 = .ok (.lload 4, 2) := by decide +kernel
theorem dX12_inverse_36 : decode cX12_inverse 36 = .ok (.lmul, 1) := by decide +kernel
theorem dX12_inverse_37 : decode cX12_inverse 37 = .ok (.ldc2_w 328, 3) := by decide +kernel
theorem dX12_inverse_40 : decode cX12_inverse 40 = .ok (.lrem, 1) := by decide +kernel
theorem dX12_inverse_41 : decode cX12_inverse 41 = .ok (.lstore 4, 2) := by decide +kernel
theorem dX12_inverse_43 : decode cX12_inverse 43 = .ok (.iload 6, 2) := by decide +kernel
theorem dX12_inverse_45 : decode cX12_inverse 45 = .ok (.iconst 2, 1) := by decide +kernel
theorem dX12_inverse_46 : decode cX12_inverse 46 = .ok (.idiv, 1) := by decide +kernel
theorem dX12_inverse_47 : decode cX12_inverse 47 = .ok (.istore 6, 2) := by decide +kernel
theorem dX12_inverse_49 : decode cX12_inverse 49 = .ok (.goto (-39), 3) := by decide +kernel
theorem dX12_inverse_52 : decode cX12_inverse 52 = .ok (.lload_n 2, 1) := by decide +kernel
theorem dX12_inverse_53 : decode cX12_inverse 53 = .ok (.lreturn, 1) := by decide +kernel
theorem dX12_power_0 : decode cX12_power 0 = .ok (.lconst 1, 1) := by decide +kernel
theorem dX12_power_1 : decode cX12_power 1 = .ok (.lstore_n 3, 1) := by decide +kernel
theorem dX12_power_2 : decode cX12_power 2 = .ok (.iconst 0, 1) := by decide +kernel
theorem dX12_power_3 : decode cX12_power 3 = .ok (.istore 5, 2) := by decide +kernel
theorem dX12_power_5 : decode cX12_power 5 = .ok (.iload 5, 2) := by decide +kernel
theorem dX12_power_7 : decode cX12_power 7 = .ok (.iload_n 2, 1) := by decide +kernel
theorem dX12_power_8 : decode cX12_power 8 = .ok (.if_icmp .ge 17, 3) := by decide +kernel
theorem dX12_power_11 : decode cX12_power 11 = .ok (.lload_n 3, 1) := by decide +kernel
theorem dX12_power_12 : decode cX12_power 12 = .ok (.lload_n 0, 1) := by decide +kernel
theorem dX12_power_13 : decode cX12_power 13 = .ok (.lmul, 1) := by decide +kernel
theorem dX12_power_14 : decode cX12_power 14 = .ok (.ldc2_w 328, 3) := by decide +kernel
theorem dX12_power_17 : decode cX12_power 17 = .ok (.lrem, 1) := by decide +kernel
theorem dX12_power_18 : decode cX12_power 18 = .ok (.lstore_n 3, 1) := by decide +kernel
theorem dX12_power_19 : decode cX12_power 19 = .ok (.iinc 5 1, 3) := by decide +kernel
theorem dX12_power_22 : decode cX12_power 22 = .ok (.goto (-17), 3) := by decide +kernel
theorem dX12_power_25 : decode cX12_power 25 = .ok (.lload_n 3, 1) := by decide +kernel
theorem dX12_power_26 : decode cX12_power 26 = .ok (.lreturn, 1) := by decide +kernel
theorem dX12_freshWorth_0 : decode cX12_freshWorth 0 = .ok (.lconst 1, 1) := by decide +kernel
theorem dX12_freshWorth_1 : decode cX12_freshWorth 1 = .ok (.lstore_n 3, 1) := by decide +kernel
theorem dX12_freshWorth_2 : decode cX12_freshWorth 2 = .ok (.lconst 1, 1) := by decide +kernel
theorem dX12_freshWorth_3 : decode cX12_freshWorth 3 = .ok (.lstore 5, 2) := by decide +kernel
theorem dX12_freshWorth_5 : decode cX12_freshWorth 5 = .ok (.iconst 0, 1) := by decide +kernel
theorem dX12_freshWorth_6 : decode cX12_freshWorth 6 = .ok (.istore 7, 2) := by decide +kernel
theorem dX12_freshWorth_8 : decode cX12_freshWorth 8 = .ok (.iload 7, 2) := by decide +kernel
theorem dX12_freshWorth_10 : decode cX12_freshWorth 10 = .ok (.aload_n 0, 1) := by decide +kernel
theorem dX12_freshWorth_11 : decode cX12_freshWorth 11 = .ok (.getfield 307, 3) := by decide +kernel
theorem dX12_freshWorth_14 : decode cX12_freshWorth 14 = .ok (.if_icmp .ge 73, 3) := by decide +kernel
theorem dX12_freshWorth_17 : decode cX12_freshWorth 17 = .ok (.lload_n 3, 1) := by decide +kernel
theorem dX12_freshWorth_18 : decode cX12_freshWorth 18 = .ok (.aload_n 1, 1) := by decide +kernel
theorem dX12_freshWorth_19 : decode cX12_freshWorth 19 = .ok (.bipush 36, 2) := by decide +kernel
theorem dX12_freshWorth_21 : decode cX12_freshWorth 21 = .ok (.iload 7, 2) := by decide +kernel
theorem dX12_freshWorth_23 : decode cX12_freshWorth 23 = .ok (.iadd, 1) := by decide +kernel
theorem dX12_freshWorth_24 : decode cX12_freshWorth 24 = .ok (.iaload, 1) := by decide +kernel
theorem dX12_freshWorth_25 : decode cX12_freshWorth 25 = .ok (.i2l, 1) := by decide +kernel
theorem dX12_freshWorth_26 : decode cX12_freshWorth 26 = .ok (.iconst 0, 1) := by decide +kernel
theorem dX12_freshWorth_27 : decode cX12_freshWorth 27 = .ok (.aload_n 1, 1) := by decide +kernel
theorem dX12_freshWorth_28 : decode cX12_freshWorth 28 = .ok (.bipush 6, 2) := by decide +kernel
theorem dX12_freshWorth_30 : decode cX12_freshWorth 30 = .ok (.iload 7, 2) := by decide +kernel
theorem dX12_freshWorth_32 : decode cX12_freshWorth 32 = .ok (.imul, 1) := by decide +kernel
theorem dX12_freshWorth_33 : decode cX12_freshWorth 33 = .ok (.iload_n 2, 1) := by decide +kernel
theorem dX12_freshWorth_34 : decode cX12_freshWorth 34 = .ok (.iadd, 1) := by decide +kernel
theorem dX12_freshWorth_35 : decode cX12_freshWorth 35 = .ok (.iaload, 1) := by decide +kernel
theorem dX12_freshWorth_36 : decode cX12_freshWorth 36 = .ok (.invokestatic 326, 3) := by decide +kernel
theorem dX12_freshWorth_39 : decode cX12_freshWorth 39 = .ok (.invokestatic 342, 3) := by decide +kernel
theorem dX12_freshWorth_42 : decode cX12_freshWorth 42 = .ok (.lmul, 1) := by decide +kernel
theorem dX12_freshWorth_43 : decode cX12_freshWorth 43 = .ok (.ldc2_w 328, 3) := by decide +kernel
theorem dX12_freshWorth_46 : decode cX12_freshWorth 46 = .ok (.lrem, 1) := by decide +kernel
theorem dX12_freshWorth_47 : decode cX12_freshWorth 47 = .ok (.lstore_n 3, 1) := by decide +kernel
theorem dX12_freshWorth_48 : decode cX12_freshWorth 48 = .ok (.lload 5, 2) := by decide +kernel
theorem dX12_freshWorth_50 : decode cX12_freshWorth 50 = .ok (.aload_n 1, 1) := by decide +kernel
theorem dX12_freshWorth_51 : decode cX12_freshWorth 51 = .ok (.bipush 36, 2) := by decide +kernel
theorem dX12_freshWorth_53 : decode cX12_freshWorth 53 = .ok (.iload 7, 2) := by decide +kernel
theorem dX12_freshWorth_55 : decode cX12_freshWorth 55 = .ok (.iadd, 1) := by decide +kernel
theorem dX12_freshWorth_56 : decode cX12_freshWorth 56 = .ok (.iaload, 1) := by decide +kernel
theorem dX12_freshWorth_57 : decode cX12_freshWorth 57 = .ok (.i2l, 1) := by decide +kernel
theorem dX12_freshWorth_58 : decode cX12_freshWorth 58 = .ok (.iconst 0, 1) := by decide +kernel
theorem dX12_freshWorth_59 : decode cX12_freshWorth 59 = .ok (.aload_n 1, 1) := by decide +kernel
theorem dX12_freshWorth_60 : decode cX12_freshWorth 60 = .ok (.bipush 6, 2) := by decide +kernel
theorem dX12_freshWorth_62 : decode cX12_freshWorth 62 = .ok (.iload_n 2, 1) := by decide +kernel
theorem dX12_freshWorth_63 : decode cX12_freshWorth 63 = .ok (.imul, 1) := by decide +kernel
theorem dX12_freshWorth_64 : decode cX12_freshWorth 64 = .ok (.iload 7, 2) := by decide +kernel
theorem dX12_freshWorth_66 : decode cX12_freshWorth 66 = .ok (.iadd, 1) := by decide +kernel
theorem dX12_freshWorth_67 : decode cX12_freshWorth 67 = .ok (.iaload, 1) := by decide +kernel
theorem dX12_freshWorth_68 : decode cX12_freshWorth 68 = .ok (.invokestatic 326, 3) := by decide +kernel
theorem dX12_freshWorth_71 : decode cX12_freshWorth 71 = .ok (.invokestatic 342, 3) := by decide +kernel
theorem dX12_freshWorth_74 : decode cX12_freshWorth 74 = .ok (.lmul, 1) := by decide +kernel
theorem dX12_freshWorth_75 : decode cX12_freshWorth 75 = .ok (.ldc2_w 328, 3) := by decide +kernel
theorem dX12_freshWorth_78 : decode cX12_freshWorth 78 = .ok (.lrem, 1) := by decide +kernel
theorem dX12_freshWorth_79 : decode cX12_freshWorth 79 = .ok (.lstore 5, 2) := by decide +kernel
theorem dX12_freshWorth_81 : decode cX12_freshWorth 81 = .ok (.iinc 7 1, 3) := by decide +kernel
theorem dX12_freshWorth_84 : decode cX12_freshWorth 84 = .ok (.goto (-76), 3) := by decide +kernel
theorem dX12_freshWorth_87 : decode cX12_freshWorth 87 = .ok (.lload_n 3, 1) := by decide +kernel
theorem dX12_freshWorth_88 : decode cX12_freshWorth 88 = .ok (.lload 5, 2) := by decide +kernel
theorem dX12_freshWorth_90 : decode cX12_freshWorth 90 = .ok (.ladd, 1) := by decide +kernel
theorem dX12_freshWorth_91 : decode cX12_freshWorth 91 = .ok (.ldc2_w 328, 3) := by decide +kernel
theorem dX12_freshWorth_94 : decode cX12_freshWorth 94 = .ok (.lrem, 1) := by decide +kernel
theorem dX12_freshWorth_95 : decode cX12_freshWorth 95 = .ok (.aload_n 1, 1) := by decide +kernel
theorem dX12_freshWorth_96 : decode cX12_freshWorth 96 = .ok (.bipush 36, 2) := by decide +kernel
theorem dX12_freshWorth_98 : decode cX12_freshWorth 98 = .ok (.iload_n 2, 1) := by decide +kernel
theorem dX12_freshWorth_99 : decode cX12_freshWorth 99 = .ok (.iadd, 1) := by decide +kernel
theorem dX12_freshWorth_100 : decode cX12_freshWorth 100 = .ok (.iaload, 1) := by decide +kernel
theorem dX12_freshWorth_101 : decode cX12_freshWorth 101 = .ok (.i2l, 1) := by decide +kernel
theorem dX12_freshWorth_102 : decode cX12_freshWorth 102 = .ok (.invokestatic 346, 3) := by decide +kernel
theorem dX12_freshWorth_105 : decode cX12_freshWorth 105 = .ok (.lmul, 1) := by decide +kernel
theorem dX12_freshWorth_106 : decode cX12_freshWorth 106 = .ok (.ldc2_w 328, 3) := by decide +kernel
theorem dX12_freshWorth_109 : decode cX12_freshWorth 109 = .ok (.lrem, 1) := by decide +kernel
theorem dX12_freshWorth_110 : decode cX12_freshWorth 110 = .ok (.l2i, 1) := by decide +kernel
theorem dX12_freshWorth_111 : decode cX12_freshWorth 111 = .ok (.ireturn, 1) := by decide +kernel
theorem dX12_crosses_0 : decode cX12_crosses 0 = .ok (.aload_n 0, 1) := by decide +kernel
theorem dX12_crosses_1 : decode cX12_crosses 1 = .ok (.aload_n 1, 1) := by decide +kernel
theorem dX12_crosses_2 : decode cX12_crosses 2 = .ok (.iload_n 2, 1) := by decide +kernel
theorem dX12_crosses_3 : decode cX12_crosses 3 = .ok (.invokevirtual 350, 3) := by decide +kernel
theorem dX12_crosses_6 : decode cX12_crosses 6 = .ok (.istore_n 3, 1) := by decide +kernel
theorem dX12_crosses_7 : decode cX12_crosses 7 = .ok (.aload_n 0, 1) := by decide +kernel
theorem dX12_crosses_8 : decode cX12_crosses 8 = .ok (.aload_n 1, 1) := by decide +kernel
theorem dX12_crosses_9 : decode cX12_crosses 9 = .ok (.iload_n 2, 1) := by decide +kernel
theorem dX12_crosses_10 : decode cX12_crosses 10 = .ok (.invokevirtual 331, 3) := by decide +kernel
theorem dX12_crosses_13 : decode cX12_crosses 13 = .ok (.iconst 0, 1) := by decide +kernel
theorem dX12_crosses_14 : decode cX12_crosses 14 = .ok (.istore 4, 2) := by decide +kernel
theorem dX12_crosses_16 : decode cX12_crosses 16 = .ok (.iload 4, 2) := by decide +kernel
theorem dX12_crosses_18 : decode cX12_crosses 18 = .ok (.aload_n 0, 1) := by decide +kernel
theorem dX12_crosses_19 : decode cX12_crosses 19 = .ok (.getfield 307, 3) := by decide +kernel
theorem dX12_crosses_22 : decode cX12_crosses 22 = .ok (.if_icmp .ge 50, 3) := by decide +kernel
theorem dX12_crosses_25 : decode cX12_crosses 25 = .ok (.iconst 0, 1) := by decide +kernel
theorem dX12_crosses_26 : decode cX12_crosses 26 = .ok (.istore 5, 2) := by decide +kernel
theorem dX12_crosses_28 : decode cX12_crosses 28 = .ok (.iload 5, 2) := by decide +kernel
theorem dX12_crosses_30 : decode cX12_crosses 30 = .ok (.aload_n 0, 1) := by decide +kernel
theorem dX12_crosses_31 : decode cX12_crosses 31 = .ok (.getfield 307, 3) := by decide +kernel
theorem dX12_crosses_34 : decode cX12_crosses 34 = .ok (.if_icmp .ge 32, 3) := by decide +kernel
theorem dX12_crosses_37 : decode cX12_crosses 37 = .ok (.aload_n 1, 1) := by decide +kernel
theorem dX12_crosses_38 : decode cX12_crosses 38 = .ok (.bipush 6, 2) := by decide +kernel
theorem dX12_crosses_40 : decode cX12_crosses 40 = .ok (.iload 4, 2) := by decide +kernel
theorem dX12_crosses_42 : decode cX12_crosses 42 = .ok (.imul, 1) := by decide +kernel
theorem dX12_crosses_43 : decode cX12_crosses 43 = .ok (.iload 5, 2) := by decide +kernel
theorem dX12_crosses_45 : decode cX12_crosses 45 = .ok (.iadd, 1) := by decide +kernel
theorem dX12_crosses_46 : decode cX12_crosses 46 = .ok (.aload_n 0, 1) := by decide +kernel
theorem dX12_crosses_47 : decode cX12_crosses 47 = .ok (.getfield 77, 3) := by decide +kernel
theorem dX12_crosses_50 : decode cX12_crosses 50 = .ok (.bipush 6, 2) := by decide +kernel
theorem dX12_crosses_52 : decode cX12_crosses 52 = .ok (.iload 4, 2) := by decide +kernel
theorem dX12_crosses_54 : decode cX12_crosses 54 = .ok (.imul, 1) := by decide +kernel
theorem dX12_crosses_55 : decode cX12_crosses 55 = .ok (.iload 5, 2) := by decide +kernel
theorem dX12_crosses_57 : decode cX12_crosses 57 = .ok (.iadd, 1) := by decide +kernel
theorem dX12_crosses_58 : decode cX12_crosses 58 = .ok (.iaload, 1) := by decide +kernel
theorem dX12_crosses_59 : decode cX12_crosses 59 = .ok (.iastore, 1) := by decide +kernel
theorem dX12_crosses_60 : decode cX12_crosses 60 = .ok (.iinc 5 1, 3) := by decide +kernel
theorem dX12_crosses_63 : decode cX12_crosses 63 = .ok (.goto (-35), 3) := by decide +kernel
theorem dX12_crosses_66 : decode cX12_crosses 66 = .ok (.iinc 4 1, 3) := by decide +kernel
theorem dX12_crosses_69 : decode cX12_crosses 69 = .ok (.goto (-53), 3) := by decide +kernel
theorem dX12_crosses_72 : decode cX12_crosses 72 = .ok (.aload_n 1, 1) := by decide +kernel
theorem dX12_crosses_73 : decode cX12_crosses 73 = .ok (.bipush 36, 2) := by decide +kernel
theorem dX12_crosses_75 : decode cX12_crosses 75 = .ok (.iload_n 2, 1) := by decide +kernel
theorem dX12_crosses_76 : decode cX12_crosses 76 = .ok (.iadd, 1) := by decide +kernel
theorem dX12_crosses_77 : decode cX12_crosses 77 = .ok (.iload_n 3, 1) := by decide +kernel
theorem dX12_crosses_78 : decode cX12_crosses 78 = .ok (.iastore, 1) := by decide +kernel
theorem dX12_crosses_79 : decode cX12_crosses 79 = .ok (.aload_n 1, 1) := by decide +kernel
theorem dX12_crosses_80 : decode cX12_crosses 80 = .ok (.bipush 42, 2) := by decide +kernel
theorem dX12_crosses_82 : decode cX12_crosses 82 = .ok (.iload_n 2, 1) := by decide +kernel
theorem dX12_crosses_83 : decode cX12_crosses 83 = .ok (.iadd, 1) := by decide +kernel
theorem dX12_crosses_84 : decode cX12_crosses 84 = .ok (.dup2, 1) := by decide +kernel
theorem dX12_crosses_85 : decode cX12_crosses 85 = .ok (.iaload, 1) := by decide +kernel
theorem dX12_crosses_86 : decode cX12_crosses 86 = .ok (.iconst 1, 1) := by decide +kernel
theorem dX12_crosses_87 : decode cX12_crosses 87 = .ok (.iadd, 1) := by decide +kernel
theorem dX12_crosses_88 : decode cX12_crosses 88 = .ok (.iastore, 1) := by decide +kernel
theorem dX12_crosses_89 : decode cX12_crosses 89 = .ok (.aload_n 1, 1) := by decide +kernel
theorem dX12_crosses_90 : decode cX12_crosses 90 = .ok (.bipush 50, 2) := by decide +kernel
theorem dX12_crosses_92 : decode cX12_crosses 92 = .ok (.dup2, 1) := by decide +kernel
theorem dX12_crosses_93 : decode cX12_crosses 93 = .ok (.iaload, 1) := by decide +kernel
theorem dX12_crosses_94 : decode cX12_crosses 94 = .ok (.iconst 1, 1) := by decide +kernel
theorem dX12_crosses_95 : decode cX12_crosses 95 = .ok (.iadd, 1) := by decide +kernel
theorem dX12_crosses_96 : decode cX12_crosses 96 = .ok (.iastore, 1) := by decide +kernel
theorem dX12_crosses_97 : decode cX12_crosses 97 = .ok (.return_, 1) := by decide +kernel
theorem dX12_sings_0 : decode cX12_sings 0 = .ok (.iconst 0, 1) := by decide +kernel
theorem dX12_sings_1 : decode cX12_sings 1 = .ok (.istore_n 3, 1) := by decide +kernel
theorem dX12_sings_2 : decode cX12_sings 2 = .ok (.iload_n 3, 1) := by decide +kernel
theorem dX12_sings_3 : decode cX12_sings 3 = .ok (.aload_n 0, 1) := by decide +kernel
theorem dX12_sings_4 : decode cX12_sings 4 = .ok (.getfield 58, 3) := by decide +kernel
theorem dX12_sings_7 : decode cX12_sings 7 = .ok (.iload_n 2, 1) := by decide +kernel
theorem dX12_sings_8 : decode cX12_sings 8 = .ok (.iaload, 1) := by decide +kernel
theorem dX12_sings_9 : decode cX12_sings 9 = .ok (.if_icmp .ge 41, 3) := by decide +kernel
theorem dX12_sings_12 : decode cX12_sings 12 = .ok (.aload_n 0, 1) := by decide +kernel
theorem dX12_sings_13 : decode cX12_sings 13 = .ok (.getfield 55, 3) := by decide +kernel
theorem dX12_sings_16 : decode cX12_sings 16 = .ok (.bipush 16, 2) := by decide +kernel
theorem dX12_sings_18 : decode cX12_sings 18 = .ok (.iload_n 2, 1) := by decide +kernel
theorem dX12_sings_19 : decode cX12_sings 19 = .ok (.imul, 1) := by decide +kernel
theorem dX12_sings_20 : decode cX12_sings 20 = .ok (.iload_n 3, 1) := by decide +kernel
theorem dX12_sings_21 : decode cX12_sings 21 = .ok (.iadd, 1) := by decide +kernel
theorem dX12_sings_22 : decode cX12_sings 22 = .ok (.iaload, 1) := by decide +kernel
theorem dX12_sings_23 : decode cX12_sings 23 = .ok (.istore 4, 2) := by decide +kernel
theorem dX12_sings_25 : decode cX12_sings 25 = .ok (.aload_n 0, 1) := by decide +kernel
theorem dX12_sings_26 : decode cX12_sings 26 = .ok (.aload_n 1, 1) := by decide +kernel
theorem dX12_sings_27 : decode cX12_sings 27 = .ok (.iload 4, 2) := by decide +kernel
theorem dX12_sings_29 : decode cX12_sings 29 = .ok (.invokevirtual 403, 3) := by decide +kernel
theorem dX12_sings_32 : decode cX12_sings 32 = .ok (.ifCond .ne 5, 3) := by decide +kernel
theorem dX12_sings_35 : decode cX12_sings 35 = .ok (.iconst 0, 1) := by decide +kernel
theorem dX12_sings_36 : decode cX12_sings 36 = .ok (.ireturn, 1) := by decide +kernel
theorem dX12_sings_37 : decode cX12_sings 37 = .ok (.aload_n 0, 1) := by decide +kernel
theorem dX12_sings_38 : decode cX12_sings 38 = .ok (.aload_n 1, 1) := by decide +kernel
theorem dX12_sings_39 : decode cX12_sings 39 = .ok (.iload 4, 2) := by decide +kernel
theorem dX12_sings_41 : decode cX12_sings 41 = .ok (.invokevirtual 391, 3) := by decide +kernel
theorem dX12_sings_44 : decode cX12_sings 44 = .ok (.iinc 3 1, 3) := by decide +kernel
theorem dX12_sings_47 : decode cX12_sings 47 = .ok (.goto (-45), 3) := by decide +kernel
theorem dX12_sings_50 : decode cX12_sings 50 = .ok (.iconst 1, 1) := by decide +kernel
theorem dX12_sings_51 : decode cX12_sings 51 = .ok (.ireturn, 1) := by decide +kernel
theorem dX12_singsOften_0 : decode cX12_singsOften 0 = .ok (.aload_n 0, 1) := by decide +kernel
theorem dX12_singsOften_1 : decode cX12_singsOften 1 = .ok (.getfield 61, 3) := by decide +kernel
theorem dX12_singsOften_4 : decode cX12_singsOften 4 = .ok (.aload_n 0, 1) := by decide +kernel
theorem dX12_singsOften_5 : decode cX12_singsOften 5 = .ok (.getfield 64, 3) := by decide +kernel
theorem dX12_singsOften_8 : decode cX12_singsOften 8 = .ok (.invokestatic 428, 3) := by decide +kernel
theorem dX12_singsOften_11 : decode cX12_singsOften 11 = .ok (.iconst 0, 1) := by decide +kernel
theorem dX12_singsOften_12 : decode cX12_singsOften 12 = .ok (.istore_n 3, 1) := by decide +kernel
theorem dX12_singsOften_13 : decode cX12_singsOften 13 = .ok (.iload_n 3, 1) := by decide +kernel
theorem dX12_singsOften_14 : decode cX12_singsOften 14 = .ok (.iload_n 2, 1) := by decide +kernel
theorem dX12_singsOften_15 : decode cX12_singsOften 15 = .ok (.if_icmp .ge 23, 3) := by decide +kernel
theorem dX12_singsOften_18 : decode cX12_singsOften 18 = .ok (.aload_n 0, 1) := by decide +kernel
theorem dX12_singsOften_19 : decode cX12_singsOften 19 = .ok (.aload_n 0, 1) := by decide +kernel
theorem dX12_singsOften_20 : decode cX12_singsOften 20 = .ok (.getfield 64, 3) := by decide +kernel
theorem dX12_singsOften_23 : decode cX12_singsOften 23 = .ok (.iload_n 1, 1) := by decide +kernel
theorem dX12_singsOften_24 : decode cX12_singsOften 24 = .ok (.invokevirtual 432, 3) := by decide +kernel
theorem dX12_singsOften_27 : decode cX12_singsOften 27 = .ok (.ifCond .ne 5, 3) := by decide +kernel
theorem dX12_singsOften_30 : decode cX12_singsOften 30 = .ok (.iconst 0, 1) := by decide +kernel
theorem dX12_singsOften_31 : decode cX12_singsOften 31 = .ok (.ireturn, 1) := by decide +kernel
theorem dX12_singsOften_32 : decode cX12_singsOften 32 = .ok (.iinc 3 1, 3) := by decide +kernel
theorem dX12_singsOften_35 : decode cX12_singsOften 35 = .ok (.goto (-22), 3) := by decide +kernel
theorem dX12_singsOften_38 : decode cX12_singsOften 38 = .ok (.iconst 1, 1) := by decide +kernel
theorem dX12_singsOften_39 : decode cX12_singsOften 39 = .ok (.ireturn, 1) := by decide +kernel
theorem dX12_after_0 : decode cX12_after 0 = .ok (.aload_n 0, 1) := by decide +kernel
theorem dX12_after_1 : decode cX12_after 1 = .ok (.iconst 0, 1) := by decide +kernel
theorem dX12_after_2 : decode cX12_after 2 = .ok (.putfield 111, 3) := by decide +kernel
theorem dX12_after_5 : decode cX12_after 5 = .ok (.aload_n 0, 1) := by decide +kernel
theorem dX12_after_6 : decode cX12_after 6 = .ok (.iload_n 1, 1) := by decide +kernel
theorem dX12_after_7 : decode cX12_after 7 = .ok (.invokevirtual 381, 3) := by decide +kernel
theorem dX12_after_10 : decode cX12_after 10 = .ok (.ifCond .eq 41, 3) := by decide +kernel
theorem dX12_after_13 : decode cX12_after 13 = .ok (.iload_n 2, 1) := by decide +kernel
theorem dX12_after_14 : decode cX12_after 14 = .ok (.i2l, 1) := by decide +kernel
theorem dX12_after_15 : decode cX12_after 15 = .ok (.lconst 0, 1) := by decide +kernel
theorem dX12_after_16 : decode cX12_after 16 = .ok (.ldc2_w 435, 3) := by decide +kernel
theorem dX12_after_19 : decode cX12_after 19 = .ok (.invokestatic 232, 3) := by decide +kernel
theorem dX12_after_22 : decode cX12_after 22 = .ok (.ifCond .eq 29, 3) := by decide +kernel
theorem dX12_after_25 : decode cX12_after 25 = .ok (.aload_n 0, 1) := by decide +kernel
theorem dX12_after_26 : decode cX12_after 26 = .ok (.iload_n 3, 1) := by decide +kernel
theorem dX12_after_27 : decode cX12_after 27 = .ok (.invokevirtual 335, 3) := by decide +kernel
theorem dX12_after_30 : decode cX12_after 30 = .ok (.ifCond .eq 21, 3) := by decide +kernel
theorem dX12_after_33 : decode cX12_after 33 = .ok (.aload_n 0, 1) := by decide +kernel
theorem dX12_after_34 : decode cX12_after 34 = .ok (.iload 4, 2) := by decide +kernel
theorem dX12_after_36 : decode cX12_after 36 = .ok (.invokevirtual 335, 3) := by decide +kernel
theorem dX12_after_39 : decode cX12_after 39 = .ok (.ifCond .eq 12, 3) := by decide +kernel
theorem dX12_after_42 : decode cX12_after 42 = .ok (.aload_n 0, 1) := by decide +kernel
theorem dX12_after_43 : decode cX12_after 43 = .ok (.iload_n 1, 1) := by decide +kernel
theorem dX12_after_44 : decode cX12_after 44 = .ok (.iload_n 2, 1) := by decide +kernel
theorem dX12_after_45 : decode cX12_after 45 = .ok (.invokevirtual 437, 3) := by decide +kernel
theorem dX12_after_48 : decode cX12_after 48 = .ok (.ifCond .ne 7, 3) := by decide +kernel
theorem dX12_after_51 : decode cX12_after 51 = .ok (.ldc_w 380, 3) := by decide +kernel
theorem dX12_after_54 : decode cX12_after 54 = .ok (.ireturn, 1) := by decide +kernel
theorem dX12_after_55 : decode cX12_after 55 = .ok (.aload_n 0, 1) := by decide +kernel
theorem dX12_after_56 : decode cX12_after 56 = .ok (.getfield 64, 3) := by decide +kernel
theorem dX12_after_59 : decode cX12_after 59 = .ok (.bipush 6, 2) := by decide +kernel
theorem dX12_after_61 : decode cX12_after 61 = .ok (.iload_n 3, 1) := by decide +kernel
theorem dX12_after_62 : decode cX12_after 62 = .ok (.imul, 1) := by decide +kernel
theorem dX12_after_63 : decode cX12_after 63 = .ok (.iload 4, 2) := by decide +kernel
theorem dX12_after_65 : decode cX12_after 65 = .ok (.iadd, 1) := by decide +kernel
theorem dX12_after_66 : decode cX12_after 66 = .ok (.iaload, 1) := by decide +kernel
theorem dX12_after_67 : decode cX12_after 67 = .ok (.ireturn, 1) := by decide +kernel
theorem dX12_areSame_0 : decode cX12_areSame 0 = .ok (.iconst 0, 1) := by decide +kernel
theorem dX12_areSame_1 : decode cX12_areSame 1 = .ok (.istore_n 3, 1) := by decide +kernel
theorem dX12_areSame_2 : decode cX12_areSame 2 = .ok (.iload_n 3, 1) := by decide +kernel
theorem dX12_areSame_3 : decode cX12_areSame 3 = .ok (.iload_n 2, 1) := by decide +kernel
theorem dX12_areSame_4 : decode cX12_areSame 4 = .ok (.if_icmp .ge 20, 3) := by decide +kernel
theorem dX12_areSame_7 : decode cX12_areSame 7 = .ok (.aload_n 0, 1) := by decide +kernel
theorem dX12_areSame_8 : decode cX12_areSame 8 = .ok (.iload_n 3, 1) := by decide +kernel
theorem dX12_areSame_9 : decode cX12_areSame 9 = .ok (.iaload, 1) := by decide +kernel
theorem dX12_areSame_10 : decode cX12_areSame 10 = .ok (.aload_n 1, 1) := by decide +kernel
theorem dX12_areSame_11 : decode cX12_areSame 11 = .ok (.iload_n 3, 1) := by decide +kernel
theorem dX12_areSame_12 : decode cX12_areSame 12 = .ok (.iaload, 1) := by decide +kernel
theorem dX12_areSame_13 : decode cX12_areSame 13 = .ok (.if_icmp .eq 5, 3) := by decide +kernel
theorem dX12_areSame_16 : decode cX12_areSame 16 = .ok (.iconst 0, 1) := by decide +kernel
theorem dX12_areSame_17 : decode cX12_areSame 17 = .ok (.ireturn, 1) := by decide +kernel
theorem dX12_areSame_18 : decode cX12_areSame 18 = .ok (.iinc 3 1, 3) := by decide +kernel
theorem dX12_areSame_21 : decode cX12_areSame 21 = .ok (.goto (-19), 3) := by decide +kernel
theorem dX12_areSame_24 : decode cX12_areSame 24 = .ok (.iconst 1, 1) := by decide +kernel
theorem dX12_areSame_25 : decode cX12_areSame 25 = .ok (.ireturn, 1) := by decide +kernel
theorem dX12_again_0 : decode cX12_again 0 = .ok (.aload_n 0, 1) := by decide +kernel
theorem dX12_again_1 : decode cX12_again 1 = .ok (.iconst 0, 1) := by decide +kernel
theorem dX12_again_2 : decode cX12_again 2 = .ok (.putfield 111, 3) := by decide +kernel
theorem dX12_again_5 : decode cX12_again 5 = .ok (.aload_n 0, 1) := by decide +kernel
theorem dX12_again_6 : decode cX12_again 6 = .ok (.iload_n 1, 1) := by decide +kernel
theorem dX12_again_7 : decode cX12_again 7 = .ok (.invokevirtual 381, 3) := by decide +kernel
theorem dX12_again_10 : decode cX12_again 10 = .ok (.ifCond .eq 20, 3) := by decide +kernel
theorem dX12_again_13 : decode cX12_again 13 = .ok (.aload_n 0, 1) := by decide +kernel
theorem dX12_again_14 : decode cX12_again 14 = .ok (.getfield 307, 3) := by decide +kernel
theorem dX12_again_17 : decode cX12_again 17 = .ok (.ifCond .eq 13, 3) := by decide +kernel
theorem dX12_again_20 : decode cX12_again 20 = .ok (.iload_n 2, 1) := by decide +kernel
theorem dX12_again_21 : decode cX12_again 21 = .ok (.i2l, 1) := by decide +kernel
theorem dX12_again_22 : decode cX12_again 22 = .ok (.lconst 0, 1) := by decide +kernel
theorem dX12_again_23 : decode cX12_again 23 = .ok (.lconst 1, 1) := by decide +kernel
theorem dX12_again_24 : decode cX12_again 24 = .ok (.invokestatic 232, 3) := by decide +kernel
theorem dX12_again_27 : decode cX12_again 27 = .ok (.ifCond .ne 5, 3) := by decide +kernel
theorem dX12_again_30 : decode cX12_again 30 = .ok (.iconst (-1), 1) := by decide +kernel
theorem dX12_again_31 : decode cX12_again 31 = .ok (.ireturn, 1) := by decide +kernel
theorem dX12_again_32 : decode cX12_again 32 = .ok (.aload_n 0, 1) := by decide +kernel
theorem dX12_again_33 : decode cX12_again 33 = .ok (.getfield 61, 3) := by decide +kernel
theorem dX12_again_36 : decode cX12_again 36 = .ok (.aload_n 0, 1) := by decide +kernel
theorem dX12_again_37 : decode cX12_again 37 = .ok (.getfield 64, 3) := by decide +kernel
theorem dX12_again_40 : decode cX12_again 40 = .ok (.invokestatic 428, 3) := by decide +kernel
theorem dX12_again_43 : decode cX12_again 43 = .ok (.iconst 1, 1) := by decide +kernel
theorem dX12_again_44 : decode cX12_again 44 = .ok (.istore_n 3, 1) := by decide +kernel
theorem dX12_again_45 : decode cX12_again 45 = .ok (.iload_n 3, 1) := by decide +kernel
theorem dX12_again_46 : decode cX12_again 46 = .ok (.bipush 60, 2) := by decide +kernel
theorem dX12_again_48 : decode cX12_again 48 = .ok (.if_icmp .gt 50, 3) := by decide +kernel
theorem dX12_again_51 : decode cX12_again 51 = .ok (.aload_n 0, 1) := by decide +kernel
theorem dX12_again_52 : decode cX12_again 52 = .ok (.aload_n 0, 1) := by decide +kernel
theorem dX12_again_53 : decode cX12_again 53 = .ok (.getfield 64, 3) := by decide +kernel
theorem dX12_again_56 : decode cX12_again 56 = .ok (.iload_n 1, 1) := by decide +kernel
theorem dX12_again_57 : decode cX12_again 57 = .ok (.invokevirtual 432, 3) := by decide +kernel
theorem dX12_again_60 : decode cX12_again 60 = .ok (.ifCond .ne 5, 3) := by decide +kernel
theorem dX12_again_63 : decode cX12_again 63 = .ok (.iconst (-1), 1) := by decide +kernel
theorem dX12_again_64 : decode cX12_again 64 = .ok (.ireturn, 1) := by decide +kernel
theorem dX12_again_65 : decode cX12_again 65 = .ok (.aload_n 0, 1) := by decide +kernel
theorem dX12_again_66 : decode cX12_again 66 = .ok (.getfield 64, 3) := by decide +kernel
theorem dX12_again_69 : decode cX12_again 69 = .ok (.aload_n 0, 1) := by decide +kernel
theorem dX12_again_70 : decode cX12_again 70 = .ok (.getfield 61, 3) := by decide +kernel
theorem dX12_again_73 : decode cX12_again 73 = .ok (.iload_n 2, 1) := by decide +kernel
theorem dX12_again_74 : decode cX12_again 74 = .ok (.ifCond .ne 8, 3) := by decide +kernel
theorem dX12_again_77 : decode cX12_again 77 = .ok (.bipush 36, 2) := by decide +kernel
theorem dX12_again_79 : decode cX12_again 79 = .ok (.goto 5, 3) := by decide +kernel
theorem dX12_again_82 : decode cX12_again 82 = .ok (.bipush 42, 2) := by decide +kernel
theorem dX12_again_84 : decode cX12_again 84 = .ok (.invokestatic 440, 3) := by decide +kernel
theorem dX12_again_87 : decode cX12_again 87 = .ok (.ifCond .eq 5, 3) := by decide +kernel
theorem dX12_again_90 : decode cX12_again 90 = .ok (.iload_n 3, 1) := by decide +kernel
theorem dX12_again_91 : decode cX12_again 91 = .ok (.ireturn, 1) := by decide +kernel
theorem dX12_again_92 : decode cX12_again 92 = .ok (.iinc 3 1, 3) := by decide +kernel
theorem dX12_again_95 : decode cX12_again 95 = .ok (.goto (-50), 3) := by decide +kernel
theorem dX12_again_98 : decode cX12_again 98 = .ok (.iconst (-1), 1) := by decide +kernel
theorem dX12_again_99 : decode cX12_again 99 = .ok (.ireturn, 1) := by decide +kernel
theorem dX12_out_0 : decode cX12_out 0 = .ok (.iconst 0, 1) := by decide +kernel
theorem dX12_out_1 : decode cX12_out 1 = .ok (.istore_n 3, 1) := by decide +kernel
theorem dX12_out_2 : decode cX12_out 2 = .ok (.iconst 0, 1) := by decide +kernel
theorem dX12_out_3 : decode cX12_out 3 = .ok (.istore 4, 2) := by decide +kernel
theorem dX12_out_5 : decode cX12_out 5 = .ok (.iload 4, 2) := by decide +kernel
theorem dX12_out_7 : decode cX12_out 7 = .ok (.aload_n 0, 1) := by decide +kernel
theorem dX12_out_8 : decode cX12_out 8 = .ok (.getfield 307, 3) := by decide +kernel
theorem dX12_out_11 : decode cX12_out 11 = .ok (.if_icmp .ge 25, 3) := by decide +kernel
theorem dX12_out_14 : decode cX12_out 14 = .ok (.iload_n 3, 1) := by decide +kernel
theorem dX12_out_15 : decode cX12_out 15 = .ok (.iconst 0, 1) := by decide +kernel
theorem dX12_out_16 : decode cX12_out 16 = .ok (.aload_n 1, 1) := by decide +kernel
theorem dX12_out_17 : decode cX12_out 17 = .ok (.bipush 6, 2) := by decide +kernel
theorem dX12_out_19 : decode cX12_out 19 = .ok (.iload_n 2, 1) := by decide +kernel
theorem dX12_out_20 : decode cX12_out 20 = .ok (.imul, 1) := by decide +kernel
theorem dX12_out_21 : decode cX12_out 21 = .ok (.iload 4, 2) := by decide +kernel
theorem dX12_out_23 : decode cX12_out 23 = .ok (.iadd, 1) := by decide +kernel
theorem dX12_out_24 : decode cX12_out 24 = .ok (.iaload, 1) := by decide +kernel
theorem dX12_out_25 : decode cX12_out 25 = .ok (.invokestatic 326, 3) := by decide +kernel
theorem dX12_out_28 : decode cX12_out 28 = .ok (.iadd, 1) := by decide +kernel
theorem dX12_out_29 : decode cX12_out 29 = .ok (.istore_n 3, 1) := by decide +kernel
theorem dX12_out_30 : decode cX12_out 30 = .ok (.iinc 4 1, 3) := by decide +kernel
theorem dX12_out_33 : decode cX12_out 33 = .ok (.goto (-28), 3) := by decide +kernel
theorem dX12_out_36 : decode cX12_out 36 = .ok (.iload_n 3, 1) := by decide +kernel
theorem dX12_out_37 : decode cX12_out 37 = .ok (.ireturn, 1) := by decide +kernel
theorem dX12_allFavours_0 : decode cX12_allFavours 0 = .ok (.iconst 0, 1) := by decide +kernel
theorem dX12_allFavours_1 : decode cX12_allFavours 1 = .ok (.istore_n 2, 1) := by decide +kernel
theorem dX12_allFavours_2 : decode cX12_allFavours 2 = .ok (.iconst 0, 1) := by decide +kernel
theorem dX12_allFavours_3 : decode cX12_allFavours 3 = .ok (.istore_n 3, 1) := by decide +kernel
theorem dX12_allFavours_4 : decode cX12_allFavours 4 = .ok (.iload_n 3, 1) := by decide +kernel
theorem dX12_allFavours_5 : decode cX12_allFavours 5 = .ok (.aload_n 0, 1) := by decide +kernel
theorem dX12_allFavours_6 : decode cX12_allFavours 6 = .ok (.getfield 307, 3) := by decide +kernel
theorem dX12_allFavours_9 : decode cX12_allFavours 9 = .ok (.if_icmp .ge 18, 3) := by decide +kernel
theorem dX12_allFavours_12 : decode cX12_allFavours 12 = .ok (.iload_n 2, 1) := by decide +kernel
theorem dX12_allFavours_13 : decode cX12_allFavours 13 = .ok (.aload_n 0, 1) := by decide +kernel
theorem dX12_allFavours_14 : decode cX12_allFavours 14 = .ok (.aload_n 1, 1) := by decide +kernel
theorem dX12_allFavours_15 : decode cX12_allFavours 15 = .ok (.iload_n 3, 1) := by decide +kernel
theorem dX12_allFavours_16 : decode cX12_allFavours 16 = .ok (.invokevirtual 353, 3) := by decide +kernel
theorem dX12_allFavours_19 : decode cX12_allFavours 19 = .ok (.iadd, 1) := by decide +kernel
theorem dX12_allFavours_20 : decode cX12_allFavours 20 = .ok (.istore_n 2, 1) := by decide +kernel
theorem dX12_allFavours_21 : decode cX12_allFavours 21 = .ok (.iinc 3 1, 3) := by decide +kernel
theorem dX12_allFavours_24 : decode cX12_allFavours 24 = .ok (.goto (-20), 3) := by decide +kernel
theorem dX12_allFavours_27 : decode cX12_allFavours 27 = .ok (.iload_n 2, 1) := by decide +kernel
theorem dX12_allFavours_28 : decode cX12_allFavours 28 = .ok (.ireturn, 1) := by decide +kernel
theorem dX12_in_0 : decode cX12_in 0 = .ok (.iconst 0, 1) := by decide +kernel
theorem dX12_in_1 : decode cX12_in 1 = .ok (.istore_n 3, 1) := by decide +kernel
theorem dX12_in_2 : decode cX12_in 2 = .ok (.iconst 0, 1) := by decide +kernel
theorem dX12_in_3 : decode cX12_in 3 = .ok (.istore 4, 2) := by decide +kernel
theorem dX12_in_5 : decode cX12_in 5 = .ok (.iload 4, 2) := by decide +kernel
theorem dX12_in_7 : decode cX12_in 7 = .ok (.aload_n 0, 1) := by decide +kernel
theorem dX12_in_8 : decode cX12_in 8 = .ok (.getfield 307, 3) := by decide +kernel
theorem dX12_in_11 : decode cX12_in 11 = .ok (.if_icmp .ge 25, 3) := by decide +kernel
theorem dX12_in_14 : decode cX12_in 14 = .ok (.iload_n 3, 1) := by decide +kernel
theorem dX12_in_15 : decode cX12_in 15 = .ok (.iconst 0, 1) := by decide +kernel
theorem dX12_in_16 : decode cX12_in 16 = .ok (.aload_n 1, 1) := by decide +kernel
theorem dX12_in_17 : decode cX12_in 17 = .ok (.bipush 6, 2) := by decide +kernel
theorem dX12_in_19 : decode cX12_in 19 = .ok (.iload 4, 2) := by decide +kernel
theorem dX12_in_21 : decode cX12_in 21 = .ok (.imul, 1) := by decide +kernel
theorem dX12_in_22 : decode cX12_in 22 = .ok (.iload_n 2, 1) := by decide +kernel
theorem dX12_in_23 : decode cX12_in 23 = .ok (.iadd, 1) := by decide +kernel
theorem dX12_in_24 : decode cX12_in 24 = .ok (.iaload, 1) := by decide +kernel
theorem dX12_in_25 : decode cX12_in 25 = .ok (.invokestatic 326, 3) := by decide +kernel
theorem dX12_in_28 : decode cX12_in 28 = .ok (.iadd, 1) := by decide +kernel
theorem dX12_in_29 : decode cX12_in 29 = .ok (.istore_n 3, 1) := by decide +kernel
theorem dX12_in_30 : decode cX12_in 30 = .ok (.iinc 4 1, 3) := by decide +kernel
theorem dX12_in_33 : decode cX12_in 33 = .ok (.goto (-28), 3) := by decide +kernel
theorem dX12_in_36 : decode cX12_in 36 = .ok (.iload_n 3, 1) := by decide +kernel
theorem dX12_in_37 : decode cX12_in 37 = .ok (.ireturn, 1) := by decide +kernel
theorem dX12_valueOf_0 : decode cX12_valueOf 0 = .ok (.iload_n 1, 1) := by decide +kernel
theorem dX12_valueOf_1 : decode cX12_valueOf 1 = .ok (.tableswitch 71 0 3 #[31, 41, 51, 61], 31) := by decide +kernel
theorem dX12_valueOf_32 : decode cX12_valueOf 32 = .ok (.aload_n 0, 1) := by decide +kernel
theorem dX12_valueOf_33 : decode cX12_valueOf 33 = .ok (.aload_n 0, 1) := by decide +kernel
theorem dX12_valueOf_34 : decode cX12_valueOf 34 = .ok (.getfield 61, 3) := by decide +kernel
theorem dX12_valueOf_37 : decode cX12_valueOf 37 = .ok (.iload_n 2, 1) := by decide +kernel
theorem dX12_valueOf_38 : decode cX12_valueOf 38 = .ok (.invokevirtual 370, 3) := by decide +kernel
theorem dX12_valueOf_41 : decode cX12_valueOf 41 = .ok (.ireturn, 1) := by decide +kernel
theorem dX12_valueOf_42 : decode cX12_valueOf 42 = .ok (.aload_n 0, 1) := by decide +kernel
theorem dX12_valueOf_43 : decode cX12_valueOf 43 = .ok (.aload_n 0, 1) := by decide +kernel
theorem dX12_valueOf_44 : decode cX12_valueOf 44 = .ok (.getfield 61, 3) := by decide +kernel
theorem dX12_valueOf_47 : decode cX12_valueOf 47 = .ok (.iload_n 2, 1) := by decide +kernel
theorem dX12_valueOf_48 : decode cX12_valueOf 48 = .ok (.invokevirtual 353, 3) := by decide +kernel
theorem dX12_valueOf_51 : decode cX12_valueOf 51 = .ok (.ireturn, 1) := by decide +kernel
theorem dX12_valueOf_52 : decode cX12_valueOf 52 = .ok (.aload_n 0, 1) := by decide +kernel
theorem dX12_valueOf_53 : decode cX12_valueOf 53 = .ok (.getfield 61, 3) := by decide +kernel
theorem dX12_valueOf_56 : decode cX12_valueOf 56 = .ok (.bipush 36, 2) := by decide +kernel
theorem dX12_valueOf_58 : decode cX12_valueOf 58 = .ok (.iload_n 2, 1) := by decide +kernel
theorem dX12_valueOf_59 : decode cX12_valueOf 59 = .ok (.iadd, 1) := by decide +kernel
theorem dX12_valueOf_60 : decode cX12_valueOf 60 = .ok (.iaload, 1) := by decide +kernel
theorem dX12_valueOf_61 : decode cX12_valueOf 61 = .ok (.ireturn, 1) := by decide +kernel
theorem dX12_valueOf_62 : decode cX12_valueOf 62 = .ok (.aload_n 0, 1) := by decide +kernel
theorem dX12_valueOf_63 : decode cX12_valueOf 63 = .ok (.getfield 61, 3) := by decide +kernel
theorem dX12_valueOf_66 : decode cX12_valueOf 66 = .ok (.bipush 42, 2) := by decide +kernel
theorem dX12_valueOf_68 : decode cX12_valueOf 68 = .ok (.iload_n 2, 1) := by decide +kernel
theorem dX12_valueOf_69 : decode cX12_valueOf 69 = .ok (.iadd, 1) := by decide +kernel
theorem dX12_valueOf_70 : decode cX12_valueOf 70 = .ok (.iaload, 1) := by decide +kernel
theorem dX12_valueOf_71 : decode cX12_valueOf 71 = .ok (.ireturn, 1) := by decide +kernel
theorem dX12_valueOf_72 : decode cX12_valueOf 72 = .ok (.aload_n 0, 1) := by decide +kernel
theorem dX12_valueOf_73 : decode cX12_valueOf 73 = .ok (.getfield 43, 3) := by decide +kernel
theorem dX12_valueOf_76 : decode cX12_valueOf 76 = .ok (.iconst 3, 1) := by decide +kernel
theorem dX12_valueOf_77 : decode cX12_valueOf 77 = .ok (.iload_n 2, 1) := by decide +kernel
theorem dX12_valueOf_78 : decode cX12_valueOf 78 = .ok (.imul, 1) := by decide +kernel
theorem dX12_valueOf_79 : decode cX12_valueOf 79 = .ok (.iconst 1, 1) := by decide +kernel
theorem dX12_valueOf_80 : decode cX12_valueOf 80 = .ok (.iadd, 1) := by decide +kernel
theorem dX12_valueOf_81 : decode cX12_valueOf 81 = .ok (.iaload, 1) := by decide +kernel
theorem dX12_valueOf_82 : decode cX12_valueOf 82 = .ok (.ireturn, 1) := by decide +kernel
theorem dX12_greatest_0 : decode cX12_greatest 0 = .ok (.iconst 0, 1) := by decide +kernel
theorem dX12_greatest_1 : decode cX12_greatest 1 = .ok (.istore_n 2, 1) := by decide +kernel
theorem dX12_greatest_2 : decode cX12_greatest 2 = .ok (.iconst 1, 1) := by decide +kernel
theorem dX12_greatest_3 : decode cX12_greatest 3 = .ok (.istore_n 3, 1) := by decide +kernel
theorem dX12_greatest_4 : decode cX12_greatest 4 = .ok (.iload_n 3, 1) := by decide +kernel
theorem dX12_greatest_5 : decode cX12_greatest 5 = .ok (.aload_n 0, 1) := by decide +kernel
theorem dX12_greatest_6 : decode cX12_greatest 6 = .ok (.getfield 307, 3) := by decide +kernel
theorem dX12_greatest_9 : decode cX12_greatest 9 = .ok (.if_icmp .ge 30, 3) := by decide +kernel
theorem dX12_greatest_12 : decode cX12_greatest 12 = .ok (.aload_n 0, 1) := by decide +kernel
theorem dX12_greatest_13 : decode cX12_greatest 13 = .ok (.iload_n 1, 1) := by decide +kernel
theorem dX12_greatest_14 : decode cX12_greatest 14 = .ok (.iload_n 3, 1) := by decide +kernel
theorem dX12_greatest_15 : decode cX12_greatest 15 = .ok (.invokevirtual 510, 3) := by decide +kernel
theorem dX12_greatest_18 : decode cX12_greatest 18 = .ok (.aload_n 0, 1) := by decide +kernel
theorem dX12_greatest_19 : decode cX12_greatest 19 = .ok (.iload_n 1, 1) := by decide +kernel
theorem dX12_greatest_20 : decode cX12_greatest 20 = .ok (.iload_n 2, 1) := by decide +kernel
theorem dX12_greatest_21 : decode cX12_greatest 21 = .ok (.invokevirtual 510, 3) := by decide +kernel
theorem dX12_greatest_24 : decode cX12_greatest 24 = .ok (.if_icmp .le 7, 3) := by decide +kernel
theorem dX12_greatest_27 : decode cX12_greatest 27 = .ok (.iload_n 3, 1) := by decide +kernel
theorem dX12_greatest_28 : decode cX12_greatest 28 = .ok (.goto 4, 3) := by decide +kernel
theorem dX12_greatest_31 : decode cX12_greatest 31 = .ok (.iload_n 2, 1) := by decide +kernel
theorem dX12_greatest_32 : decode cX12_greatest 32 = .ok (.istore_n 2, 1) := by decide +kernel
theorem dX12_greatest_33 : decode cX12_greatest 33 = .ok (.iinc 3 1, 3) := by decide +kernel
theorem dX12_greatest_36 : decode cX12_greatest 36 = .ok (.goto (-32), 3) := by decide +kernel
theorem dX12_greatest_39 : decode cX12_greatest 39 = .ok (.iload_n 2, 1) := by decide +kernel
theorem dX12_greatest_40 : decode cX12_greatest 40 = .ok (.ireturn, 1) := by decide +kernel
theorem dX12_laysSteps_0 : decode cX12_laysSteps 0 = .ok (.iconst 0, 1) := by decide +kernel
theorem dX12_laysSteps_1 : decode cX12_laysSteps 1 = .ok (.istore_n 3, 1) := by decide +kernel
theorem dX12_laysSteps_2 : decode cX12_laysSteps 2 = .ok (.iload_n 3, 1) := by decide +kernel
theorem dX12_laysSteps_3 : decode cX12_laysSteps 3 = .ok (.bipush 6, 2) := by decide +kernel
theorem dX12_laysSteps_5 : decode cX12_laysSteps 5 = .ok (.if_icmp .ge 16, 3) := by decide +kernel
theorem dX12_laysSteps_8 : decode cX12_laysSteps 8 = .ok (.aload_n 0, 1) := by decide +kernel
theorem dX12_laysSteps_9 : decode cX12_laysSteps 9 = .ok (.getfield 80, 3) := by decide +kernel
theorem dX12_laysSteps_12 : decode cX12_laysSteps 12 = .ok (.iload_n 3, 1) := by decide +kernel
theorem dX12_laysSteps_13 : decode cX12_laysSteps 13 = .ok (.iconst (-1), 1) := by decide +kernel
theorem dX12_laysSteps_14 : decode cX12_laysSteps 14 = .ok (.iastore, 1) := by decide +kernel
theorem dX12_laysSteps_15 : decode cX12_laysSteps 15 = .ok (.iinc 3 1, 3) := by decide +kernel
theorem dX12_laysSteps_18 : decode cX12_laysSteps 18 = .ok (.goto (-16), 3) := by decide +kernel
theorem dX12_laysSteps_21 : decode cX12_laysSteps 21 = .ok (.iconst 1, 1) := by decide +kernel
theorem dX12_laysSteps_22 : decode cX12_laysSteps 22 = .ok (.iload_n 2, 1) := by decide +kernel
theorem dX12_laysSteps_23 : decode cX12_laysSteps 23 = .ok (.ishl, 1) := by decide +kernel
theorem dX12_laysSteps_24 : decode cX12_laysSteps 24 = .ok (.istore_n 3, 1) := by decide +kernel
theorem dX12_laysSteps_25 : decode cX12_laysSteps 25 = .ok (.iconst 1, 1) := by decide +kernel
theorem dX12_laysSteps_26 : decode cX12_laysSteps 26 = .ok (.istore 4, 2) := by decide +kernel
theorem dX12_laysSteps_28 : decode cX12_laysSteps 28 = .ok (.iload 4, 2) := by decide +kernel
theorem dX12_laysSteps_30 : decode cX12_laysSteps 30 = .ok (.aload_n 0, 1) := by decide +kernel
theorem dX12_laysSteps_31 : decode cX12_laysSteps 31 = .ok (.getfield 307, 3) := by decide +kernel
theorem dX12_laysSteps_34 : decode cX12_laysSteps 34 = .ok (.if_icmp .gt 130, 3) := by decide +kernel
theorem dX12_laysSteps_37 : decode cX12_laysSteps 37 = .ok (.iconst 0, 1) := by decide +kernel
theorem dX12_laysSteps_38 : decode cX12_laysSteps 38 = .ok (.istore 5, 2) := by decide +kernel
theorem dX12_laysSteps_40 : decode cX12_laysSteps 40 = .ok (.iconst 0, 1) := by decide +kernel
theorem dX12_laysSteps_41 : decode cX12_laysSteps 41 = .ok (.istore 6, 2) := by decide +kernel
theorem dX12_laysSteps_43 : decode cX12_laysSteps 43 = .ok (.iload 6, 2) := by decide +kernel
theorem dX12_laysSteps_45 : decode cX12_laysSteps 45 = .ok (.aload_n 0, 1) := by decide +kernel
theorem dX12_laysSteps_46 : decode cX12_laysSteps 46 = .ok (.getfield 307, 3) := by decide +kernel
theorem dX12_laysSteps_49 : decode cX12_laysSteps 49 = .ok (.if_icmp .ge 69, 3) := by decide +kernel
theorem dX12_laysSteps_52 : decode cX12_laysSteps 52 = .ok (.iconst 0, 1) := by decide +kernel
theorem dX12_laysSteps_53 : decode cX12_laysSteps 53 = .ok (.istore 7, 2) := by decide +kernel
theorem dX12_laysSteps_55 : decode cX12_laysSteps 55 = .ok (.iload 7, 2) := by decide +kernel
theorem dX12_laysSteps_57 : decode cX12_laysSteps 57 = .ok (.aload_n 0, 1) := by decide +kernel
theorem dX12_laysSteps_58 : decode cX12_laysSteps 58 = .ok (.getfield 307, 3) := by decide +kernel
theorem dX12_laysSteps_61 : decode cX12_laysSteps 61 = .ok (.if_icmp .ge 51, 3) := by decide +kernel
theorem dX12_laysSteps_64 : decode cX12_laysSteps 64 = .ok (.iload_n 3, 1) := by decide +kernel
theorem dX12_laysSteps_65 : decode cX12_laysSteps 65 = .ok (.iload 6, 2) := by decide +kernel
theorem dX12_laysSteps_67 : decode cX12_laysSteps 67 = .ok (.invokestatic 244, 3) := by decide +kernel
theorem dX12_laysSteps_70 : decode cX12_laysSteps 70 = .ok (.ifCond .eq 36, 3) := by decide +kernel
theorem dX12_laysSteps_73 : decode cX12_laysSteps 73 = .ok (.aload_n 1, 1) := by decide +kernel
theorem dX12_laysSteps_74 : decode cX12_laysSteps 74 = .ok (.bipush 6, 2) := by decide +kernel
theorem dX12_laysSteps_76 : decode cX12_laysSteps 76 = .ok (.iload 6, 2) := by decide +kernel
theorem dX12_laysSteps_78 : decode cX12_laysSteps 78 = .ok (.imul, 1) := by decide +kernel
theorem dX12_laysSteps_79 : decode cX12_laysSteps 79 = .ok (.iload 7, 2) := by decide +kernel
theorem dX12_laysSteps_81 : decode cX12_laysSteps 81 = .ok (.iadd, 1) := by decide +kernel
theorem dX12_laysSteps_82 : decode cX12_laysSteps 82 = .ok (.iaload, 1) := by decide +kernel
theorem dX12_laysSteps_83 : decode cX12_laysSteps 83 = .ok (.ifCond .le 23, 3) := by decide +kernel
theorem dX12_laysSteps_86 : decode cX12_laysSteps 86 = .ok (.aload_n 0, 1) := by decide +kernel
theorem dX12_laysSteps_87 : decode cX12_laysSteps 87 = .ok (.getfield 80, 3) := by decide +kernel
theorem dX12_laysSteps_90 : decode cX12_laysSteps 90 = .ok (.iload 7, 2) := by decide +kernel
theorem dX12_laysSteps_92 : decode cX12_laysSteps 92 = .ok (.iaload, 1) := by decide +kernel
theorem dX12_laysSteps_93 : decode cX12_laysSteps 93 = .ok (.iconst (-1), 1) := by decide +kernel
theorem dX12_laysSteps_94 : decode cX12_laysSteps 94 = .ok (.if_icmp .ne 12, 3) := by decide +kernel
theorem dX12_laysSteps_97 : decode cX12_laysSteps 97 = .ok (.iload 5, 2) := by decide +kernel
theorem dX12_laysSteps_99 : decode cX12_laysSteps 99 = .ok (.iconst 1, 1) := by decide +kernel
theorem dX12_laysSteps_100 : decode cX12_laysSteps 100 = .ok (.iload 7, 2) := by decide +kernel
theorem dX12_laysSteps_102 : decode cX12_laysSteps 102 = .ok (.ishl, 1) := by decide +kernel
theorem dX12_laysSteps_103 : decode cX12_laysSteps 103 = .ok (.ior, 1) := by decide +kernel
theorem dX12_laysSteps_104 : decode cX12_laysSteps 104 = .ok (.istore 5, 2) := by decide +kernel
theorem dX12_laysSteps_106 : decode cX12_laysSteps 106 = .ok (.iinc 7 1, 3) := by decide +kernel
theorem dX12_laysSteps_109 : decode cX12_laysSteps 109 = .ok (.goto (-54), 3) := by decide +kernel
theorem dX12_laysSteps_112 : decode cX12_laysSteps 112 = .ok (.iinc 6 1, 3) := by decide +kernel
theorem dX12_laysSteps_115 : decode cX12_laysSteps 115 = .ok (.goto (-72), 3) := by decide +kernel
theorem dX12_laysSteps_118 : decode cX12_laysSteps 118 = .ok (.iconst 0, 1) := by decide +kernel
theorem dX12_laysSteps_119 : decode cX12_laysSteps 119 = .ok (.istore 6, 2) := by decide +kernel
theorem dX12_laysSteps_121 : decode cX12_laysSteps 121 = .ok (.iload 6, 2) := by decide +kernel
theorem dX12_laysSteps_123 : decode cX12_laysSteps 123 = .ok (.aload_n 0, 1) := by decide +kernel
theorem dX12_laysSteps_124 : decode cX12_laysSteps 124 = .ok (.getfield 307, 3) := by decide +kernel
theorem dX12_laysSteps_127 : decode cX12_laysSteps 127 = .ok (.if_icmp .ge 28, 3) := by decide +kernel
theorem dX12_laysSteps_130 : decode cX12_laysSteps 130 = .ok (.iload 5, 2) := by decide +kernel
theorem dX12_laysSteps_132 : decode cX12_laysSteps 132 = .ok (.iload 6, 2) := by decide +kernel
theorem dX12_laysSteps_134 : decode cX12_laysSteps 134 = .ok (.invokestatic 244, 3) := by decide +kernel
theorem dX12_laysSteps_137 : decode cX12_laysSteps 137 = .ok (.ifCond .eq 12, 3) := by decide +kernel
theorem dX12_laysSteps_140 : decode cX12_laysSteps 140 = .ok (.aload_n 0, 1) := by decide +kernel
theorem dX12_laysSteps_141 : decode cX12_laysSteps 141 = .ok (.getfield 80, 3) := by decide +kernel
theorem dX12_laysSteps_144 : decode cX12_laysSteps 144 = .ok (.iload 6, 2) := by decide +kernel
theorem dX12_laysSteps_146 : decode cX12_laysSteps 146 = .ok (.iload 4, 2) := by decide +kernel
theorem dX12_laysSteps_148 : decode cX12_laysSteps 148 = .ok (.iastore, 1) := by decide +kernel
theorem dX12_laysSteps_149 : decode cX12_laysSteps 149 = .ok (.iinc 6 1, 3) := by decide +kernel
theorem dX12_laysSteps_152 : decode cX12_laysSteps 152 = .ok (.goto (-31), 3) := by decide +kernel
theorem dX12_laysSteps_155 : decode cX12_laysSteps 155 = .ok (.iload 5, 2) := by decide +kernel
theorem dX12_laysSteps_157 : decode cX12_laysSteps 157 = .ok (.istore_n 3, 1) := by decide +kernel
theorem dX12_laysSteps_158 : decode cX12_laysSteps 158 = .ok (.iinc 4 1, 3) := by decide +kernel
theorem dX12_laysSteps_161 : decode cX12_laysSteps 161 = .ok (.goto (-133), 3) := by decide +kernel
theorem dX12_laysSteps_164 : decode cX12_laysSteps 164 = .ok (.return_, 1) := by decide +kernel
theorem dX12_shortestRing_0 : decode cX12_shortestRing 0 = .ok (.iconst (-1), 1) := by decide +kernel
theorem dX12_shortestRing_1 : decode cX12_shortestRing 1 = .ok (.istore_n 2, 1) := by decide +kernel
theorem dX12_shortestRing_2 : decode cX12_shortestRing 2 = .ok (.iconst 0, 1) := by decide +kernel
theorem dX12_shortestRing_3 : decode cX12_shortestRing 3 = .ok (.istore_n 3, 1) := by decide +kernel
theorem dX12_shortestRing_4 : decode cX12_shortestRing 4 = .ok (.iload_n 3, 1) := by decide +kernel
theorem dX12_shortestRing_5 : decode cX12_shortestRing 5 = .ok (.aload_n 0, 1) := by decide +kernel
theorem dX12_shortestRing_6 : decode cX12_shortestRing 6 = .ok (.getfield 307, 3) := by decide +kernel
theorem dX12_shortestRing_9 : decode cX12_shortestRing 9 = .ok (.if_icmp .ge 47, 3) := by decide +kernel
theorem dX12_shortestRing_12 : decode cX12_shortestRing 12 = .ok (.aload_n 0, 1) := by decide +kernel
theorem dX12_shortestRing_13 : decode cX12_shortestRing 13 = .ok (.aload_n 1, 1) := by decide +kernel
theorem dX12_shortestRing_14 : decode cX12_shortestRing 14 = .ok (.iload_n 3, 1) := by decide +kernel
theorem dX12_shortestRing_15 : decode cX12_shortestRing 15 = .ok (.invokevirtual 356, 3) := by decide +kernel
theorem dX12_shortestRing_18 : decode cX12_shortestRing 18 = .ok (.aload_n 0, 1) := by decide +kernel
theorem dX12_shortestRing_19 : decode cX12_shortestRing 19 = .ok (.getfield 80, 3) := by decide +kernel
theorem dX12_shortestRing_22 : decode cX12_shortestRing 22 = .ok (.iload_n 3, 1) := by decide +kernel
theorem dX12_shortestRing_23 : decode cX12_shortestRing 23 = .ok (.iaload, 1) := by decide +kernel
theorem dX12_shortestRing_24 : decode cX12_shortestRing 24 = .ok (.iconst (-1), 1) := by decide +kernel
theorem dX12_shortestRing_25 : decode cX12_shortestRing 25 = .ok (.if_icmp .eq 25, 3) := by decide +kernel
theorem dX12_shortestRing_28 : decode cX12_shortestRing 28 = .ok (.iload_n 2, 1) := by decide +kernel
theorem dX12_shortestRing_29 : decode cX12_shortestRing 29 = .ok (.iconst (-1), 1) := by decide +kernel
theorem dX12_shortestRing_30 : decode cX12_shortestRing 30 = .ok (.if_icmp .eq 13, 3) := by decide +kernel
theorem dX12_shortestRing_33 : decode cX12_shortestRing 33 = .ok (.aload_n 0, 1) := by decide +kernel
theorem dX12_shortestRing_34 : decode cX12_shortestRing 34 = .ok (.getfield 80, 3) := by decide +kernel
theorem dX12_shortestRing_37 : decode cX12_shortestRing 37 = .ok (.iload_n 3, 1) := by decide +kernel
theorem dX12_shortestRing_38 : decode cX12_shortestRing 38 = .ok (.iaload, 1) := by decide +kernel
theorem dX12_shortestRing_39 : decode cX12_shortestRing 39 = .ok (.iload_n 2, 1) := by decide +kernel
theorem dX12_shortestRing_40 : decode cX12_shortestRing 40 = .ok (.if_icmp .ge 10, 3) := by decide +kernel
theorem dX12_shortestRing_43 : decode cX12_shortestRing 43 = .ok (.aload_n 0, 1) := by decide +kernel
theorem dX12_shortestRing_44 : decode cX12_shortestRing 44 = .ok (.getfield 80, 3) := by decide +kernel
theorem dX12_shortestRing_47 : decode cX12_shortestRing 47 = .ok (.iload_n 3, 1) := by decide +kernel
theorem dX12_shortestRing_48 : decode cX12_shortestRing 48 = .ok (.iaload, 1) := by decide +kernel
theorem dX12_shortestRing_49 : decode cX12_shortestRing 49 = .ok (.istore_n 2, 1) := by decide +kernel
theorem dX12_shortestRing_50 : decode cX12_shortestRing 50 = .ok (.iinc 3 1, 3) := by decide +kernel
theorem dX12_shortestRing_53 : decode cX12_shortestRing 53 = .ok (.goto (-49), 3) := by decide +kernel
theorem dX12_shortestRing_56 : decode cX12_shortestRing 56 = .ok (.iload_n 2, 1) := by decide +kernel
theorem dX12_shortestRing_57 : decode cX12_shortestRing 57 = .ok (.ireturn, 1) := by decide +kernel
theorem dX12_hasRing_0 : decode cX12_hasRing 0 = .ok (.aload_n 0, 1) := by decide +kernel
theorem dX12_hasRing_1 : decode cX12_hasRing 1 = .ok (.aload_n 1, 1) := by decide +kernel
theorem dX12_hasRing_2 : decode cX12_hasRing 2 = .ok (.invokevirtual 359, 3) := by decide +kernel
theorem dX12_hasRing_5 : decode cX12_hasRing 5 = .ok (.iconst (-1), 1) := by decide +kernel
theorem dX12_hasRing_6 : decode cX12_hasRing 6 = .ok (.if_icmp .eq 7, 3) := by decide +kernel
theorem dX12_hasRing_9 : decode cX12_hasRing 9 = .ok (.iconst 1, 1) := by decide +kernel
theorem dX12_hasRing_10 : decode cX12_hasRing 10 = .ok (.goto 4, 3) := by decide +kernel
theorem dX12_hasRing_13 : decode cX12_hasRing 13 = .ok (.iconst 0, 1) := by decide +kernel
theorem dX12_hasRing_14 : decode cX12_hasRing 14 = .ok (.ireturn, 1) := by decide +kernel
theorem dX12_levels_0 : decode cX12_levels 0 = .ok (.aload_n 0, 1) := by decide +kernel
theorem dX12_levels_1 : decode cX12_levels 1 = .ok (.aload_n 0, 1) := by decide +kernel
theorem dX12_levels_2 : decode cX12_levels 2 = .ok (.getfield 61, 3) := by decide +kernel
theorem dX12_levels_5 : decode cX12_levels 5 = .ok (.invokevirtual 366, 3) := by decide +kernel
theorem dX12_levels_8 : decode cX12_levels 8 = .ok (.ifCond .eq 5, 3) := by decide +kernel
theorem dX12_levels_11 : decode cX12_levels 11 = .ok (.iconst (-1), 1) := by decide +kernel
theorem dX12_levels_12 : decode cX12_levels 12 = .ok (.ireturn, 1) := by decide +kernel
theorem dX12_levels_13 : decode cX12_levels 13 = .ok (.iconst 0, 1) := by decide +kernel
theorem dX12_levels_14 : decode cX12_levels 14 = .ok (.istore_n 1, 1) := by decide +kernel
theorem dX12_levels_15 : decode cX12_levels 15 = .ok (.iload_n 1, 1) := by decide +kernel
theorem dX12_levels_16 : decode cX12_levels 16 = .ok (.bipush 6, 2) := by decide +kernel
theorem dX12_levels_18 : decode cX12_levels 18 = .ok (.if_icmp .ge 16, 3) := by decide +kernel
theorem dX12_levels_21 : decode cX12_levels 21 = .ok (.aload_n 0, 1) := by decide +kernel
theorem dX12_levels_22 : decode cX12_levels 22 = .ok (.getfield 105, 3) := by decide +kernel
theorem dX12_levels_25 : decode cX12_levels 25 = .ok (.iload_n 1, 1) := by decide +kernel
theorem dX12_levels_26 : decode cX12_levels 26 = .ok (.iconst 1, 1) := by decide +kernel
theorem dX12_levels_27 : decode cX12_levels 27 = .ok (.iastore, 1) := by decide +kernel
theorem dX12_levels_28 : decode cX12_levels 28 = .ok (.iinc 1 1, 3) := by decide +kernel
theorem dX12_levels_31 : decode cX12_levels 31 = .ok (.goto (-16), 3) := by decide +kernel
theorem dX12_levels_34 : decode cX12_levels 34 = .ok (.iconst 1, 1) := by decide +kernel
theorem dX12_levels_35 : decode cX12_levels 35 = .ok (.istore_n 1, 1) := by decide +kernel
theorem dX12_levels_36 : decode cX12_levels 36 = .ok (.iconst 0, 1) := by decide +kernel
theorem dX12_levels_37 : decode cX12_levels 37 = .ok (.istore_n 2, 1) := by decide +kernel
theorem dX12_levels_38 : decode cX12_levels 38 = .ok (.iload_n 2, 1) := by decide +kernel
theorem dX12_levels_39 : decode cX12_levels 39 = .ok (.aload_n 0, 1) := by decide +kernel
theorem dX12_levels_40 : decode cX12_levels 40 = .ok (.getfield 307, 3) := by decide +kernel
theorem dX12_levels_43 : decode cX12_levels 43 = .ok (.if_icmp .ge 83, 3) := by decide +kernel
theorem dX12_levels_46 : decode cX12_levels 46 = .ok (.iconst 0, 1) := by decide +kernel
theorem dX12_levels_47 : decode cX12_levels 47 = .ok (.istore_n 3, 1) := by decide +kernel
theorem dX12_levels_48 : decode cX12_levels 48 = .ok (.iload_n 3, 1) := by decide +kernel
theorem dX12_levels_49 : decode cX12_levels 49 = .ok (.aload_n 0, 1) := by decide +kernel
theorem dX12_levels_50 : decode cX12_levels 50 = .ok (.getfield 307, 3) := by decide +kernel
theorem dX12_levels_53 : decode cX12_levels 53 = .ok (.if_icmp .ge 67, 3) := by decide +kernel
theorem dX12_levels_56 : decode cX12_levels 56 = .ok (.iconst 0, 1) := by decide +kernel
theorem dX12_levels_57 : decode cX12_levels 57 = .ok (.istore 4, 2) := by decide +kernel
theorem dX12_levels_59 : decode cX12_levels 59 = .ok (.iload 4, 2) := by decide +kernel
theorem dX12_levels_61 : decode cX12_levels 61 = .ok (.aload_n 0, 1) := by decide +kernel
theorem dX12_levels_62 : decode cX12_levels 62 = .ok (.getfield 307, 3) := by decide +kernel
theorem dX12_levels_65 : decode cX12_levels 65 = .ok (.if_icmp .ge 49, 3) := by decide +kernel
theorem dX12_levels_68 : decode cX12_levels 68 = .ok (.aload_n 0, 1) := by decide +kernel
theorem dX12_levels_69 : decode cX12_levels 69 = .ok (.getfield 61, 3) := by decide +kernel
theorem dX12_levels_72 : decode cX12_levels 72 = .ok (.bipush 6, 2) := by decide +kernel
theorem dX12_levels_74 : decode cX12_levels 74 = .ok (.iload_n 3, 1) := by decide +kernel
theorem dX12_levels_75 : decode cX12_levels 75 = .ok (.imul, 1) := by decide +kernel
theorem dX12_levels_76 : decode cX12_levels 76 = .ok (.iload 4, 2) := by decide +kernel
theorem dX12_levels_78 : decode cX12_levels 78 = .ok (.iadd, 1) := by decide +kernel
theorem dX12_levels_79 : decode cX12_levels 79 = .ok (.iaload, 1) := by decide +kernel
theorem dX12_levels_80 : decode cX12_levels 80 = .ok (.ifCond .le 28, 3) := by decide +kernel
theorem dX12_levels_83 : decode cX12_levels 83 = .ok (.aload_n 0, 1) := by decide +kernel
theorem dX12_levels_84 : decode cX12_levels 84 = .ok (.getfield 105, 3) := by decide +kernel
theorem dX12_levels_87 : decode cX12_levels 87 = .ok (.iload 4, 2) := by decide +kernel
theorem dX12_levels_89 : decode cX12_levels 89 = .ok (.aload_n 0, 1) := by decide +kernel
theorem dX12_levels_90 : decode cX12_levels 90 = .ok (.getfield 105, 3) := by decide +kernel
theorem dX12_levels_93 : decode cX12_levels 93 = .ok (.iload 4, 2) := by decide +kernel
theorem dX12_levels_95 : decode cX12_levels 95 = .ok (.iaload, 1) := by decide +kernel
theorem dX12_levels_96 : decode cX12_levels 96 = .ok (.aload_n 0, 1) := by decide +kernel
theorem dX12_levels_97 : decode cX12_levels 97 = .ok (.getfield 105, 3) := by decide +kernel
theorem dX12_levels_100 : decode cX12_levels 100 = .ok (.iload_n 3, 1) := by decide +kernel
theorem dX12_levels_101 : decode cX12_levels 101 = .ok (.iaload, 1) := by decide +kernel
theorem dX12_levels_102 : decode cX12_levels 102 = .ok (.iconst 1, 1) := by decide +kernel
theorem dX12_levels_103 : decode cX12_levels 103 = .ok (.iadd, 1) := by decide +kernel
theorem dX12_levels_104 : decode cX12_levels 104 = .ok (.invokestatic 326, 3) := by decide +kernel
theorem dX12_levels_107 : decode cX12_levels 107 = .ok (.iastore, 1) := by decide +kernel
theorem dX12_levels_108 : decode cX12_levels 108 = .ok (.iinc 4 1, 3) := by decide +kernel
theorem dX12_levels_111 : decode cX12_levels 111 = .ok (.goto (-52), 3) := by decide +kernel
theorem dX12_levels_114 : decode cX12_levels 114 = .ok (.iinc 3 1, 3) := by decide +kernel
theorem dX12_levels_117 : decode cX12_levels 117 = .ok (.goto (-69), 3) := by decide +kernel
theorem dX12_levels_120 : decode cX12_levels 120 = .ok (.iinc 2 1, 3) := by decide +kernel
theorem dX12_levels_123 : decode cX12_levels 123 = .ok (.goto (-85), 3) := by decide +kernel
theorem dX12_levels_126 : decode cX12_levels 126 = .ok (.iconst 0, 1) := by decide +kernel
theorem dX12_levels_127 : decode cX12_levels 127 = .ok (.istore_n 2, 1) := by decide +kernel
theorem dX12_levels_128 : decode cX12_levels 128 = .ok (.iload_n 2, 1) := by decide +kernel
theorem dX12_levels_129 : decode cX12_levels 129 = .ok (.aload_n 0, 1) := by decide +kernel
theorem dX12_levels_130 : decode cX12_levels 130 = .ok (.getfield 307, 3) := by decide +kernel
theorem dX12_levels_133 : decode cX12_levels 133 = .ok (.if_icmp .ge 20, 3) := by decide +kernel
theorem dX12_levels_136 : decode cX12_levels 136 = .ok (.iload_n 1, 1) := by decide +kernel
theorem dX12_levels_137 : decode cX12_levels 137 = .ok (.aload_n 0, 1) := by decide +kernel
theorem dX12_levels_138 : decode cX12_levels 138 = .ok (.getfield 105, 3) := by decide +kernel
theorem dX12_levels_141 : decode cX12_levels 141 = .ok (.iload_n 2, 1) := by decide +kernel
theorem dX12_levels_142 : decode cX12_levels 142 = .ok (.iaload, 1) := by decide +kernel
theorem dX12_levels_143 : decode cX12_levels 143 = .ok (.invokestatic 326, 3) := by decide +kernel
theorem dX12_levels_146 : decode cX12_levels 146 = .ok (.istore_n 1, 1) := by decide +kernel
theorem dX12_levels_147 : decode cX12_levels 147 = .ok (.iinc 2 1, 3) := by decide +kernel
theorem dX12_levels_150 : decode cX12_levels 150 = .ok (.goto (-22), 3) := by decide +kernel
theorem dX12_levels_153 : decode cX12_levels 153 = .ok (.iload_n 1, 1) := by decide +kernel
theorem dX12_levels_154 : decode cX12_levels 154 = .ok (.ireturn, 1) := by decide +kernel
theorem dX12_mostBetween_0 : decode cX12_mostBetween 0 = .ok (.iconst 0, 1) := by decide +kernel
theorem dX12_mostBetween_1 : decode cX12_mostBetween 1 = .ok (.istore_n 1, 1) := by decide +kernel
theorem dX12_mostBetween_2 : decode cX12_mostBetween 2 = .ok (.iconst 0, 1) := by decide +kernel
theorem dX12_mostBetween_3 : decode cX12_mostBetween 3 = .ok (.istore_n 2, 1) := by decide +kernel
