theorem dX12_mostBetween_4 : decode cX12_mostBetween 4 = .ok (.iload_n 2, 1) := by decide +kernel
theorem dX12_mostBetween_5 : decode cX12_mostBetween 5 = .ok (.bipush 36, 2) := by decide +kernel
theorem dX12_mostBetween_7 : decode cX12_mostBetween 7 = .ok (.if_icmp .ge 20, 3) := by decide +kernel
theorem dX12_mostBetween_10 : decode cX12_mostBetween 10 = .ok (.iload_n 1, 1) := by decide +kernel
theorem dX12_mostBetween_11 : decode cX12_mostBetween 11 = .ok (.aload_n 0, 1) := by decide +kernel
theorem dX12_mostBetween_12 : decode cX12_mostBetween 12 = .ok (.getfield 61, 3) := by decide +kernel
theorem dX12_mostBetween_15 : decode cX12_mostBetween 15 = .ok (.iload_n 2, 1) := by decide +kernel
theorem dX12_mostBetween_16 : decode cX12_mostBetween 16 = .ok (.iaload, 1) := by decide +kernel
theorem dX12_mostBetween_17 : decode cX12_mostBetween 17 = .ok (.invokestatic 326, 3) := by decide +kernel
theorem dX12_mostBetween_20 : decode cX12_mostBetween 20 = .ok (.istore_n 1, 1) := by decide +kernel
theorem dX12_mostBetween_21 : decode cX12_mostBetween 21 = .ok (.iinc 2 1, 3) := by decide +kernel
theorem dX12_mostBetween_24 : decode cX12_mostBetween 24 = .ok (.goto (-20), 3) := by decide +kernel
theorem dX12_mostBetween_27 : decode cX12_mostBetween 27 = .ok (.iload_n 1, 1) := by decide +kernel
theorem dX12_mostBetween_28 : decode cX12_mostBetween 28 = .ok (.ireturn, 1) := by decide +kernel
theorem dX12_pairs_0 : decode cX12_pairs 0 = .ok (.iconst 0, 1) := by decide +kernel
theorem dX12_pairs_1 : decode cX12_pairs 1 = .ok (.istore_n 1, 1) := by decide +kernel
theorem dX12_pairs_2 : decode cX12_pairs 2 = .ok (.iconst 0, 1) := by decide +kernel
theorem dX12_pairs_3 : decode cX12_pairs 3 = .ok (.istore_n 2, 1) := by decide +kernel
theorem dX12_pairs_4 : decode cX12_pairs 4 = .ok (.iload_n 2, 1) := by decide +kernel
theorem dX12_pairs_5 : decode cX12_pairs 5 = .ok (.aload_n 0, 1) := by decide +kernel
theorem dX12_pairs_6 : decode cX12_pairs 6 = .ok (.getfield 307, 3) := by decide +kernel
theorem dX12_pairs_9 : decode cX12_pairs 9 = .ok (.if_icmp .ge 44, 3) := by decide +kernel
theorem dX12_pairs_12 : decode cX12_pairs 12 = .ok (.iconst 0, 1) := by decide +kernel
theorem dX12_pairs_13 : decode cX12_pairs 13 = .ok (.istore_n 3, 1) := by decide +kernel
theorem dX12_pairs_14 : decode cX12_pairs 14 = .ok (.iload_n 3, 1) := by decide +kernel
theorem dX12_pairs_15 : decode cX12_pairs 15 = .ok (.iload_n 2, 1) := by decide +kernel
theorem dX12_pairs_16 : decode cX12_pairs 16 = .ok (.if_icmp .ge 31, 3) := by decide +kernel
theorem dX12_pairs_19 : decode cX12_pairs 19 = .ok (.iload_n 1, 1) := by decide +kernel
theorem dX12_pairs_20 : decode cX12_pairs 20 = .ok (.aload_n 0, 1) := by decide +kernel
theorem dX12_pairs_21 : decode cX12_pairs 21 = .ok (.getfield 61, 3) := by decide +kernel
theorem dX12_pairs_24 : decode cX12_pairs 24 = .ok (.bipush 6, 2) := by decide +kernel
theorem dX12_pairs_26 : decode cX12_pairs 26 = .ok (.iload_n 2, 1) := by decide +kernel
theorem dX12_pairs_27 : decode cX12_pairs 27 = .ok (.imul, 1) := by decide +kernel
theorem dX12_pairs_28 : decode cX12_pairs 28 = .ok (.iload_n 3, 1) := by decide +kernel
theorem dX12_pairs_29 : decode cX12_pairs 29 = .ok (.iadd, 1) := by decide +kernel
theorem dX12_pairs_30 : decode cX12_pairs 30 = .ok (.iaload, 1) := by decide +kernel
theorem dX12_pairs_31 : decode cX12_pairs 31 = .ok (.ifCond .eq 7, 3) := by decide +kernel
theorem dX12_pairs_34 : decode cX12_pairs 34 = .ok (.iconst 1, 1) := by decide +kernel
theorem dX12_pairs_35 : decode cX12_pairs 35 = .ok (.goto 4, 3) := by decide +kernel
theorem dX12_pairs_38 : decode cX12_pairs 38 = .ok (.iconst 0, 1) := by decide +kernel
theorem dX12_pairs_39 : decode cX12_pairs 39 = .ok (.iadd, 1) := by decide +kernel
theorem dX12_pairs_40 : decode cX12_pairs 40 = .ok (.istore_n 1, 1) := by decide +kernel
theorem dX12_pairs_41 : decode cX12_pairs 41 = .ok (.iinc 3 1, 3) := by decide +kernel
theorem dX12_pairs_44 : decode cX12_pairs 44 = .ok (.goto (-30), 3) := by decide +kernel
theorem dX12_pairs_47 : decode cX12_pairs 47 = .ok (.iinc 2 1, 3) := by decide +kernel
theorem dX12_pairs_50 : decode cX12_pairs 50 = .ok (.goto (-46), 3) := by decide +kernel
theorem dX12_pairs_53 : decode cX12_pairs 53 = .ok (.iload_n 1, 1) := by decide +kernel
theorem dX12_pairs_54 : decode cX12_pairs 54 = .ok (.ireturn, 1) := by decide +kernel
theorem dX12_thoseThatCan_0 : decode cX12_thoseThatCan 0 = .ok (.iconst 0, 1) := by decide +kernel
theorem dX12_thoseThatCan_1 : decode cX12_thoseThatCan 1 = .ok (.istore_n 1, 1) := by decide +kernel
theorem dX12_thoseThatCan_2 : decode cX12_thoseThatCan 2 = .ok (.iconst 0, 1) := by decide +kernel
theorem dX12_thoseThatCan_3 : decode cX12_thoseThatCan 3 = .ok (.istore_n 2, 1) := by decide +kernel
theorem dX12_thoseThatCan_4 : decode cX12_thoseThatCan 4 = .ok (.iload_n 2, 1) := by decide +kernel
theorem dX12_thoseThatCan_5 : decode cX12_thoseThatCan 5 = .ok (.aload_n 0, 1) := by decide +kernel
theorem dX12_thoseThatCan_6 : decode cX12_thoseThatCan 6 = .ok (.getfield 307, 3) := by decide +kernel
theorem dX12_thoseThatCan_9 : decode cX12_thoseThatCan 9 = .ok (.if_icmp .ge 31, 3) := by decide +kernel
theorem dX12_thoseThatCan_12 : decode cX12_thoseThatCan 12 = .ok (.iload_n 1, 1) := by decide +kernel
theorem dX12_thoseThatCan_13 : decode cX12_thoseThatCan 13 = .ok (.aload_n 0, 1) := by decide +kernel
theorem dX12_thoseThatCan_14 : decode cX12_thoseThatCan 14 = .ok (.aload_n 0, 1) := by decide +kernel
theorem dX12_thoseThatCan_15 : decode cX12_thoseThatCan 15 = .ok (.getfield 61, 3) := by decide +kernel
theorem dX12_thoseThatCan_18 : decode cX12_thoseThatCan 18 = .ok (.iload_n 2, 1) := by decide +kernel
theorem dX12_thoseThatCan_19 : decode cX12_thoseThatCan 19 = .ok (.invokevirtual 403, 3) := by decide +kernel
theorem dX12_thoseThatCan_22 : decode cX12_thoseThatCan 22 = .ok (.ifCond .eq 9, 3) := by decide +kernel
theorem dX12_thoseThatCan_25 : decode cX12_thoseThatCan 25 = .ok (.iconst 1, 1) := by decide +kernel
theorem dX12_thoseThatCan_26 : decode cX12_thoseThatCan 26 = .ok (.iload_n 2, 1) := by decide +kernel
theorem dX12_thoseThatCan_27 : decode cX12_thoseThatCan 27 = .ok (.ishl, 1) := by decide +kernel
theorem dX12_thoseThatCan_28 : decode cX12_thoseThatCan 28 = .ok (.goto 4, 3) := by decide +kernel
theorem dX12_thoseThatCan_31 : decode cX12_thoseThatCan 31 = .ok (.iconst 0, 1) := by decide +kernel
theorem dX12_thoseThatCan_32 : decode cX12_thoseThatCan 32 = .ok (.ior, 1) := by decide +kernel
theorem dX12_thoseThatCan_33 : decode cX12_thoseThatCan 33 = .ok (.istore_n 1, 1) := by decide +kernel
theorem dX12_thoseThatCan_34 : decode cX12_thoseThatCan 34 = .ok (.iinc 2 1, 3) := by decide +kernel
theorem dX12_thoseThatCan_37 : decode cX12_thoseThatCan 37 = .ok (.goto (-33), 3) := by decide +kernel
theorem dX12_thoseThatCan_40 : decode cX12_thoseThatCan 40 = .ok (.iload_n 1, 1) := by decide +kernel
theorem dX12_thoseThatCan_41 : decode cX12_thoseThatCan 41 = .ok (.ireturn, 1) := by decide +kernel
theorem dX12_thoseWho_0 : decode cX12_thoseWho 0 = .ok (.iconst 0, 1) := by decide +kernel
theorem dX12_thoseWho_1 : decode cX12_thoseWho 1 = .ok (.istore_n 3, 1) := by decide +kernel
theorem dX12_thoseWho_2 : decode cX12_thoseWho 2 = .ok (.iconst 0, 1) := by decide +kernel
theorem dX12_thoseWho_3 : decode cX12_thoseWho 3 = .ok (.istore 4, 2) := by decide +kernel
theorem dX12_thoseWho_5 : decode cX12_thoseWho 5 = .ok (.iload 4, 2) := by decide +kernel
theorem dX12_thoseWho_7 : decode cX12_thoseWho 7 = .ok (.aload_n 0, 1) := by decide +kernel
theorem dX12_thoseWho_8 : decode cX12_thoseWho 8 = .ok (.getfield 307, 3) := by decide +kernel
theorem dX12_thoseWho_11 : decode cX12_thoseWho 11 = .ok (.if_icmp .ge 64, 3) := by decide +kernel
theorem dX12_thoseWho_14 : decode cX12_thoseWho 14 = .ok (.iload_n 3, 1) := by decide +kernel
theorem dX12_thoseWho_15 : decode cX12_thoseWho 15 = .ok (.aload_n 0, 1) := by decide +kernel
theorem dX12_thoseWho_16 : decode cX12_thoseWho 16 = .ok (.aload_n 0, 1) := by decide +kernel
theorem dX12_thoseWho_17 : decode cX12_thoseWho 17 = .ok (.getfield 61, 3) := by decide +kernel
theorem dX12_thoseWho_20 : decode cX12_thoseWho 20 = .ok (.iload 4, 2) := by decide +kernel
theorem dX12_thoseWho_22 : decode cX12_thoseWho 22 = .ok (.invokevirtual 353, 3) := by decide +kernel
theorem dX12_thoseWho_25 : decode cX12_thoseWho 25 = .ok (.ifCond .le 7, 3) := by decide +kernel
theorem dX12_thoseWho_28 : decode cX12_thoseWho 28 = .ok (.iconst 1, 1) := by decide +kernel
theorem dX12_thoseWho_29 : decode cX12_thoseWho 29 = .ok (.goto 4, 3) := by decide +kernel
theorem dX12_thoseWho_32 : decode cX12_thoseWho 32 = .ok (.iconst 0, 1) := by decide +kernel
theorem dX12_thoseWho_33 : decode cX12_thoseWho 33 = .ok (.iload_n 1, 1) := by decide +kernel
theorem dX12_thoseWho_34 : decode cX12_thoseWho 34 = .ok (.if_icmp .ne 32, 3) := by decide +kernel
theorem dX12_thoseWho_37 : decode cX12_thoseWho 37 = .ok (.aload_n 0, 1) := by decide +kernel
theorem dX12_thoseWho_38 : decode cX12_thoseWho 38 = .ok (.aload_n 0, 1) := by decide +kernel
theorem dX12_thoseWho_39 : decode cX12_thoseWho 39 = .ok (.getfield 61, 3) := by decide +kernel
theorem dX12_thoseWho_42 : decode cX12_thoseWho 42 = .ok (.iload 4, 2) := by decide +kernel
theorem dX12_thoseWho_44 : decode cX12_thoseWho 44 = .ok (.invokevirtual 370, 3) := by decide +kernel
theorem dX12_thoseWho_47 : decode cX12_thoseWho 47 = .ok (.ifCond .le 7, 3) := by decide +kernel
theorem dX12_thoseWho_50 : decode cX12_thoseWho 50 = .ok (.iconst 1, 1) := by decide +kernel
theorem dX12_thoseWho_51 : decode cX12_thoseWho 51 = .ok (.goto 4, 3) := by decide +kernel
theorem dX12_thoseWho_54 : decode cX12_thoseWho 54 = .ok (.iconst 0, 1) := by decide +kernel
theorem dX12_thoseWho_55 : decode cX12_thoseWho 55 = .ok (.iload_n 2, 1) := by decide +kernel
theorem dX12_thoseWho_56 : decode cX12_thoseWho 56 = .ok (.if_icmp .ne 10, 3) := by decide +kernel
theorem dX12_thoseWho_59 : decode cX12_thoseWho 59 = .ok (.iconst 1, 1) := by decide +kernel
theorem dX12_thoseWho_60 : decode cX12_thoseWho 60 = .ok (.iload 4, 2) := by decide +kernel
theorem dX12_thoseWho_62 : decode cX12_thoseWho 62 = .ok (.ishl, 1) := by decide +kernel
theorem dX12_thoseWho_63 : decode cX12_thoseWho 63 = .ok (.goto 4, 3) := by decide +kernel
theorem dX12_thoseWho_66 : decode cX12_thoseWho 66 = .ok (.iconst 0, 1) := by decide +kernel
theorem dX12_thoseWho_67 : decode cX12_thoseWho 67 = .ok (.ior, 1) := by decide +kernel
theorem dX12_thoseWho_68 : decode cX12_thoseWho 68 = .ok (.istore_n 3, 1) := by decide +kernel
theorem dX12_thoseWho_69 : decode cX12_thoseWho 69 = .ok (.iinc 4 1, 3) := by decide +kernel
theorem dX12_thoseWho_72 : decode cX12_thoseWho 72 = .ok (.goto (-67), 3) := by decide +kernel
theorem dX12_thoseWho_75 : decode cX12_thoseWho 75 = .ok (.iload_n 3, 1) := by decide +kernel
theorem dX12_thoseWho_76 : decode cX12_thoseWho 76 = .ok (.ireturn, 1) := by decide +kernel
theorem dX12_all_0 : decode cX12_all 0 = .ok (.aload_n 0, 1) := by decide +kernel
theorem dX12_all_1 : decode cX12_all 1 = .ok (.iconst 0, 1) := by decide +kernel
theorem dX12_all_2 : decode cX12_all 2 = .ok (.putfield 111, 3) := by decide +kernel
theorem dX12_all_5 : decode cX12_all 5 = .ok (.aload_n 0, 1) := by decide +kernel
theorem dX12_all_6 : decode cX12_all 6 = .ok (.getfield 307, 3) := by decide +kernel
theorem dX12_all_9 : decode cX12_all 9 = .ok (.ifCond .ne 7, 3) := by decide +kernel
theorem dX12_all_12 : decode cX12_all 12 = .ok (.ldc_w 380, 3) := by decide +kernel
theorem dX12_all_15 : decode cX12_all 15 = .ok (.ireturn, 1) := by decide +kernel
theorem dX12_all_16 : decode cX12_all 16 = .ok (.iload_n 1, 1) := by decide +kernel
theorem dX12_all_17 : decode cX12_all 17 = .ok (.tableswitch 135 0 13 #[71, 71, 71, 71, 71, 77, 86, 91, 98, 105, 112, 120, 125, 130], 71) := by decide +kernel
theorem dX12_all_88 : decode cX12_all 88 = .ok (.aload_n 0, 1) := by decide +kernel
theorem dX12_all_89 : decode cX12_all 89 = .ok (.iload_n 1, 1) := by decide +kernel
theorem dX12_all_90 : decode cX12_all 90 = .ok (.invokevirtual 513, 3) := by decide +kernel
theorem dX12_all_93 : decode cX12_all 93 = .ok (.ireturn, 1) := by decide +kernel
theorem dX12_all_94 : decode cX12_all 94 = .ok (.aload_n 0, 1) := by decide +kernel
theorem dX12_all_95 : decode cX12_all 95 = .ok (.aload_n 0, 1) := by decide +kernel
theorem dX12_all_96 : decode cX12_all 96 = .ok (.getfield 61, 3) := by decide +kernel
theorem dX12_all_99 : decode cX12_all 99 = .ok (.invokevirtual 363, 3) := by decide +kernel
theorem dX12_all_102 : decode cX12_all 102 = .ok (.ireturn, 1) := by decide +kernel
theorem dX12_all_103 : decode cX12_all 103 = .ok (.aload_n 0, 1) := by decide +kernel
theorem dX12_all_104 : decode cX12_all 104 = .ok (.invokevirtual 516, 3) := by decide +kernel
theorem dX12_all_107 : decode cX12_all 107 = .ok (.ireturn, 1) := by decide +kernel
theorem dX12_all_108 : decode cX12_all 108 = .ok (.aload_n 0, 1) := by decide +kernel
theorem dX12_all_109 : decode cX12_all 109 = .ok (.iconst 1, 1) := by decide +kernel
theorem dX12_all_110 : decode cX12_all 110 = .ok (.iconst 0, 1) := by decide +kernel
theorem dX12_all_111 : decode cX12_all 111 = .ok (.invokevirtual 519, 3) := by decide +kernel
theorem dX12_all_114 : decode cX12_all 114 = .ok (.ireturn, 1) := by decide +kernel
theorem dX12_all_115 : decode cX12_all 115 = .ok (.aload_n 0, 1) := by decide +kernel
theorem dX12_all_116 : decode cX12_all 116 = .ok (.iconst 0, 1) := by decide +kernel
theorem dX12_all_117 : decode cX12_all 117 = .ok (.iconst 1, 1) := by decide +kernel
theorem dX12_all_118 : decode cX12_all 118 = .ok (.invokevirtual 519, 3) := by decide +kernel
theorem dX12_all_121 : decode cX12_all 121 = .ok (.ireturn, 1) := by decide +kernel
theorem dX12_all_122 : decode cX12_all 122 = .ok (.aload_n 0, 1) := by decide +kernel
theorem dX12_all_123 : decode cX12_all 123 = .ok (.iconst 0, 1) := by decide +kernel
theorem dX12_all_124 : decode cX12_all 124 = .ok (.iconst 0, 1) := by decide +kernel
theorem dX12_all_125 : decode cX12_all 125 = .ok (.invokevirtual 519, 3) := by decide +kernel
theorem dX12_all_128 : decode cX12_all 128 = .ok (.ireturn, 1) := by decide +kernel
theorem dX12_all_129 : decode cX12_all 129 = .ok (.aload_n 0, 1) := by decide +kernel
theorem dX12_all_130 : decode cX12_all 130 = .ok (.getfield 61, 3) := by decide +kernel
theorem dX12_all_133 : decode cX12_all 133 = .ok (.bipush 48, 2) := by decide +kernel
theorem dX12_all_135 : decode cX12_all 135 = .ok (.iaload, 1) := by decide +kernel
theorem dX12_all_136 : decode cX12_all 136 = .ok (.ireturn, 1) := by decide +kernel
theorem dX12_all_137 : decode cX12_all 137 = .ok (.aload_n 0, 1) := by decide +kernel
theorem dX12_all_138 : decode cX12_all 138 = .ok (.invokevirtual 523, 3) := by decide +kernel
theorem dX12_all_141 : decode cX12_all 141 = .ok (.ireturn, 1) := by decide +kernel
theorem dX12_all_142 : decode cX12_all 142 = .ok (.aload_n 0, 1) := by decide +kernel
theorem dX12_all_143 : decode cX12_all 143 = .ok (.invokevirtual 526, 3) := by decide +kernel
theorem dX12_all_146 : decode cX12_all 146 = .ok (.ireturn, 1) := by decide +kernel
theorem dX12_all_147 : decode cX12_all 147 = .ok (.aload_n 0, 1) := by decide +kernel
theorem dX12_all_148 : decode cX12_all 148 = .ok (.invokevirtual 529, 3) := by decide +kernel
theorem dX12_all_151 : decode cX12_all 151 = .ok (.ireturn, 1) := by decide +kernel
theorem dX12_all_152 : decode cX12_all 152 = .ok (.ldc_w 380, 3) := by decide +kernel
theorem dX12_all_155 : decode cX12_all 155 = .ok (.ireturn, 1) := by decide +kernel
theorem dX12_lays_0 : decode cX12_lays 0 = .ok (.iconst 0, 1) := by decide +kernel
theorem dX12_lays_1 : decode cX12_lays 1 = .ok (.istore_n 2, 1) := by decide +kernel
theorem dX12_lays_2 : decode cX12_lays 2 = .ok (.iload_n 2, 1) := by decide +kernel
theorem dX12_lays_3 : decode cX12_lays 3 = .ok (.aload_n 1, 1) := by decide +kernel
theorem dX12_lays_4 : decode cX12_lays 4 = .ok (.arraylength, 1) := by decide +kernel
theorem dX12_lays_5 : decode cX12_lays 5 = .ok (.if_icmp .ge 13, 3) := by decide +kernel
theorem dX12_lays_8 : decode cX12_lays 8 = .ok (.aload_n 1, 1) := by decide +kernel
theorem dX12_lays_9 : decode cX12_lays 9 = .ok (.iload_n 2, 1) := by decide +kernel
theorem dX12_lays_10 : decode cX12_lays 10 = .ok (.iconst 0, 1) := by decide +kernel
theorem dX12_lays_11 : decode cX12_lays 11 = .ok (.iastore, 1) := by decide +kernel
theorem dX12_lays_12 : decode cX12_lays 12 = .ok (.iinc 2 1, 3) := by decide +kernel
theorem dX12_lays_15 : decode cX12_lays 15 = .ok (.goto (-13), 3) := by decide +kernel
theorem dX12_lays_18 : decode cX12_lays 18 = .ok (.iconst 0, 1) := by decide +kernel
theorem dX12_lays_19 : decode cX12_lays 19 = .ok (.istore_n 2, 1) := by decide +kernel
theorem dX12_lays_20 : decode cX12_lays 20 = .ok (.iload_n 2, 1) := by decide +kernel
theorem dX12_lays_21 : decode cX12_lays 21 = .ok (.iconst 3, 1) := by decide +kernel
theorem dX12_lays_22 : decode cX12_lays 22 = .ok (.aload_n 0, 1) := by decide +kernel
theorem dX12_lays_23 : decode cX12_lays 23 = .ok (.getfield 310, 3) := by decide +kernel
theorem dX12_lays_26 : decode cX12_lays 26 = .ok (.imul, 1) := by decide +kernel
theorem dX12_lays_27 : decode cX12_lays 27 = .ok (.if_icmp .ge 71, 3) := by decide +kernel
theorem dX12_lays_30 : decode cX12_lays 30 = .ok (.aload_n 1, 1) := by decide +kernel
theorem dX12_lays_31 : decode cX12_lays 31 = .ok (.bipush 6, 2) := by decide +kernel
theorem dX12_lays_33 : decode cX12_lays 33 = .ok (.aload_n 0, 1) := by decide +kernel
theorem dX12_lays_34 : decode cX12_lays 34 = .ok (.getfield 49, 3) := by decide +kernel
theorem dX12_lays_37 : decode cX12_lays 37 = .ok (.iload_n 2, 1) := by decide +kernel
theorem dX12_lays_38 : decode cX12_lays 38 = .ok (.iaload, 1) := by decide +kernel
theorem dX12_lays_39 : decode cX12_lays 39 = .ok (.imul, 1) := by decide +kernel
theorem dX12_lays_40 : decode cX12_lays 40 = .ok (.aload_n 0, 1) := by decide +kernel
theorem dX12_lays_41 : decode cX12_lays 41 = .ok (.getfield 49, 3) := by decide +kernel
theorem dX12_lays_44 : decode cX12_lays 44 = .ok (.iload_n 2, 1) := by decide +kernel
theorem dX12_lays_45 : decode cX12_lays 45 = .ok (.iconst 1, 1) := by decide +kernel
theorem dX12_lays_46 : decode cX12_lays 46 = .ok (.iadd, 1) := by decide +kernel
theorem dX12_lays_47 : decode cX12_lays 47 = .ok (.iaload, 1) := by decide +kernel
theorem dX12_lays_48 : decode cX12_lays 48 = .ok (.iadd, 1) := by decide +kernel
theorem dX12_lays_49 : decode cX12_lays 49 = .ok (.dup2, 1) := by decide +kernel
theorem dX12_lays_50 : decode cX12_lays 50 = .ok (.iaload, 1) := by decide +kernel
theorem dX12_lays_51 : decode cX12_lays 51 = .ok (.aload_n 0, 1) := by decide +kernel
theorem dX12_lays_52 : decode cX12_lays 52 = .ok (.getfield 49, 3) := by decide +kernel
theorem dX12_lays_55 : decode cX12_lays 55 = .ok (.iload_n 2, 1) := by decide +kernel
theorem dX12_lays_56 : decode cX12_lays 56 = .ok (.iconst 2, 1) := by decide +kernel
theorem dX12_lays_57 : decode cX12_lays 57 = .ok (.iadd, 1) := by decide +kernel
theorem dX12_lays_58 : decode cX12_lays 58 = .ok (.iaload, 1) := by decide +kernel
theorem dX12_lays_59 : decode cX12_lays 59 = .ok (.iadd, 1) := by decide +kernel
theorem dX12_lays_60 : decode cX12_lays 60 = .ok (.iastore, 1) := by decide +kernel
theorem dX12_lays_61 : decode cX12_lays 61 = .ok (.aload_n 1, 1) := by decide +kernel
theorem dX12_lays_62 : decode cX12_lays 62 = .ok (.bipush 6, 2) := by decide +kernel
theorem dX12_lays_64 : decode cX12_lays 64 = .ok (.aload_n 0, 1) := by decide +kernel
theorem dX12_lays_65 : decode cX12_lays 65 = .ok (.getfield 49, 3) := by decide +kernel
theorem dX12_lays_68 : decode cX12_lays 68 = .ok (.iload_n 2, 1) := by decide +kernel
theorem dX12_lays_69 : decode cX12_lays 69 = .ok (.iconst 1, 1) := by decide +kernel
theorem dX12_lays_70 : decode cX12_lays 70 = .ok (.iadd, 1) := by decide +kernel
theorem dX12_lays_71 : decode cX12_lays 71 = .ok (.iaload, 1) := by decide +kernel
theorem dX12_lays_72 : decode cX12_lays 72 = .ok (.imul, 1) := by decide +kernel
theorem dX12_lays_73 : decode cX12_lays 73 = .ok (.aload_n 0, 1) := by decide +kernel
theorem dX12_lays_74 : decode cX12_lays 74 = .ok (.getfield 49, 3) := by decide +kernel
theorem dX12_lays_77 : decode cX12_lays 77 = .ok (.iload_n 2, 1) := by decide +kernel
theorem dX12_lays_78 : decode cX12_lays 78 = .ok (.iaload, 1) := by decide +kernel
theorem dX12_lays_79 : decode cX12_lays 79 = .ok (.iadd, 1) := by decide +kernel
theorem dX12_lays_80 : decode cX12_lays 80 = .ok (.dup2, 1) := by decide +kernel
theorem dX12_lays_81 : decode cX12_lays 81 = .ok (.iaload, 1) := by decide +kernel
theorem dX12_lays_82 : decode cX12_lays 82 = .ok (.aload_n 0, 1) := by decide +kernel
theorem dX12_lays_83 : decode cX12_lays 83 = .ok (.getfield 49, 3) := by decide +kernel
theorem dX12_lays_86 : decode cX12_lays 86 = .ok (.iload_n 2, 1) := by decide +kernel
theorem dX12_lays_87 : decode cX12_lays 87 = .ok (.iconst 2, 1) := by decide +kernel
theorem dX12_lays_88 : decode cX12_lays 88 = .ok (.iadd, 1) := by decide +kernel
theorem dX12_lays_89 : decode cX12_lays 89 = .ok (.iaload, 1) := by decide +kernel
theorem dX12_lays_90 : decode cX12_lays 90 = .ok (.isub, 1) := by decide +kernel
theorem dX12_lays_91 : decode cX12_lays 91 = .ok (.iastore, 1) := by decide +kernel
theorem dX12_lays_92 : decode cX12_lays 92 = .ok (.iinc 2 3, 3) := by decide +kernel
theorem dX12_lays_95 : decode cX12_lays 95 = .ok (.goto (-75), 3) := by decide +kernel
theorem dX12_lays_98 : decode cX12_lays 98 = .ok (.iconst 0, 1) := by decide +kernel
theorem dX12_lays_99 : decode cX12_lays 99 = .ok (.istore_n 2, 1) := by decide +kernel
theorem dX12_lays_100 : decode cX12_lays 100 = .ok (.iload_n 2, 1) := by decide +kernel
theorem dX12_lays_101 : decode cX12_lays 101 = .ok (.aload_n 0, 1) := by decide +kernel
theorem dX12_lays_102 : decode cX12_lays 102 = .ok (.getfield 307, 3) := by decide +kernel
theorem dX12_lays_105 : decode cX12_lays 105 = .ok (.if_icmp .ge 42, 3) := by decide +kernel
theorem dX12_lays_108 : decode cX12_lays 108 = .ok (.aload_n 1, 1) := by decide +kernel
theorem dX12_lays_109 : decode cX12_lays 109 = .ok (.bipush 36, 2) := by decide +kernel
theorem dX12_lays_111 : decode cX12_lays 111 = .ok (.iload_n 2, 1) := by decide +kernel
theorem dX12_lays_112 : decode cX12_lays 112 = .ok (.iadd, 1) := by decide +kernel
theorem dX12_lays_113 : decode cX12_lays 113 = .ok (.aload_n 0, 1) := by decide +kernel
theorem dX12_lays_114 : decode cX12_lays 114 = .ok (.getfield 43, 3) := by decide +kernel
theorem dX12_lays_117 : decode cX12_lays 117 = .ok (.iconst 3, 1) := by decide +kernel
theorem dX12_lays_118 : decode cX12_lays 118 = .ok (.iload_n 2, 1) := by decide +kernel
theorem dX12_lays_119 : decode cX12_lays 119 = .ok (.imul, 1) := by decide +kernel
theorem dX12_lays_120 : decode cX12_lays 120 = .ok (.iaload, 1) := by decide +kernel
theorem dX12_lays_121 : decode cX12_lays 121 = .ok (.iastore, 1) := by decide +kernel
theorem dX12_lays_122 : decode cX12_lays 122 = .ok (.aload_n 1, 1) := by decide +kernel
theorem dX12_lays_123 : decode cX12_lays 123 = .ok (.bipush 48, 2) := by decide +kernel
theorem dX12_lays_125 : decode cX12_lays 125 = .ok (.dup2, 1) := by decide +kernel
theorem dX12_lays_126 : decode cX12_lays 126 = .ok (.iaload, 1) := by decide +kernel
theorem dX12_lays_127 : decode cX12_lays 127 = .ok (.aload_n 0, 1) := by decide +kernel
theorem dX12_lays_128 : decode cX12_lays 128 = .ok (.getfield 43, 3) := by decide +kernel
theorem dX12_lays_131 : decode cX12_lays 131 = .ok (.iconst 3, 1) := by decide +kernel
theorem dX12_lays_132 : decode cX12_lays 132 = .ok (.iload_n 2, 1) := by decide +kernel
theorem dX12_lays_133 : decode cX12_lays 133 = .ok (.imul, 1) := by decide +kernel
theorem dX12_lays_134 : decode cX12_lays 134 = .ok (.iconst 2, 1) := by decide +kernel
theorem dX12_lays_135 : decode cX12_lays 135 = .ok (.iadd, 1) := by decide +kernel
theorem dX12_lays_136 : decode cX12_lays 136 = .ok (.iaload, 1) := by decide +kernel
theorem dX12_lays_137 : decode cX12_lays 137 = .ok (.iload_n 2, 1) := by decide +kernel
theorem dX12_lays_138 : decode cX12_lays 138 = .ok (.ishl, 1) := by decide +kernel
theorem dX12_lays_139 : decode cX12_lays 139 = .ok (.ior, 1) := by decide +kernel
theorem dX12_lays_140 : decode cX12_lays 140 = .ok (.iastore, 1) := by decide +kernel
theorem dX12_lays_141 : decode cX12_lays 141 = .ok (.iinc 2 1, 3) := by decide +kernel
theorem dX12_lays_144 : decode cX12_lays 144 = .ok (.goto (-44), 3) := by decide +kernel
theorem dX12_lays_147 : decode cX12_lays 147 = .ok (.aload_n 1, 1) := by decide +kernel
theorem dX12_lays_148 : decode cX12_lays 148 = .ok (.bipush 49, 2) := by decide +kernel
theorem dX12_lays_150 : decode cX12_lays 150 = .ok (.aload_n 0, 1) := by decide +kernel
theorem dX12_lays_151 : decode cX12_lays 151 = .ok (.getfield 37, 3) := by decide +kernel
theorem dX12_lays_154 : decode cX12_lays 154 = .ok (.iconst 0, 1) := by decide +kernel
theorem dX12_lays_155 : decode cX12_lays 155 = .ok (.iaload, 1) := by decide +kernel
theorem dX12_lays_156 : decode cX12_lays 156 = .ok (.iastore, 1) := by decide +kernel
theorem dX12_lays_157 : decode cX12_lays 157 = .ok (.return_, 1) := by decide +kernel
theorem dX12_wouldOwe_0 : decode cX12_wouldOwe 0 = .ok (.aload_n 0, 1) := by decide +kernel
theorem dX12_wouldOwe_1 : decode cX12_wouldOwe 1 = .ok (.aload_n 0, 1) := by decide +kernel
theorem dX12_wouldOwe_2 : decode cX12_wouldOwe 2 = .ok (.getfield 64, 3) := by decide +kernel
theorem dX12_wouldOwe_5 : decode cX12_wouldOwe 5 = .ok (.invokevirtual 313, 3) := by decide +kernel
theorem dX12_wouldOwe_8 : decode cX12_wouldOwe 8 = .ok (.iconst 0, 1) := by decide +kernel
theorem dX12_wouldOwe_9 : decode cX12_wouldOwe 9 = .ok (.istore 5, 2) := by decide +kernel
theorem dX12_wouldOwe_11 : decode cX12_wouldOwe 11 = .ok (.iload 5, 2) := by decide +kernel
theorem dX12_wouldOwe_13 : decode cX12_wouldOwe 13 = .ok (.iload_n 2, 1) := by decide +kernel
theorem dX12_wouldOwe_14 : decode cX12_wouldOwe 14 = .ok (.if_icmp .ge 25, 3) := by decide +kernel
theorem dX12_wouldOwe_17 : decode cX12_wouldOwe 17 = .ok (.aload_n 0, 1) := by decide +kernel
theorem dX12_wouldOwe_18 : decode cX12_wouldOwe 18 = .ok (.aload_n 0, 1) := by decide +kernel
theorem dX12_wouldOwe_19 : decode cX12_wouldOwe 19 = .ok (.getfield 64, 3) := by decide +kernel
theorem dX12_wouldOwe_22 : decode cX12_wouldOwe 22 = .ok (.iload_n 1, 1) := by decide +kernel
theorem dX12_wouldOwe_23 : decode cX12_wouldOwe 23 = .ok (.invokevirtual 432, 3) := by decide +kernel
theorem dX12_wouldOwe_26 : decode cX12_wouldOwe 26 = .ok (.ifCond .ne 7, 3) := by decide +kernel
theorem dX12_wouldOwe_29 : decode cX12_wouldOwe 29 = .ok (.ldc_w 380, 3) := by decide +kernel
theorem dX12_wouldOwe_32 : decode cX12_wouldOwe 32 = .ok (.ireturn, 1) := by decide +kernel
theorem dX12_wouldOwe_33 : decode cX12_wouldOwe 33 = .ok (.iinc 5 1, 3) := by decide +kernel
theorem dX12_wouldOwe_36 : decode cX12_wouldOwe 36 = .ok (.goto (-25), 3) := by decide +kernel
theorem dX12_wouldOwe_39 : decode cX12_wouldOwe 39 = .ok (.aload_n 0, 1) := by decide +kernel
theorem dX12_wouldOwe_40 : decode cX12_wouldOwe 40 = .ok (.getfield 64, 3) := by decide +kernel
theorem dX12_wouldOwe_43 : decode cX12_wouldOwe 43 = .ok (.bipush 6, 2) := by decide +kernel
theorem dX12_wouldOwe_45 : decode cX12_wouldOwe 45 = .ok (.iload_n 3, 1) := by decide +kernel
theorem dX12_wouldOwe_46 : decode cX12_wouldOwe 46 = .ok (.imul, 1) := by decide +kernel
theorem dX12_wouldOwe_47 : decode cX12_wouldOwe 47 = .ok (.iload 4, 2) := by decide +kernel
theorem dX12_wouldOwe_49 : decode cX12_wouldOwe 49 = .ok (.iadd, 1) := by decide +kernel
theorem dX12_wouldOwe_50 : decode cX12_wouldOwe 50 = .ok (.iaload, 1) := by decide +kernel
theorem dX12_wouldOwe_51 : decode cX12_wouldOwe 51 = .ok (.ireturn, 1) := by decide +kernel
theorem dX12_doesFit_0 : decode cX12_doesFit 0 = .ok (.iconst 0, 1) := by decide +kernel
theorem dX12_doesFit_1 : decode cX12_doesFit 1 = .ok (.istore_n 2, 1) := by decide +kernel
theorem dX12_doesFit_2 : decode cX12_doesFit 2 = .ok (.iload_n 2, 1) := by decide +kernel
theorem dX12_doesFit_3 : decode cX12_doesFit 3 = .ok (.iconst 5, 1) := by decide +kernel
theorem dX12_doesFit_4 : decode cX12_doesFit 4 = .ok (.aload_n 0, 1) := by decide +kernel
theorem dX12_doesFit_5 : decode cX12_doesFit 5 = .ok (.getfield 317, 3) := by decide +kernel
theorem dX12_doesFit_8 : decode cX12_doesFit 8 = .ok (.imul, 1) := by decide +kernel
theorem dX12_doesFit_9 : decode cX12_doesFit 9 = .ok (.if_icmp .ge 74, 3) := by decide +kernel
theorem dX12_doesFit_12 : decode cX12_doesFit 12 = .ok (.aload_n 0, 1) := by decide +kernel
theorem dX12_doesFit_13 : decode cX12_doesFit 13 = .ok (.iload_n 1, 1) := by decide +kernel
theorem dX12_doesFit_14 : decode cX12_doesFit 14 = .ok (.aload_n 0, 1) := by decide +kernel
theorem dX12_doesFit_15 : decode cX12_doesFit 15 = .ok (.getfield 96, 3) := by decide +kernel
theorem dX12_doesFit_18 : decode cX12_doesFit 18 = .ok (.iload_n 2, 1) := by decide +kernel
theorem dX12_doesFit_19 : decode cX12_doesFit 19 = .ok (.iconst 2, 1) := by decide +kernel
theorem dX12_doesFit_20 : decode cX12_doesFit 20 = .ok (.iadd, 1) := by decide +kernel
theorem dX12_doesFit_21 : decode cX12_doesFit 21 = .ok (.iaload, 1) := by decide +kernel
theorem dX12_doesFit_22 : decode cX12_doesFit 22 = .ok (.aload_n 0, 1) := by decide +kernel
theorem dX12_doesFit_23 : decode cX12_doesFit 23 = .ok (.getfield 96, 3) := by decide +kernel
theorem dX12_doesFit_26 : decode cX12_doesFit 26 = .ok (.iload_n 2, 1) := by decide +kernel
theorem dX12_doesFit_27 : decode cX12_doesFit 27 = .ok (.iaload, 1) := by decide +kernel
theorem dX12_doesFit_28 : decode cX12_doesFit 28 = .ok (.aload_n 0, 1) := by decide +kernel
theorem dX12_doesFit_29 : decode cX12_doesFit 29 = .ok (.getfield 96, 3) := by decide +kernel
theorem dX12_doesFit_32 : decode cX12_doesFit 32 = .ok (.iload_n 2, 1) := by decide +kernel
theorem dX12_doesFit_33 : decode cX12_doesFit 33 = .ok (.iconst 1, 1) := by decide +kernel
theorem dX12_doesFit_34 : decode cX12_doesFit 34 = .ok (.iadd, 1) := by decide +kernel
theorem dX12_doesFit_35 : decode cX12_doesFit 35 = .ok (.iaload, 1) := by decide +kernel
theorem dX12_doesFit_36 : decode cX12_doesFit 36 = .ok (.invokevirtual 482, 3) := by decide +kernel
theorem dX12_doesFit_39 : decode cX12_doesFit 39 = .ok (.aload_n 0, 1) := by decide +kernel
theorem dX12_doesFit_40 : decode cX12_doesFit 40 = .ok (.getfield 96, 3) := by decide +kernel
theorem dX12_doesFit_43 : decode cX12_doesFit 43 = .ok (.iload_n 2, 1) := by decide +kernel
theorem dX12_doesFit_44 : decode cX12_doesFit 44 = .ok (.iconst 3, 1) := by decide +kernel
theorem dX12_doesFit_45 : decode cX12_doesFit 45 = .ok (.iadd, 1) := by decide +kernel
theorem dX12_doesFit_46 : decode cX12_doesFit 46 = .ok (.iaload, 1) := by decide +kernel
theorem dX12_doesFit_47 : decode cX12_doesFit 47 = .ok (.if_icmp .ne 7, 3) := by decide +kernel
theorem dX12_doesFit_50 : decode cX12_doesFit 50 = .ok (.iconst 1, 1) := by decide +kernel
theorem dX12_doesFit_51 : decode cX12_doesFit 51 = .ok (.goto 4, 3) := by decide +kernel
theorem dX12_doesFit_54 : decode cX12_doesFit 54 = .ok (.iconst 0, 1) := by decide +kernel
theorem dX12_doesFit_55 : decode cX12_doesFit 55 = .ok (.aload_n 0, 1) := by decide +kernel
theorem dX12_doesFit_56 : decode cX12_doesFit 56 = .ok (.getfield 96, 3) := by decide +kernel
theorem dX12_doesFit_59 : decode cX12_doesFit 59 = .ok (.iload_n 2, 1) := by decide +kernel
theorem dX12_doesFit_60 : decode cX12_doesFit 60 = .ok (.iconst 4, 1) := by decide +kernel
theorem dX12_doesFit_61 : decode cX12_doesFit 61 = .ok (.iadd, 1) := by decide +kernel
theorem dX12_doesFit_62 : decode cX12_doesFit 62 = .ok (.iaload, 1) := by decide +kernel
theorem dX12_doesFit_63 : decode cX12_doesFit 63 = .ok (.iconst 1, 1) := by decide +kernel
theorem dX12_doesFit_64 : decode cX12_doesFit 64 = .ok (.if_icmp .ne 7, 3) := by decide +kernel
theorem dX12_doesFit_67 : decode cX12_doesFit 67 = .ok (.iconst 1, 1) := by decide +kernel
theorem dX12_doesFit_68 : decode cX12_doesFit 68 = .ok (.goto 4, 3) := by decide +kernel
theorem dX12_doesFit_71 : decode cX12_doesFit 71 = .ok (.iconst 0, 1) := by decide +kernel
theorem dX12_doesFit_72 : decode cX12_doesFit 72 = .ok (.if_icmp .eq 5, 3) := by decide +kernel
theorem dX12_doesFit_75 : decode cX12_doesFit 75 = .ok (.iconst 0, 1) := by decide +kernel
theorem dX12_doesFit_76 : decode cX12_doesFit 76 = .ok (.ireturn, 1) := by decide +kernel
theorem dX12_doesFit_77 : decode cX12_doesFit 77 = .ok (.iinc 2 5, 3) := by decide +kernel
theorem dX12_doesFit_80 : decode cX12_doesFit 80 = .ok (.goto (-78), 3) := by decide +kernel
theorem dX12_doesFit_83 : decode cX12_doesFit 83 = .ok (.iconst 1, 1) := by decide +kernel
theorem dX12_doesFit_84 : decode cX12_doesFit 84 = .ok (.ireturn, 1) := by decide +kernel
theorem dX12_fits_0 : decode cX12_fits 0 = .ok (.aload_n 0, 1) := by decide +kernel
theorem dX12_fits_1 : decode cX12_fits 1 = .ok (.iconst 0, 1) := by decide +kernel
theorem dX12_fits_2 : decode cX12_fits 2 = .ok (.putfield 111, 3) := by decide +kernel
theorem dX12_fits_5 : decode cX12_fits 5 = .ok (.aload_n 0, 1) := by decide +kernel
theorem dX12_fits_6 : decode cX12_fits 6 = .ok (.getfield 307, 3) := by decide +kernel
theorem dX12_fits_9 : decode cX12_fits 9 = .ok (.ifCond .ne 5, 3) := by decide +kernel
theorem dX12_fits_12 : decode cX12_fits 12 = .ok (.iconst (-1), 1) := by decide +kernel
theorem dX12_fits_13 : decode cX12_fits 13 = .ok (.ireturn, 1) := by decide +kernel
theorem dX12_fits_14 : decode cX12_fits 14 = .ok (.iconst 0, 1) := by decide +kernel
theorem dX12_fits_15 : decode cX12_fits 15 = .ok (.istore_n 1, 1) := by decide +kernel
theorem dX12_fits_16 : decode cX12_fits 16 = .ok (.iconst 0, 1) := by decide +kernel
theorem dX12_fits_17 : decode cX12_fits 17 = .ok (.istore_n 2, 1) := by decide +kernel
theorem dX12_fits_18 : decode cX12_fits 18 = .ok (.iload_n 2, 1) := by decide +kernel
theorem dX12_fits_19 : decode cX12_fits 19 = .ok (.aload_n 0, 1) := by decide +kernel
theorem dX12_fits_20 : decode cX12_fits 20 = .ok (.getfield 302, 3) := by decide +kernel
theorem dX12_fits_23 : decode cX12_fits 23 = .ok (.if_icmp .ge 27, 3) := by decide +kernel
theorem dX12_fits_26 : decode cX12_fits 26 = .ok (.iload_n 1, 1) := by decide +kernel
theorem dX12_fits_27 : decode cX12_fits 27 = .ok (.aload_n 0, 1) := by decide +kernel
theorem dX12_fits_28 : decode cX12_fits 28 = .ok (.iload_n 2, 1) := by decide +kernel
theorem dX12_fits_29 : decode cX12_fits 29 = .ok (.invokevirtual 486, 3) := by decide +kernel
theorem dX12_fits_32 : decode cX12_fits 32 = .ok (.ifCond .eq 9, 3) := by decide +kernel
theorem dX12_fits_35 : decode cX12_fits 35 = .ok (.iconst 1, 1) := by decide +kernel
theorem dX12_fits_36 : decode cX12_fits 36 = .ok (.iload_n 2, 1) := by decide +kernel
theorem dX12_fits_37 : decode cX12_fits 37 = .ok (.ishl, 1) := by decide +kernel
theorem dX12_fits_38 : decode cX12_fits 38 = .ok (.goto 4, 3) := by decide +kernel
theorem dX12_fits_41 : decode cX12_fits 41 = .ok (.iconst 0, 1) := by decide +kernel
theorem dX12_fits_42 : decode cX12_fits 42 = .ok (.ior, 1) := by decide +kernel
theorem dX12_fits_43 : decode cX12_fits 43 = .ok (.istore_n 1, 1) := by decide +kernel
theorem dX12_fits_44 : decode cX12_fits 44 = .ok (.iinc 2 1, 3) := by decide +kernel
theorem dX12_fits_47 : decode cX12_fits 47 = .ok (.goto (-29), 3) := by decide +kernel
theorem dX12_fits_50 : decode cX12_fits 50 = .ok (.iload_n 1, 1) := by decide +kernel
theorem dX12_fits_51 : decode cX12_fits 51 = .ok (.ireturn, 1) := by decide +kernel
theorem dX12_ask_0 : decode cX12_ask 0 = .ok (.aload_n 0, 1) := by decide +kernel
theorem dX12_ask_1 : decode cX12_ask 1 = .ok (.iconst 0, 1) := by decide +kernel
theorem dX12_ask_2 : decode cX12_ask 2 = .ok (.putfield 111, 3) := by decide +kernel
theorem dX12_ask_5 : decode cX12_ask 5 = .ok (.aload_n 0, 1) := by decide +kernel
theorem dX12_ask_6 : decode cX12_ask 6 = .ok (.iload_n 1, 1) := by decide +kernel
theorem dX12_ask_7 : decode cX12_ask 7 = .ok (.invokevirtual 335, 3) := by decide +kernel
theorem dX12_ask_10 : decode cX12_ask 10 = .ok (.ifCond .eq 16, 3) := by decide +kernel
theorem dX12_ask_13 : decode cX12_ask 13 = .ok (.aload_n 0, 1) := by decide +kernel
theorem dX12_ask_14 : decode cX12_ask 14 = .ok (.iload_n 2, 1) := by decide +kernel
theorem dX12_ask_15 : decode cX12_ask 15 = .ok (.invokevirtual 335, 3) := by decide +kernel
theorem dX12_ask_18 : decode cX12_ask 18 = .ok (.ifCond .eq 8, 3) := by decide +kernel
theorem dX12_ask_21 : decode cX12_ask 21 = .ok (.iload_n 1, 1) := by decide +kernel
theorem dX12_ask_22 : decode cX12_ask 22 = .ok (.iload_n 2, 1) := by decide +kernel
theorem dX12_ask_23 : decode cX12_ask 23 = .ok (.if_icmp .ne 5, 3) := by decide +kernel
theorem dX12_ask_26 : decode cX12_ask 26 = .ok (.iconst (-1), 1) := by decide +kernel
theorem dX12_ask_27 : decode cX12_ask 27 = .ok (.ireturn, 1) := by decide +kernel
theorem dX12_ask_28 : decode cX12_ask 28 = .ok (.aload_n 0, 1) := by decide +kernel
theorem dX12_ask_29 : decode cX12_ask 29 = .ok (.invokevirtual 489, 3) := by decide +kernel
theorem dX12_ask_32 : decode cX12_ask 32 = .ok (.istore_n 3, 1) := by decide +kernel
theorem dX12_ask_33 : decode cX12_ask 33 = .ok (.iload_n 3, 1) := by decide +kernel
theorem dX12_ask_34 : decode cX12_ask 34 = .ok (.ifCond .ne 5, 3) := by decide +kernel
theorem dX12_ask_37 : decode cX12_ask 37 = .ok (.iconst (-1), 1) := by decide +kernel
theorem dX12_ask_38 : decode cX12_ask 38 = .ok (.ireturn, 1) := by decide +kernel
theorem dX12_ask_39 : decode cX12_ask 39 = .ok (.iconst (-1), 1) := by decide +kernel
theorem dX12_ask_40 : decode cX12_ask 40 = .ok (.istore 4, 2) := by decide +kernel
theorem dX12_ask_42 : decode cX12_ask 42 = .ok (.iconst 0, 1) := by decide +kernel
theorem dX12_ask_43 : decode cX12_ask 43 = .ok (.istore 5, 2) := by decide +kernel
theorem dX12_ask_45 : decode cX12_ask 45 = .ok (.iconst 1, 1) := by decide +kernel
theorem dX12_ask_46 : decode cX12_ask 46 = .ok (.istore 6, 2) := by decide +kernel
theorem dX12_ask_48 : decode cX12_ask 48 = .ok (.iload 6, 2) := by decide +kernel
theorem dX12_ask_50 : decode cX12_ask 50 = .ok (.bipush 9, 2) := by decide +kernel
theorem dX12_ask_52 : decode cX12_ask 52 = .ok (.if_icmp .gt 164, 3) := by decide +kernel
theorem dX12_ask_55 : decode cX12_ask 55 = .ok (.iconst 0, 1) := by decide +kernel
theorem dX12_ask_56 : decode cX12_ask 56 = .ok (.istore 7, 2) := by decide +kernel
theorem dX12_ask_58 : decode cX12_ask 58 = .ok (.iload 7, 2) := by decide +kernel
theorem dX12_ask_60 : decode cX12_ask 60 = .ok (.aload_n 0, 1) := by decide +kernel
theorem dX12_ask_61 : decode cX12_ask 61 = .ok (.getfield 302, 3) := by decide +kernel
theorem dX12_ask_64 : decode cX12_ask 64 = .ok (.if_icmp .ge 26, 3) := by decide +kernel
theorem dX12_ask_67 : decode cX12_ask 67 = .ok (.aload_n 0, 1) := by decide +kernel
theorem dX12_ask_68 : decode cX12_ask 68 = .ok (.getfield 99, 3) := by decide +kernel
theorem dX12_ask_71 : decode cX12_ask 71 = .ok (.iload 7, 2) := by decide +kernel
theorem dX12_ask_73 : decode cX12_ask 73 = .ok (.aload_n 0, 1) := by decide +kernel
theorem dX12_ask_74 : decode cX12_ask 74 = .ok (.iload 7, 2) := by decide +kernel
theorem dX12_ask_76 : decode cX12_ask 76 = .ok (.iload 6, 2) := by decide +kernel
theorem dX12_ask_78 : decode cX12_ask 78 = .ok (.iload_n 1, 1) := by decide +kernel
theorem dX12_ask_79 : decode cX12_ask 79 = .ok (.iload_n 2, 1) := by decide +kernel
theorem dX12_ask_80 : decode cX12_ask 80 = .ok (.invokevirtual 482, 3) := by decide +kernel
theorem dX12_ask_83 : decode cX12_ask 83 = .ok (.iastore, 1) := by decide +kernel
theorem dX12_ask_84 : decode cX12_ask 84 = .ok (.iinc 7 1, 3) := by decide +kernel
theorem dX12_ask_87 : decode cX12_ask 87 = .ok (.goto (-29), 3) := by decide +kernel
theorem dX12_ask_90 : decode cX12_ask 90 = .ok (.iconst 0, 1) := by decide +kernel
theorem dX12_ask_91 : decode cX12_ask 91 = .ok (.istore 7, 2) := by decide +kernel
theorem dX12_ask_93 : decode cX12_ask 93 = .ok (.iconst 0, 1) := by decide +kernel
theorem dX12_ask_94 : decode cX12_ask 94 = .ok (.istore 8, 2) := by decide +kernel
theorem dX12_ask_96 : decode cX12_ask 96 = .ok (.iload 8, 2) := by decide +kernel
theorem dX12_ask_98 : decode cX12_ask 98 = .ok (.aload_n 0, 1) := by decide +kernel
theorem dX12_ask_99 : decode cX12_ask 99 = .ok (.getfield 302, 3) := by decide +kernel
theorem dX12_ask_102 : decode cX12_ask 102 = .ok (.if_icmp .ge 84, 3) := by decide +kernel
theorem dX12_ask_105 : decode cX12_ask 105 = .ok (.iconst 0, 1) := by decide +kernel
theorem dX12_ask_106 : decode cX12_ask 106 = .ok (.istore 9, 2) := by decide +kernel
theorem dX12_ask_108 : decode cX12_ask 108 = .ok (.iconst 0, 1) := by decide +kernel
theorem dX12_ask_109 : decode cX12_ask 109 = .ok (.istore 10, 2) := by decide +kernel
theorem dX12_ask_111 : decode cX12_ask 111 = .ok (.iload 10, 2) := by decide +kernel
theorem dX12_ask_113 : decode cX12_ask 113 = .ok (.aload_n 0, 1) := by decide +kernel
theorem dX12_ask_114 : decode cX12_ask 114 = .ok (.getfield 302, 3) := by decide +kernel
theorem dX12_ask_117 : decode cX12_ask 117 = .ok (.if_icmp .ge 54, 3) := by decide +kernel
theorem dX12_ask_120 : decode cX12_ask 120 = .ok (.iload 9, 2) := by decide +kernel
theorem dX12_ask_122 : decode cX12_ask 122 = .ok (.iload_n 3, 1) := by decide +kernel
theorem dX12_ask_123 : decode cX12_ask 123 = .ok (.iload 8, 2) := by decide +kernel
theorem dX12_ask_125 : decode cX12_ask 125 = .ok (.invokestatic 244, 3) := by decide +kernel
theorem dX12_ask_128 : decode cX12_ask 128 = .ok (.ifCond .eq 33, 3) := by decide +kernel
theorem dX12_ask_131 : decode cX12_ask 131 = .ok (.iload_n 3, 1) := by decide +kernel
theorem dX12_ask_132 : decode cX12_ask 132 = .ok (.iload 10, 2) := by decide +kernel
theorem dX12_ask_134 : decode cX12_ask 134 = .ok (.invokestatic 244, 3) := by decide +kernel
theorem dX12_ask_137 : decode cX12_ask 137 = .ok (.ifCond .eq 24, 3) := by decide +kernel
theorem dX12_ask_140 : decode cX12_ask 140 = .ok (.aload_n 0, 1) := by decide +kernel
theorem dX12_ask_141 : decode cX12_ask 141 = .ok (.getfield 99, 3) := by decide +kernel
theorem dX12_ask_144 : decode cX12_ask 144 = .ok (.iload 10, 2) := by decide +kernel
theorem dX12_ask_146 : decode cX12_ask 146 = .ok (.iaload, 1) := by decide +kernel
theorem dX12_ask_147 : decode cX12_ask 147 = .ok (.aload_n 0, 1) := by decide +kernel
theorem dX12_ask_148 : decode cX12_ask 148 = .ok (.getfield 99, 3) := by decide +kernel
theorem dX12_ask_151 : decode cX12_ask 151 = .ok (.iload 8, 2) := by decide +kernel
theorem dX12_ask_153 : decode cX12_ask 153 = .ok (.iaload, 1) := by decide +kernel
theorem dX12_ask_154 : decode cX12_ask 154 = .ok (.if_icmp .ne 7, 3) := by decide +kernel
theorem dX12_ask_157 : decode cX12_ask 157 = .ok (.iconst 1, 1) := by decide +kernel
theorem dX12_ask_158 : decode cX12_ask 158 = .ok (.goto 4, 3) := by decide +kernel
theorem dX12_ask_161 : decode cX12_ask 161 = .ok (.iconst 0, 1) := by decide +kernel
theorem dX12_ask_162 : decode cX12_ask 162 = .ok (.iadd, 1) := by decide +kernel
theorem dX12_ask_163 : decode cX12_ask 163 = .ok (.istore 9, 2) := by decide +kernel
theorem dX12_ask_165 : decode cX12_ask 165 = .ok (.iinc 10 1, 3) := by decide +kernel
theorem dX12_ask_168 : decode cX12_ask 168 = .ok (.goto (-57), 3) := by decide +kernel
theorem dX12_ask_171 : decode cX12_ask 171 = .ok (.iload 7, 2) := by decide +kernel
theorem dX12_ask_173 : decode cX12_ask 173 = .ok (.iload 9, 2) := by decide +kernel
theorem dX12_ask_175 : decode cX12_ask 175 = .ok (.invokestatic 326, 3) := by decide +kernel
theorem dX12_ask_178 : decode cX12_ask 178 = .ok (.istore 7, 2) := by decide +kernel
theorem dX12_ask_180 : decode cX12_ask 180 = .ok (.iinc 8 1, 3) := by decide +kernel
theorem dX12_ask_183 : decode cX12_ask 183 = .ok (.goto (-87), 3) := by decide +kernel
theorem dX12_ask_186 : decode cX12_ask 186 = .ok (.iload 4, 2) := by decide +kernel
theorem dX12_ask_188 : decode cX12_ask 188 = .ok (.iconst (-1), 1) := by decide +kernel
theorem dX12_ask_189 : decode cX12_ask 189 = .ok (.if_icmp .eq 13, 3) := by decide +kernel
theorem dX12_ask_192 : decode cX12_ask 192 = .ok (.iload 7, 2) := by decide +kernel
theorem dX12_ask_194 : decode cX12_ask 194 = .ok (.iload 5, 2) := by decide +kernel
theorem dX12_ask_196 : decode cX12_ask 196 = .ok (.if_icmp .lt 6, 3) := by decide +kernel
theorem dX12_ask_199 : decode cX12_ask 199 = .ok (.goto 11, 3) := by decide +kernel
theorem dX12_ask_202 : decode cX12_ask 202 = .ok (.iload 6, 2) := by decide +kernel
theorem dX12_ask_204 : decode cX12_ask 204 = .ok (.istore 4, 2) := by decide +kernel
theorem dX12_ask_206 : decode cX12_ask 206 = .ok (.iload 7, 2) := by decide +kernel
theorem dX12_ask_208 : decode cX12_ask 208 = .ok (.istore 5, 2) := by decide +kernel
theorem dX12_ask_210 : decode cX12_ask 210 = .ok (.iinc 6 1, 3) := by decide +kernel
theorem dX12_ask_213 : decode cX12_ask 213 = .ok (.goto (-165), 3) := by decide +kernel
theorem dX12_ask_216 : decode cX12_ask 216 = .ok (.iload 4, 2) := by decide +kernel
theorem dX12_ask_218 : decode cX12_ask 218 = .ok (.ireturn, 1) := by decide +kernel
theorem dX12_fails_0 : decode cX12_fails 0 = .ok (.aload_n 0, 1) := by decide +kernel
theorem dX12_fails_1 : decode cX12_fails 1 = .ok (.getfield 143, 3) := by decide +kernel
theorem dX12_fails_4 : decode cX12_fails 4 = .ok (.iconst (-1), 1) := by decide +kernel
theorem dX12_fails_5 : decode cX12_fails 5 = .ok (.if_icmp .ne 11, 3) := by decide +kernel
theorem dX12_fails_8 : decode cX12_fails 8 = .ok (.aload_n 0, 1) := by decide +kernel
theorem dX12_fails_9 : decode cX12_fails 9 = .ok (.aload_n 0, 1) := by decide +kernel
theorem dX12_fails_10 : decode cX12_fails 10 = .ok (.getfield 134, 3) := by decide +kernel
theorem dX12_fails_13 : decode cX12_fails 13 = .ok (.putfield 143, 3) := by decide +kernel
theorem dX12_fails_16 : decode cX12_fails 16 = .ok (.iconst 0, 1) := by decide +kernel
theorem dX12_fails_17 : decode cX12_fails 17 = .ok (.ireturn, 1) := by decide +kernel
theorem dX12_goesIn_0 : decode cX12_goesIn 0 = .ok (.aload_n 0, 1) := by decide +kernel
theorem dX12_goesIn_1 : decode cX12_goesIn 1 = .ok (.getfield 146, 3) := by decide +kernel
theorem dX12_goesIn_4 : decode cX12_goesIn 4 = .ok (.bipush 6, 2) := by decide +kernel
theorem dX12_goesIn_6 : decode cX12_goesIn 6 = .ok (.if_icmp .ne 8, 3) := by decide +kernel
theorem dX12_goesIn_9 : decode cX12_goesIn 9 = .ok (.aload_n 0, 1) := by decide +kernel
theorem dX12_goesIn_10 : decode cX12_goesIn 10 = .ok (.invokevirtual 149, 3) := by decide +kernel
theorem dX12_goesIn_13 : decode cX12_goesIn 13 = .ok (.ireturn, 1) := by decide +kernel
theorem dX12_goesIn_14 : decode cX12_goesIn 14 = .ok (.aload_n 0, 1) := by decide +kernel
theorem dX12_goesIn_15 : decode cX12_goesIn 15 = .ok (.dup, 1) := by decide +kernel
theorem dX12_goesIn_16 : decode cX12_goesIn 16 = .ok (.getfield 146, 3) := by decide +kernel
theorem dX12_goesIn_19 : decode cX12_goesIn 19 = .ok (.iconst 1, 1) := by decide +kernel
theorem dX12_goesIn_20 : decode cX12_goesIn 20 = .ok (.iadd, 1) := by decide +kernel
theorem dX12_goesIn_21 : decode cX12_goesIn 21 = .ok (.putfield 146, 3) := by decide +kernel
theorem dX12_goesIn_24 : decode cX12_goesIn 24 = .ok (.aload_n 0, 1) := by decide +kernel
theorem dX12_goesIn_25 : decode cX12_goesIn 25 = .ok (.dup, 1) := by decide +kernel
theorem dX12_goesIn_26 : decode cX12_goesIn 26 = .ok (.getfield 134, 3) := by decide +kernel
theorem dX12_goesIn_29 : decode cX12_goesIn 29 = .ok (.iconst 1, 1) := by decide +kernel
theorem dX12_goesIn_30 : decode cX12_goesIn 30 = .ok (.iadd, 1) := by decide +kernel
theorem dX12_goesIn_31 : decode cX12_goesIn 31 = .ok (.putfield 134, 3) := by decide +kernel
theorem dX12_goesIn_34 : decode cX12_goesIn 34 = .ok (.iconst 1, 1) := by decide +kernel
theorem dX12_goesIn_35 : decode cX12_goesIn 35 = .ok (.ireturn, 1) := by decide +kernel
theorem dX12_isAmong_0 : decode cX12_isAmong 0 = .ok (.iconst 0, 1) := by decide +kernel
theorem dX12_isAmong_1 : decode cX12_isAmong 1 = .ok (.istore_n 2, 1) := by decide +kernel
theorem dX12_isAmong_2 : decode cX12_isAmong 2 = .ok (.iload_n 2, 1) := by decide +kernel
theorem dX12_isAmong_3 : decode cX12_isAmong 3 = .ok (.aload_n 0, 1) := by decide +kernel
theorem dX12_isAmong_4 : decode cX12_isAmong 4 = .ok (.invokevirtual 114, 3) := by decide +kernel
theorem dX12_isAmong_7 : decode cX12_isAmong 7 = .ok (.if_icmp .ge 20, 3) := by decide +kernel
theorem dX12_isAmong_10 : decode cX12_isAmong 10 = .ok (.aload_n 0, 1) := by decide +kernel
theorem dX12_isAmong_11 : decode cX12_isAmong 11 = .ok (.iload_n 2, 1) := by decide +kernel
theorem dX12_isAmong_12 : decode cX12_isAmong 12 = .ok (.invokevirtual 120, 3) := by decide +kernel
theorem dX12_isAmong_15 : decode cX12_isAmong 15 = .ok (.iload_n 1, 1) := by decide +kernel
theorem dX12_isAmong_16 : decode cX12_isAmong 16 = .ok (.if_icmp .ne 5, 3) := by decide +kernel
theorem dX12_isAmong_19 : decode cX12_isAmong 19 = .ok (.iconst 1, 1) := by decide +kernel
theorem dX12_isAmong_20 : decode cX12_isAmong 20 = .ok (.ireturn, 1) := by decide +kernel
theorem dX12_isAmong_21 : decode cX12_isAmong 21 = .ok (.iinc 2 1, 3) := by decide +kernel
theorem dX12_isAmong_24 : decode cX12_isAmong 24 = .ok (.goto (-22), 3) := by decide +kernel
theorem dX12_isAmong_27 : decode cX12_isAmong 27 = .ok (.iconst 0, 1) := by decide +kernel
theorem dX12_isAmong_28 : decode cX12_isAmong 28 = .ok (.ireturn, 1) := by decide +kernel
theorem dX12_isDigit_0 : decode cX12_isDigit 0 = .ok (.aload_n 0, 1) := by decide +kernel
theorem dX12_isDigit_1 : decode cX12_isDigit 1 = .ok (.getfield 134, 3) := by decide +kernel
theorem dX12_isDigit_4 : decode cX12_isDigit 4 = .ok (.aload_n 0, 1) := by decide +kernel
theorem dX12_isDigit_5 : decode cX12_isDigit 5 = .ok (.getfield 137, 3) := by decide +kernel
theorem dX12_isDigit_8 : decode cX12_isDigit 8 = .ok (.if_icmp .ge 45, 3) := by decide +kernel
theorem dX12_isDigit_11 : decode cX12_isDigit 11 = .ok (.aload_n 0, 1) := by decide +kernel
theorem dX12_isDigit_12 : decode cX12_isDigit 12 = .ok (.getfield 23, 3) := by decide +kernel
theorem dX12_isDigit_15 : decode cX12_isDigit 15 = .ok (.aload_n 0, 1) := by decide +kernel
theorem dX12_isDigit_16 : decode cX12_isDigit 16 = .ok (.getfield 140, 3) := by decide +kernel
theorem dX12_isDigit_19 : decode cX12_isDigit 19 = .ok (.aload_n 0, 1) := by decide +kernel
theorem dX12_isDigit_20 : decode cX12_isDigit 20 = .ok (.getfield 134, 3) := by decide +kernel
theorem dX12_isDigit_23 : decode cX12_isDigit 23 = .ok (.iadd, 1) := by decide +kernel
theorem dX12_isDigit_24 : decode cX12_isDigit 24 = .ok (.baload, 1) := by decide +kernel
theorem dX12_isDigit_25 : decode cX12_isDigit 25 = .ok (.bipush 48, 2) := by decide +kernel
theorem dX12_isDigit_27 : decode cX12_isDigit 27 = .ok (.if_icmp .lt 26, 3) := by decide +kernel
theorem dX12_isDigit_30 : decode cX12_isDigit 30 = .ok (.aload_n 0, 1) := by decide +kernel
theorem dX12_isDigit_31 : decode cX12_isDigit 31 = .ok (.getfield 23, 3) := by decide +kernel
theorem dX12_isDigit_34 : decode cX12_isDigit 34 = .ok (.aload_n 0, 1) := by decide +kernel
theorem dX12_isDigit_35 : decode cX12_isDigit 35 = .ok (.getfield 140, 3) := by decide +kernel
theorem dX12_isDigit_38 : decode cX12_isDigit 38 = .ok (.aload_n 0, 1) := by decide +kernel
theorem dX12_isDigit_39 : decode cX12_isDigit 39 = .ok (.getfield 134, 3) := by decide +kernel
theorem dX12_isDigit_42 : decode cX12_isDigit 42 = .ok (.iadd, 1) := by decide +kernel
theorem dX12_isDigit_43 : decode cX12_isDigit 43 = .ok (.baload, 1) := by decide +kernel
theorem dX12_isDigit_44 : decode cX12_isDigit 44 = .ok (.bipush 57, 2) := by decide +kernel
theorem dX12_isDigit_46 : decode cX12_isDigit 46 = .ok (.if_icmp .gt 7, 3) := by decide +kernel
theorem dX12_isDigit_49 : decode cX12_isDigit 49 = .ok (.iconst 1, 1) := by decide +kernel
theorem dX12_isDigit_50 : decode cX12_isDigit 50 = .ok (.goto 4, 3) := by decide +kernel
theorem dX12_isDigit_53 : decode cX12_isDigit 53 = .ok (.iconst 0, 1) := by decide +kernel
theorem dX12_isDigit_54 : decode cX12_isDigit 54 = .ok (.ireturn, 1) := by decide +kernel
theorem dX12_look_0 : decode cX12_look 0 = .ok (.aload_n 0, 1) := by decide +kernel
theorem dX12_look_1 : decode cX12_look 1 = .ok (.getfield 134, 3) := by decide +kernel
theorem dX12_look_4 : decode cX12_look 4 = .ok (.aload_n 0, 1) := by decide +kernel
theorem dX12_look_5 : decode cX12_look 5 = .ok (.getfield 137, 3) := by decide +kernel
theorem dX12_look_8 : decode cX12_look 8 = .ok (.if_icmp .ge 35, 3) := by decide +kernel
theorem dX12_look_11 : decode cX12_look 11 = .ok (.aload_n 0, 1) := by decide +kernel
theorem dX12_look_12 : decode cX12_look 12 = .ok (.getfield 23, 3) := by decide +kernel
theorem dX12_look_15 : decode cX12_look 15 = .ok (.aload_n 0, 1) := by decide +kernel
theorem dX12_look_16 : decode cX12_look 16 = .ok (.getfield 140, 3) := by decide +kernel
theorem dX12_look_19 : decode cX12_look 19 = .ok (.aload_n 0, 1) := by decide +kernel
theorem dX12_look_20 : decode cX12_look 20 = .ok (.getfield 134, 3) := by decide +kernel
theorem dX12_look_23 : decode cX12_look 23 = .ok (.iadd, 1) := by decide +kernel
theorem dX12_look_24 : decode cX12_look 24 = .ok (.baload, 1) := by decide +kernel
theorem dX12_look_25 : decode cX12_look 25 = .ok (.bipush 32, 2) := by decide +kernel
theorem dX12_look_27 : decode cX12_look 27 = .ok (.if_icmp .ne 16, 3) := by decide +kernel
theorem dX12_look_30 : decode cX12_look 30 = .ok (.aload_n 0, 1) := by decide +kernel
theorem dX12_look_31 : decode cX12_look 31 = .ok (.dup, 1) := by decide +kernel
theorem dX12_look_32 : decode cX12_look 32 = .ok (.getfield 134, 3) := by decide +kernel
theorem dX12_look_35 : decode cX12_look 35 = .ok (.iconst 1, 1) := by decide +kernel
theorem dX12_look_36 : decode cX12_look 36 = .ok (.iadd, 1) := by decide +kernel
theorem dX12_look_37 : decode cX12_look 37 = .ok (.putfield 134, 3) := by decide +kernel
theorem dX12_look_40 : decode cX12_look 40 = .ok (.goto (-40), 3) := by decide +kernel
theorem dX12_look_43 : decode cX12_look 43 = .ok (.aload_n 0, 1) := by decide +kernel
theorem dX12_look_44 : decode cX12_look 44 = .ok (.getfield 134, 3) := by decide +kernel
theorem dX12_look_47 : decode cX12_look 47 = .ok (.aload_n 0, 1) := by decide +kernel
theorem dX12_look_48 : decode cX12_look 48 = .ok (.getfield 137, 3) := by decide +kernel
theorem dX12_look_51 : decode cX12_look 51 = .ok (.if_icmp .ge 24, 3) := by decide +kernel
theorem dX12_look_54 : decode cX12_look 54 = .ok (.aload_n 0, 1) := by decide +kernel
theorem dX12_look_55 : decode cX12_look 55 = .ok (.getfield 23, 3) := by decide +kernel
theorem dX12_look_58 : decode cX12_look 58 = .ok (.aload_n 0, 1) := by decide +kernel
theorem dX12_look_59 : decode cX12_look 59 = .ok (.getfield 140, 3) := by decide +kernel
theorem dX12_look_62 : decode cX12_look 62 = .ok (.aload_n 0, 1) := by decide +kernel
theorem dX12_look_63 : decode cX12_look 63 = .ok (.getfield 134, 3) := by decide +kernel
theorem dX12_look_66 : decode cX12_look 66 = .ok (.iadd, 1) := by decide +kernel
theorem dX12_look_67 : decode cX12_look 67 = .ok (.baload, 1) := by decide +kernel
theorem dX12_look_68 : decode cX12_look 68 = .ok (.sipush 255, 3) := by decide +kernel
theorem dX12_look_71 : decode cX12_look 71 = .ok (.iand, 1) := by decide +kernel
theorem dX12_look_72 : decode cX12_look 72 = .ok (.goto 4, 3) := by decide +kernel
theorem dX12_look_75 : decode cX12_look 75 = .ok (.iconst (-1), 1) := by decide +kernel
theorem dX12_look_76 : decode cX12_look 76 = .ok (.ireturn, 1) := by decide +kernel
theorem dX12_within_0 : decode cX12_within 0 = .ok (.ldc2_w 156, 3) := by decide +kernel
theorem dX12_within_3 : decode cX12_within 3 = .ok (.ldc2_w 158, 3) := by decide +kernel
theorem dX12_within_6 : decode cX12_within 6 = .ok (.lload_n 0, 1) := by decide +kernel
theorem dX12_within_7 : decode cX12_within 7 = .ok (.invokestatic 160, 3) := by decide +kernel
theorem dX12_within_10 : decode cX12_within 10 = .ok (.invokestatic 166, 3) := by decide +kernel
theorem dX12_within_13 : decode cX12_within 13 = .ok (.l2i, 1) := by decide +kernel
theorem dX12_within_14 : decode cX12_within 14 = .ok (.ireturn, 1) := by decide +kernel
theorem dX12_takes_0 : decode cX12_takes 0 = .ok (.aload_n 0, 1) := by decide +kernel
theorem dX12_takes_1 : decode cX12_takes 1 = .ok (.getfield 143, 3) := by decide +kernel
theorem dX12_takes_4 : decode cX12_takes 4 = .ok (.iconst (-1), 1) := by decide +kernel
theorem dX12_takes_5 : decode cX12_takes 5 = .ok (.if_icmp .ne 11, 3) := by decide +kernel
theorem dX12_takes_8 : decode cX12_takes 8 = .ok (.aload_n 0, 1) := by decide +kernel
theorem dX12_takes_9 : decode cX12_takes 9 = .ok (.invokevirtual 153, 3) := by decide +kernel
theorem dX12_takes_12 : decode cX12_takes 12 = .ok (.iload_n 1, 1) := by decide +kernel
theorem dX12_takes_13 : decode cX12_takes 13 = .ok (.if_icmp .eq 8, 3) := by decide +kernel
theorem dX12_takes_16 : decode cX12_takes 16 = .ok (.aload_n 0, 1) := by decide +kernel
theorem dX12_takes_17 : decode cX12_takes 17 = .ok (.invokevirtual 149, 3) := by decide +kernel
theorem dX12_takes_20 : decode cX12_takes 20 = .ok (.ireturn, 1) := by decide +kernel
theorem dX12_takes_21 : decode cX12_takes 21 = .ok (.aload_n 0, 1) := by decide +kernel
theorem dX12_takes_22 : decode cX12_takes 22 = .ok (.dup, 1) := by decide +kernel
theorem dX12_takes_23 : decode cX12_takes 23 = .ok (.getfield 134, 3) := by decide +kernel
theorem dX12_takes_26 : decode cX12_takes 26 = .ok (.iconst 1, 1) := by decide +kernel
theorem dX12_takes_27 : decode cX12_takes 27 = .ok (.iadd, 1) := by decide +kernel
theorem dX12_takes_28 : decode cX12_takes 28 = .ok (.putfield 134, 3) := by decide +kernel
theorem dX12_takes_31 : decode cX12_takes 31 = .ok (.iconst 1, 1) := by decide +kernel
theorem dX12_takes_32 : decode cX12_takes 32 = .ok (.ireturn, 1) := by decide +kernel
theorem dX12_atom_0 : decode cX12_atom 0 = .ok (.aload_n 0, 1) := by decide +kernel
theorem dX12_atom_1 : decode cX12_atom 1 = .ok (.invokevirtual 153, 3) := by decide +kernel
theorem dX12_atom_4 : decode cX12_atom 4 = .ok (.istore_n 1, 1) := by decide +kernel
theorem dX12_atom_5 : decode cX12_atom 5 = .ok (.ldc 32, 2) := by decide +kernel
theorem dX12_atom_7 : decode cX12_atom 7 = .ok (.iload_n 1, 1) := by decide +kernel
theorem dX12_atom_8 : decode cX12_atom 8 = .ok (.invokestatic 169, 3) := by decide +kernel
theorem dX12_atom_11 : decode cX12_atom 11 = .ok (.ifCond .eq 20, 3) := by decide +kernel
theorem dX12_atom_14 : decode cX12_atom 14 = .ok (.aload_n 0, 1) := by decide +kernel
theorem dX12_atom_15 : decode cX12_atom 15 = .ok (.dup, 1) := by decide +kernel
theorem dX12_atom_16 : decode cX12_atom 16 = .ok (.getfield 134, 3) := by decide +kernel
theorem dX12_atom_19 : decode cX12_atom 19 = .ok (.iconst 1, 1) := by decide +kernel
theorem dX12_atom_20 : decode cX12_atom 20 = .ok (.iadd, 1) := by decide +kernel
theorem dX12_atom_21 : decode cX12_atom 21 = .ok (.putfield 134, 3) := by decide +kernel
theorem dX12_atom_24 : decode cX12_atom 24 = .ok (.aload_n 0, 1) := by decide +kernel
theorem dX12_atom_25 : decode cX12_atom 25 = .ok (.getfield 20, 3) := by decide +kernel
theorem dX12_atom_28 : decode cX12_atom 28 = .ok (.iload_n 1, 1) := by decide +kernel
theorem dX12_atom_29 : decode cX12_atom 29 = .ok (.iaload, 1) := by decide +kernel
theorem dX12_atom_30 : decode cX12_atom 30 = .ok (.ireturn, 1) := by decide +kernel
theorem dX12_atom_31 : decode cX12_atom 31 = .ok (.iload_n 1, 1) := by decide +kernel
theorem dX12_atom_32 : decode cX12_atom 32 = .ok (.bipush 91, 2) := by decide +kernel
theorem dX12_atom_34 : decode cX12_atom 34 = .ok (.if_icmp .ne 40, 3) := by decide +kernel
theorem dX12_atom_37 : decode cX12_atom 37 = .ok (.aload_n 0, 1) := by decide +kernel
theorem dX12_atom_38 : decode cX12_atom 38 = .ok (.invokevirtual 173, 3) := by decide +kernel
theorem dX12_atom_41 : decode cX12_atom 41 = .ok (.ifCond .ne 5, 3) := by decide +kernel
theorem dX12_atom_44 : decode cX12_atom 44 = .ok (.iconst 0, 1) := by decide +kernel
theorem dX12_atom_45 : decode cX12_atom 45 = .ok (.ireturn, 1) := by decide +kernel
theorem dX12_atom_46 : decode cX12_atom 46 = .ok (.aload_n 0, 1) := by decide +kernel
theorem dX12_atom_47 : decode cX12_atom 47 = .ok (.invokevirtual 176, 3) := by decide +kernel
theorem dX12_atom_50 : decode cX12_atom 50 = .ok (.istore_n 2, 1) := by decide +kernel
theorem dX12_atom_51 : decode cX12_atom 51 = .ok (.aload_n 0, 1) := by decide +kernel
theorem dX12_atom_52 : decode cX12_atom 52 = .ok (.bipush 93, 2) := by decide +kernel
theorem dX12_atom_54 : decode cX12_atom 54 = .ok (.invokevirtual 179, 3) := by decide +kernel
theorem dX12_atom_57 : decode cX12_atom 57 = .ok (.ifCond .ne 5, 3) := by decide +kernel
theorem dX12_atom_60 : decode cX12_atom 60 = .ok (.iconst 0, 1) := by decide +kernel
theorem dX12_atom_61 : decode cX12_atom 61 = .ok (.ireturn, 1) := by decide +kernel
theorem dX12_atom_62 : decode cX12_atom 62 = .ok (.aload_n 0, 1) := by decide +kernel
theorem dX12_atom_63 : decode cX12_atom 63 = .ok (.dup, 1) := by decide +kernel
theorem dX12_atom_64 : decode cX12_atom 64 = .ok (.getfield 146, 3) := by decide +kernel
theorem dX12_atom_67 : decode cX12_atom 67 = .ok (.iconst 1, 1) := by decide +kernel
theorem dX12_atom_68 : decode cX12_atom 68 = .ok (.isub, 1) := by decide +kernel
theorem dX12_atom_69 : decode cX12_atom 69 = .ok (.putfield 146, 3) := by decide +kernel
theorem dX12_atom_72 : decode cX12_atom 72 = .ok (.iload_n 2, 1) := by decide +kernel
theorem dX12_atom_73 : decode cX12_atom 73 = .ok (.ireturn, 1) := by decide +kernel
theorem dX12_atom_74 : decode cX12_atom 74 = .ok (.aload_n 0, 1) := by decide +kernel
theorem dX12_atom_75 : decode cX12_atom 75 = .ok (.invokevirtual 183, 3) := by decide +kernel
theorem dX12_atom_78 : decode cX12_atom 78 = .ok (.ifCond .ne 8, 3) := by decide +kernel
theorem dX12_atom_81 : decode cX12_atom 81 = .ok (.aload_n 0, 1) := by decide +kernel
theorem dX12_atom_82 : decode cX12_atom 82 = .ok (.invokevirtual 149, 3) := by decide +kernel
theorem dX12_atom_85 : decode cX12_atom 85 = .ok (.pop, 1) := by decide +kernel
theorem dX12_atom_86 : decode cX12_atom 86 = .ok (.iconst 0, 1) := by decide +kernel
theorem dX12_atom_87 : decode cX12_atom 87 = .ok (.istore_n 2, 1) := by decide +kernel
theorem dX12_atom_88 : decode cX12_atom 88 = .ok (.iconst 0, 1) := by decide +kernel
theorem dX12_atom_89 : decode cX12_atom 89 = .ok (.istore_n 3, 1) := by decide +kernel
theorem dX12_atom_90 : decode cX12_atom 90 = .ok (.aload_n 0, 1) := by decide +kernel
theorem dX12_atom_91 : decode cX12_atom 91 = .ok (.invokevirtual 183, 3) := by decide +kernel
theorem dX12_atom_94 : decode cX12_atom 94 = .ok (.ifCond .eq 62, 3) := by decide +kernel
theorem dX12_atom_97 : decode cX12_atom 97 = .ok (.aload_n 0, 1) := by decide +kernel
theorem dX12_atom_98 : decode cX12_atom 98 = .ok (.getfield 143, 3) := by decide +kernel
theorem dX12_atom_101 : decode cX12_atom 101 = .ok (.iconst (-1), 1) := by decide +kernel
theorem dX12_atom_102 : decode cX12_atom 102 = .ok (.if_icmp .ne 54, 3) := by decide +kernel
theorem dX12_atom_105 : decode cX12_atom 105 = .ok (.iload_n 3, 1) := by decide +kernel
theorem dX12_atom_106 : decode cX12_atom 106 = .ok (.iconst 4, 1) := by decide +kernel
theorem dX12_atom_107 : decode cX12_atom 107 = .ok (.if_icmp .ne 10, 3) := by decide +kernel
theorem dX12_atom_110 : decode cX12_atom 110 = .ok (.aload_n 0, 1) := by decide +kernel
theorem dX12_atom_111 : decode cX12_atom 111 = .ok (.invokevirtual 149, 3) := by decide +kernel
theorem dX12_atom_114 : decode cX12_atom 114 = .ok (.pop, 1) := by decide +kernel
theorem dX12_atom_115 : decode cX12_atom 115 = .ok (.iconst 0, 1) := by decide +kernel
theorem dX12_atom_116 : decode cX12_atom 116 = .ok (.ireturn, 1) := by decide +kernel
theorem dX12_atom_117 : decode cX12_atom 117 = .ok (.bipush 10, 2) := by decide +kernel
theorem dX12_atom_119 : decode cX12_atom 119 = .ok (.iload_n 2, 1) := by decide +kernel
theorem dX12_atom_120 : decode cX12_atom 120 = .ok (.imul, 1) := by decide +kernel
theorem dX12_atom_121 : decode cX12_atom 121 = .ok (.aload_n 0, 1) := by decide +kernel
theorem dX12_atom_122 : decode cX12_atom 122 = .ok (.getfield 23, 3) := by decide +kernel
theorem dX12_atom_125 : decode cX12_atom 125 = .ok (.aload_n 0, 1) := by decide +kernel
theorem dX12_atom_126 : decode cX12_atom 126 = .ok (.getfield 140, 3) := by decide +kernel
theorem dX12_atom_129 : decode cX12_atom 129 = .ok (.aload_n 0, 1) := by decide +kernel
theorem dX12_atom_130 : decode cX12_atom 130 = .ok (.getfield 134, 3) := by decide +kernel
theorem dX12_atom_133 : decode cX12_atom 133 = .ok (.iadd, 1) := by decide +kernel
theorem dX12_atom_134 : decode cX12_atom 134 = .ok (.baload, 1) := by decide +kernel
theorem dX12_atom_135 : decode cX12_atom 135 = .ok (.iadd, 1) := by decide +kernel
theorem dX12_atom_136 : decode cX12_atom 136 = .ok (.bipush 48, 2) := by decide +kernel
theorem dX12_atom_138 : decode cX12_atom 138 = .ok (.isub, 1) := by decide +kernel
theorem dX12_atom_139 : decode cX12_atom 139 = .ok (.istore_n 2, 1) := by decide +kernel
theorem dX12_atom_140 : decode cX12_atom 140 = .ok (.aload_n 0, 1) := by decide +kernel
theorem dX12_atom_141 : decode cX12_atom 141 = .ok (.dup, 1) := by decide +kernel
theorem dX12_atom_142 : decode cX12_atom 142 = .ok (.getfield 134, 3) := by decide +kernel
theorem dX12_atom_145 : decode cX12_atom 145 = .ok (.iconst 1, 1) := by decide +kernel
theorem dX12_atom_146 : decode cX12_atom 146 = .ok (.iadd, 1) := by decide +kernel
theorem dX12_atom_147 : decode cX12_atom 147 = .ok (.putfield 134, 3) := by decide +kernel
theorem dX12_atom_150 : decode cX12_atom 150 = .ok (.iinc 3 1, 3) := by decide +kernel
theorem dX12_atom_153 : decode cX12_atom 153 = .ok (.goto (-63), 3) := by decide +kernel
theorem dX12_atom_156 : decode cX12_atom 156 = .ok (.iload_n 2, 1) := by decide +kernel
theorem dX12_atom_157 : decode cX12_atom 157 = .ok (.ireturn, 1) := by decide +kernel
theorem dX12_sum_0 : decode cX12_sum 0 = .ok (.aload_n 0, 1) := by decide +kernel
theorem dX12_sum_1 : decode cX12_sum 1 = .ok (.invokevirtual 193, 3) := by decide +kernel
theorem dX12_sum_4 : decode cX12_sum 4 = .ok (.istore_n 1, 1) := by decide +kernel
theorem dX12_sum_5 : decode cX12_sum 5 = .ok (.aload_n 0, 1) := by decide +kernel
theorem dX12_sum_6 : decode cX12_sum 6 = .ok (.getfield 143, 3) := by decide +kernel
theorem dX12_sum_9 : decode cX12_sum 9 = .ok (.iconst (-1), 1) := by decide +kernel
theorem dX12_sum_10 : decode cX12_sum 10 = .ok (.if_icmp .ne 74, 3) := by decide +kernel
theorem dX12_sum_13 : decode cX12_sum 13 = .ok (.aload_n 0, 1) := by decide +kernel
theorem dX12_sum_14 : decode cX12_sum 14 = .ok (.invokevirtual 153, 3) := by decide +kernel
theorem dX12_sum_17 : decode cX12_sum 17 = .ok (.bipush 43, 2) := by decide +kernel
theorem dX12_sum_19 : decode cX12_sum 19 = .ok (.if_icmp .eq 12, 3) := by decide +kernel
theorem dX12_sum_22 : decode cX12_sum 22 = .ok (.aload_n 0, 1) := by decide +kernel
theorem dX12_sum_23 : decode cX12_sum 23 = .ok (.invokevirtual 153, 3) := by decide +kernel
theorem dX12_sum_26 : decode cX12_sum 26 = .ok (.bipush 45, 2) := by decide +kernel
theorem dX12_sum_28 : decode cX12_sum 28 = .ok (.if_icmp .ne 56, 3) := by decide +kernel
theorem dX12_sum_31 : decode cX12_sum 31 = .ok (.aload_n 0, 1) := by decide +kernel
theorem dX12_sum_32 : decode cX12_sum 32 = .ok (.invokevirtual 153, 3) := by decide +kernel
theorem dX12_sum_35 : decode cX12_sum 35 = .ok (.bipush 43, 2) := by decide +kernel
theorem dX12_sum_37 : decode cX12_sum 37 = .ok (.if_icmp .ne 7, 3) := by decide +kernel
theorem dX12_sum_40 : decode cX12_sum 40 = .ok (.iconst 1, 1) := by decide +kernel
theorem dX12_sum_41 : decode cX12_sum 41 = .ok (.goto 4, 3) := by decide +kernel
theorem dX12_sum_44 : decode cX12_sum 44 = .ok (.iconst 0, 1) := by decide +kernel
theorem dX12_sum_45 : decode cX12_sum 45 = .ok (.istore_n 2, 1) := by decide +kernel
theorem dX12_sum_46 : decode cX12_sum 46 = .ok (.aload_n 0, 1) := by decide +kernel
theorem dX12_sum_47 : decode cX12_sum 47 = .ok (.dup, 1) := by decide +kernel
theorem dX12_sum_48 : decode cX12_sum 48 = .ok (.getfield 134, 3) := by decide +kernel
theorem dX12_sum_51 : decode cX12_sum 51 = .ok (.iconst 1, 1) := by decide +kernel
theorem dX12_sum_52 : decode cX12_sum 52 = .ok (.iadd, 1) := by decide +kernel
theorem dX12_sum_53 : decode cX12_sum 53 = .ok (.putfield 134, 3) := by decide +kernel
theorem dX12_sum_56 : decode cX12_sum 56 = .ok (.aload_n 0, 1) := by decide +kernel
theorem dX12_sum_57 : decode cX12_sum 57 = .ok (.invokevirtual 193, 3) := by decide +kernel
theorem dX12_sum_60 : decode cX12_sum 60 = .ok (.i2l, 1) := by decide +kernel
theorem dX12_sum_61 : decode cX12_sum 61 = .ok (.lstore_n 3, 1) := by decide +kernel
theorem dX12_sum_62 : decode cX12_sum 62 = .ok (.iload_n 2, 1) := by decide +kernel
theorem dX12_sum_63 : decode cX12_sum 63 = .ok (.ifCond .eq 10, 3) := by decide +kernel
theorem dX12_sum_66 : decode cX12_sum 66 = .ok (.iload_n 1, 1) := by decide +kernel
theorem dX12_sum_67 : decode cX12_sum 67 = .ok (.i2l, 1) := by decide +kernel
theorem dX12_sum_68 : decode cX12_sum 68 = .ok (.lload_n 3, 1) := by decide +kernel
theorem dX12_sum_69 : decode cX12_sum 69 = .ok (.ladd, 1) := by decide +kernel
theorem dX12_sum_70 : decode cX12_sum 70 = .ok (.goto 7, 3) := by decide +kernel
theorem dX12_sum_73 : decode cX12_sum 73 = .ok (.iload_n 1, 1) := by decide +kernel
theorem dX12_sum_74 : decode cX12_sum 74 = .ok (.i2l, 1) := by decide +kernel
theorem dX12_sum_75 : decode cX12_sum 75 = .ok (.lload_n 3, 1) := by decide +kernel
theorem dX12_sum_76 : decode cX12_sum 76 = .ok (.lsub, 1) := by decide +kernel
theorem dX12_sum_77 : decode cX12_sum 77 = .ok (.invokestatic 189, 3) := by decide +kernel
theorem dX12_sum_80 : decode cX12_sum 80 = .ok (.istore_n 1, 1) := by decide +kernel
theorem dX12_sum_81 : decode cX12_sum 81 = .ok (.goto (-76), 3) := by decide +kernel
theorem dX12_sum_84 : decode cX12_sum 84 = .ok (.iload_n 1, 1) := by decide +kernel
theorem dX12_sum_85 : decode cX12_sum 85 = .ok (.ireturn, 1) := by decide +kernel
theorem dX12_term_0 : decode cX12_term 0 = .ok (.aload_n 0, 1) := by decide +kernel
theorem dX12_term_1 : decode cX12_term 1 = .ok (.invokevirtual 186, 3) := by decide +kernel
theorem dX12_term_4 : decode cX12_term 4 = .ok (.istore_n 1, 1) := by decide +kernel
theorem dX12_term_5 : decode cX12_term 5 = .ok (.aload_n 0, 1) := by decide +kernel
theorem dX12_term_6 : decode cX12_term 6 = .ok (.getfield 143, 3) := by decide +kernel
theorem dX12_term_9 : decode cX12_term 9 = .ok (.iconst (-1), 1) := by decide +kernel
theorem dX12_term_10 : decode cX12_term 10 = .ok (.if_icmp .ne 84, 3) := by decide +kernel
theorem dX12_term_13 : decode cX12_term 13 = .ok (.aload_n 0, 1) := by decide +kernel
theorem dX12_term_14 : decode cX12_term 14 = .ok (.invokevirtual 153, 3) := by decide +kernel
theorem dX12_term_17 : decode cX12_term 17 = .ok (.bipush 42, 2) := by decide +kernel
theorem dX12_term_19 : decode cX12_term 19 = .ok (.if_icmp .eq 12, 3) := by decide +kernel
theorem dX12_term_22 : decode cX12_term 22 = .ok (.aload_n 0, 1) := by decide +kernel
theorem dX12_term_23 : decode cX12_term 23 = .ok (.invokevirtual 153, 3) := by decide +kernel
theorem dX12_term_26 : decode cX12_term 26 = .ok (.bipush 47, 2) := by decide +kernel
theorem dX12_term_28 : decode cX12_term 28 = .ok (.if_icmp .ne 66, 3) := by decide +kernel
theorem dX12_term_31 : decode cX12_term 31 = .ok (.aload_n 0, 1) := by decide +kernel
theorem dX12_term_32 : decode cX12_term 32 = .ok (.invokevirtual 153, 3) := by decide +kernel
theorem dX12_term_35 : decode cX12_term 35 = .ok (.bipush 42, 2) := by decide +kernel
theorem dX12_term_37 : decode cX12_term 37 = .ok (.if_icmp .ne 7, 3) := by decide +kernel
theorem dX12_term_40 : decode cX12_term 40 = .ok (.iconst 1, 1) := by decide +kernel
theorem dX12_term_41 : decode cX12_term 41 = .ok (.goto 4, 3) := by decide +kernel
theorem dX12_term_44 : decode cX12_term 44 = .ok (.iconst 0, 1) := by decide +kernel
theorem dX12_term_45 : decode cX12_term 45 = .ok (.istore_n 2, 1) := by decide +kernel
theorem dX12_term_46 : decode cX12_term 46 = .ok (.aload_n 0, 1) := by decide +kernel
theorem dX12_term_47 : decode cX12_term 47 = .ok (.dup, 1) := by decide +kernel
theorem dX12_term_48 : decode cX12_term 48 = .ok (.getfield 134, 3) := by decide +kernel
theorem dX12_term_51 : decode cX12_term 51 = .ok (.iconst 1, 1) := by decide +kernel
theorem dX12_term_52 : decode cX12_term 52 = .ok (.iadd, 1) := by decide +kernel
theorem dX12_term_53 : decode cX12_term 53 = .ok (.putfield 134, 3) := by decide +kernel
theorem dX12_term_56 : decode cX12_term 56 = .ok (.aload_n 0, 1) := by decide +kernel
theorem dX12_term_57 : decode cX12_term 57 = .ok (.invokevirtual 186, 3) := by decide +kernel
theorem dX12_term_60 : decode cX12_term 60 = .ok (.i2l, 1) := by decide +kernel
theorem dX12_term_61 : decode cX12_term 61 = .ok (.lstore_n 3, 1) := by decide +kernel
theorem dX12_term_62 : decode cX12_term 62 = .ok (.iload_n 2, 1) := by decide +kernel
theorem dX12_term_63 : decode cX12_term 63 = .ok (.ifCond .eq 10, 3) := by decide +kernel
theorem dX12_term_66 : decode cX12_term 66 = .ok (.iload_n 1, 1) := by decide +kernel
theorem dX12_term_67 : decode cX12_term 67 = .ok (.i2l, 1) := by decide +kernel
theorem dX12_term_68 : decode cX12_term 68 = .ok (.lload_n 3, 1) := by decide +kernel
theorem dX12_term_69 : decode cX12_term 69 = .ok (.lmul, 1) := by decide +kernel
theorem dX12_term_70 : decode cX12_term 70 = .ok (.goto 17, 3) := by decide +kernel
theorem dX12_term_73 : decode cX12_term 73 = .ok (.lload_n 3, 1) := by decide +kernel
theorem dX12_term_74 : decode cX12_term 74 = .ok (.lconst 0, 1) := by decide +kernel
theorem dX12_term_75 : decode cX12_term 75 = .ok (.lcmp, 1) := by decide +kernel
theorem dX12_term_76 : decode cX12_term 76 = .ok (.ifCond .ne 7, 3) := by decide +kernel
theorem dX12_term_79 : decode cX12_term 79 = .ok (.lconst 0, 1) := by decide +kernel
theorem dX12_term_80 : decode cX12_term 80 = .ok (.goto 7, 3) := by decide +kernel
theorem dX12_term_83 : decode cX12_term 83 = .ok (.iload_n 1, 1) := by decide +kernel
theorem dX12_term_84 : decode cX12_term 84 = .ok (.i2l, 1) := by decide +kernel
theorem dX12_term_85 : decode cX12_term 85 = .ok (.lload_n 3, 1) := by decide +kernel
theorem dX12_term_86 : decode cX12_term 86 = .ok (.ldiv, 1) := by decide +kernel
theorem dX12_term_87 : decode cX12_term 87 = .ok (.invokestatic 189, 3) := by decide +kernel
theorem dX12_term_90 : decode cX12_term 90 = .ok (.istore_n 1, 1) := by decide +kernel
theorem dX12_term_91 : decode cX12_term 91 = .ok (.goto (-86), 3) := by decide +kernel
theorem dX12_term_94 : decode cX12_term 94 = .ok (.iload_n 1, 1) := by decide +kernel
theorem dX12_term_95 : decode cX12_term 95 = .ok (.ireturn, 1) := by decide +kernel
theorem dX12_back_0 : decode cX12_back 0 = .ok (.aload_n 0, 1) := by decide +kernel
theorem dX12_back_1 : decode cX12_back 1 = .ok (.iconst 0, 1) := by decide +kernel
theorem dX12_back_2 : decode cX12_back 2 = .ok (.putfield 111, 3) := by decide +kernel
theorem dX12_back_5 : decode cX12_back 5 = .ok (.aload_n 0, 1) := by decide +kernel
theorem dX12_back_6 : decode cX12_back 6 = .ok (.getfield 323, 3) := by decide +kernel
theorem dX12_back_9 : decode cX12_back 9 = .ok (.ifCond .ne 5, 3) := by decide +kernel
theorem dX12_back_12 : decode cX12_back 12 = .ok (.iconst (-1), 1) := by decide +kernel
theorem dX12_back_13 : decode cX12_back 13 = .ok (.ireturn, 1) := by decide +kernel
theorem dX12_back_14 : decode cX12_back 14 = .ok (.iconst 0, 1) := by decide +kernel
theorem dX12_back_15 : decode cX12_back 15 = .ok (.istore_n 1, 1) := by decide +kernel
theorem dX12_back_16 : decode cX12_back 16 = .ok (.iload_n 1, 1) := by decide +kernel
theorem dX12_back_17 : decode cX12_back 17 = .ok (.sipush 232, 3) := by decide +kernel
theorem dX12_back_20 : decode cX12_back 20 = .ok (.if_icmp .ge 21, 3) := by decide +kernel
theorem dX12_back_23 : decode cX12_back 23 = .ok (.aload_n 0, 1) := by decide +kernel
theorem dX12_back_24 : decode cX12_back 24 = .ok (.getfield 61, 3) := by decide +kernel
theorem dX12_back_27 : decode cX12_back 27 = .ok (.iload_n 1, 1) := by decide +kernel
theorem dX12_back_28 : decode cX12_back 28 = .ok (.aload_n 0, 1) := by decide +kernel
theorem dX12_back_29 : decode cX12_back 29 = .ok (.getfield 108, 3) := by decide +kernel
theorem dX12_back_32 : decode cX12_back 32 = .ok (.iload_n 1, 1) := by decide +kernel
theorem dX12_back_33 : decode cX12_back 33 = .ok (.iaload, 1) := by decide +kernel
theorem dX12_back_34 : decode cX12_back 34 = .ok (.iastore, 1) := by decide +kernel
theorem dX12_back_35 : decode cX12_back 35 = .ok (.iinc 1 1, 3) := by decide +kernel
theorem dX12_back_38 : decode cX12_back 38 = .ok (.goto (-22), 3) := by decide +kernel
theorem dX12_back_41 : decode cX12_back 41 = .ok (.aload_n 0, 1) := by decide +kernel
theorem dX12_back_42 : decode cX12_back 42 = .ok (.iconst 0, 1) := by decide +kernel
theorem dX12_back_43 : decode cX12_back 43 = .ok (.putfield 320, 3) := by decide +kernel
theorem dX12_back_46 : decode cX12_back 46 = .ok (.aload_n 0, 1) := by decide +kernel
theorem dX12_back_47 : decode cX12_back 47 = .ok (.getfield 61, 3) := by decide +kernel
theorem dX12_back_50 : decode cX12_back 50 = .ok (.bipush 50, 2) := by decide +kernel
theorem dX12_back_52 : decode cX12_back 52 = .ok (.iaload, 1) := by decide +kernel
theorem dX12_back_53 : decode cX12_back 53 = .ok (.ireturn, 1) := by decide +kernel
theorem dX12_bytesIn_0 : decode cX12_bytesIn 0 = .ok (.iconst 0, 1) := by decide +kernel
theorem dX12_bytesIn_1 : decode cX12_bytesIn 1 = .ok (.istore_n 1, 1) := by decide +kernel
theorem dX12_bytesIn_2 : decode cX12_bytesIn 2 = .ok (.bipush 24, 2) := by decide +kernel
theorem dX12_bytesIn_4 : decode cX12_bytesIn 4 = .ok (.istore_n 2, 1) := by decide +kernel
theorem dX12_bytesIn_5 : decode cX12_bytesIn 5 = .ok (.iload_n 2, 1) := by decide +kernel
theorem dX12_bytesIn_6 : decode cX12_bytesIn 6 = .ok (.ifCond .lt 27, 3) := by decide +kernel
theorem dX12_bytesIn_9 : decode cX12_bytesIn 9 = .ok (.iload_n 1, 1) := by decide +kernel
theorem dX12_bytesIn_10 : decode cX12_bytesIn 10 = .ok (.iload_n 0, 1) := by decide +kernel
theorem dX12_bytesIn_11 : decode cX12_bytesIn 11 = .ok (.iload_n 2, 1) := by decide +kernel
theorem dX12_bytesIn_12 : decode cX12_bytesIn 12 = .ok (.ishr, 1) := by decide +kernel
theorem dX12_bytesIn_13 : decode cX12_bytesIn 13 = .ok (.sipush 255, 3) := by decide +kernel
theorem dX12_bytesIn_16 : decode cX12_bytesIn 16 = .ok (.iand, 1) := by decide +kernel
theorem dX12_bytesIn_17 : decode cX12_bytesIn 17 = .ok (.ifCond .eq 7, 3) := by decide +kernel
theorem dX12_bytesIn_20 : decode cX12_bytesIn 20 = .ok (.iconst 1, 1) := by decide +kernel
theorem dX12_bytesIn_21 : decode cX12_bytesIn 21 = .ok (.goto 4, 3) := by decide +kernel
theorem dX12_bytesIn_24 : decode cX12_bytesIn 24 = .ok (.iconst 0, 1) := by decide +kernel
theorem dX12_bytesIn_25 : decode cX12_bytesIn 25 = .ok (.iadd, 1) := by decide +kernel
theorem dX12_bytesIn_26 : decode cX12_bytesIn 26 = .ok (.istore_n 1, 1) := by decide +kernel
theorem dX12_bytesIn_27 : decode cX12_bytesIn 27 = .ok (.iinc 2 (-8), 3) := by decide +kernel
theorem dX12_bytesIn_30 : decode cX12_bytesIn 30 = .ok (.goto (-25), 3) := by decide +kernel
