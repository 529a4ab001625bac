theorem dX12_owes_35 : decode cX12_owes 35 = .ok (.ldc_w 380, 3) := by decide +kernel
theorem dX12_owes_38 : decode cX12_owes 38 = .ok (.ireturn, 1) := by decide +kernel
theorem dX12_reach_0 : decode cX12_reach 0 = .ok (.aload_n 0, 1) := by decide +kernel
theorem dX12_reach_1 : decode cX12_reach 1 = .ok (.iconst 0, 1) := by decide +kernel
theorem dX12_reach_2 : decode cX12_reach 2 = .ok (.putfield 111, 3) := by decide +kernel
theorem dX12_reach_5 : decode cX12_reach 5 = .ok (.aload_n 0, 1) := by decide +kernel
theorem dX12_reach_6 : decode cX12_reach 6 = .ok (.getfield 307, 3) := by decide +kernel
theorem dX12_reach_9 : decode cX12_reach 9 = .ok (.ifCond .eq 15, 3) := by decide +kernel
theorem dX12_reach_12 : decode cX12_reach 12 = .ok (.iload_n 1, 1) := by decide +kernel
theorem dX12_reach_13 : decode cX12_reach 13 = .ok (.i2l, 1) := by decide +kernel
theorem dX12_reach_14 : decode cX12_reach 14 = .ok (.lconst 0, 1) := by decide +kernel
theorem dX12_reach_15 : decode cX12_reach 15 = .ok (.ldc2_w 473, 3) := by decide +kernel
theorem dX12_reach_18 : decode cX12_reach 18 = .ok (.invokestatic 232, 3) := by decide +kernel
theorem dX12_reach_21 : decode cX12_reach 21 = .ok (.ifCond .ne 5, 3) := by decide +kernel
theorem dX12_reach_24 : decode cX12_reach 24 = .ok (.iconst (-1), 1) := by decide +kernel
theorem dX12_reach_25 : decode cX12_reach 25 = .ok (.ireturn, 1) := by decide +kernel
theorem dX12_reach_26 : decode cX12_reach 26 = .ok (.aload_n 0, 1) := by decide +kernel
theorem dX12_reach_27 : decode cX12_reach 27 = .ok (.iconst 0, 1) := by decide +kernel
theorem dX12_reach_28 : decode cX12_reach 28 = .ok (.iload_n 1, 1) := by decide +kernel
theorem dX12_reach_29 : decode cX12_reach 29 = .ok (.invokevirtual 475, 3) := by decide +kernel
theorem dX12_reach_32 : decode cX12_reach 32 = .ok (.aload_n 0, 1) := by decide +kernel
theorem dX12_reach_33 : decode cX12_reach 33 = .ok (.getfield 447, 3) := by decide +kernel
theorem dX12_reach_36 : decode cX12_reach 36 = .ok (.ireturn, 1) := by decide +kernel
theorem dX12_rests_0 : decode cX12_rests 0 = .ok (.aload_n 0, 1) := by decide +kernel
theorem dX12_rests_1 : decode cX12_rests 1 = .ok (.iconst 0, 1) := by decide +kernel
theorem dX12_rests_2 : decode cX12_rests 2 = .ok (.putfield 111, 3) := by decide +kernel
theorem dX12_rests_5 : decode cX12_rests 5 = .ok (.aload_n 0, 1) := by decide +kernel
theorem dX12_rests_6 : decode cX12_rests 6 = .ok (.iload_n 1, 1) := by decide +kernel
theorem dX12_rests_7 : decode cX12_rests 7 = .ok (.iload_n 2, 1) := by decide +kernel
theorem dX12_rests_8 : decode cX12_rests 8 = .ok (.invokevirtual 495, 3) := by decide +kernel
theorem dX12_rests_11 : decode cX12_rests 11 = .ok (.ifCond .eq 8, 3) := by decide +kernel
theorem dX12_rests_14 : decode cX12_rests 14 = .ok (.iload_n 3, 1) := by decide +kernel
theorem dX12_rests_15 : decode cX12_rests 15 = .ok (.iconst (-1), 1) := by decide +kernel
theorem dX12_rests_16 : decode cX12_rests 16 = .ok (.if_icmp .ge 5, 3) := by decide +kernel
theorem dX12_rests_19 : decode cX12_rests 19 = .ok (.iconst (-1), 1) := by decide +kernel
theorem dX12_rests_20 : decode cX12_rests 20 = .ok (.ireturn, 1) := by decide +kernel
theorem dX12_rests_21 : decode cX12_rests 21 = .ok (.iconst 0, 1) := by decide +kernel
theorem dX12_rests_22 : decode cX12_rests 22 = .ok (.istore 4, 2) := by decide +kernel
theorem dX12_rests_24 : decode cX12_rests 24 = .ok (.iconst 0, 1) := by decide +kernel
theorem dX12_rests_25 : decode cX12_rests 25 = .ok (.istore 5, 2) := by decide +kernel
theorem dX12_rests_27 : decode cX12_rests 27 = .ok (.iload 5, 2) := by decide +kernel
theorem dX12_rests_29 : decode cX12_rests 29 = .ok (.iconst 2, 1) := by decide +kernel
theorem dX12_rests_30 : decode cX12_rests 30 = .ok (.if_icmp .ge 99, 3) := by decide +kernel
theorem dX12_rests_33 : decode cX12_rests 33 = .ok (.iconst 0, 1) := by decide +kernel
theorem dX12_rests_34 : decode cX12_rests 34 = .ok (.istore 6, 2) := by decide +kernel
theorem dX12_rests_36 : decode cX12_rests 36 = .ok (.iload 6, 2) := by decide +kernel
theorem dX12_rests_38 : decode cX12_rests 38 = .ok (.iconst 2, 1) := by decide +kernel
theorem dX12_rests_39 : decode cX12_rests 39 = .ok (.if_icmp .ge 84, 3) := by decide +kernel
theorem dX12_rests_42 : decode cX12_rests 42 = .ok (.aload_n 0, 1) := by decide +kernel
theorem dX12_rests_43 : decode cX12_rests 43 = .ok (.iload_n 1, 1) := by decide +kernel
theorem dX12_rests_44 : decode cX12_rests 44 = .ok (.iload_n 2, 1) := by decide +kernel
theorem dX12_rests_45 : decode cX12_rests 45 = .ok (.iconst 1, 1) := by decide +kernel
theorem dX12_rests_46 : decode cX12_rests 46 = .ok (.iload 5, 2) := by decide +kernel
theorem dX12_rests_48 : decode cX12_rests 48 = .ok (.isub, 1) := by decide +kernel
theorem dX12_rests_49 : decode cX12_rests 49 = .ok (.iload 6, 2) := by decide +kernel
theorem dX12_rests_51 : decode cX12_rests 51 = .ok (.iconst 0, 1) := by decide +kernel
theorem dX12_rests_52 : decode cX12_rests 52 = .ok (.invokevirtual 498, 3) := by decide +kernel
theorem dX12_rests_55 : decode cX12_rests 55 = .ok (.aload_n 0, 1) := by decide +kernel
theorem dX12_rests_56 : decode cX12_rests 56 = .ok (.iload_n 1, 1) := by decide +kernel
theorem dX12_rests_57 : decode cX12_rests 57 = .ok (.iload_n 2, 1) := by decide +kernel
theorem dX12_rests_58 : decode cX12_rests 58 = .ok (.iload 5, 2) := by decide +kernel
theorem dX12_rests_60 : decode cX12_rests 60 = .ok (.iload 6, 2) := by decide +kernel
theorem dX12_rests_62 : decode cX12_rests 62 = .ok (.iconst 0, 1) := by decide +kernel
theorem dX12_rests_63 : decode cX12_rests 63 = .ok (.invokevirtual 498, 3) := by decide +kernel
theorem dX12_rests_66 : decode cX12_rests 66 = .ok (.if_icmp .gt 51, 3) := by decide +kernel
theorem dX12_rests_69 : decode cX12_rests 69 = .ok (.aload_n 0, 1) := by decide +kernel
theorem dX12_rests_70 : decode cX12_rests 70 = .ok (.iload_n 1, 1) := by decide +kernel
theorem dX12_rests_71 : decode cX12_rests 71 = .ok (.iload_n 2, 1) := by decide +kernel
theorem dX12_rests_72 : decode cX12_rests 72 = .ok (.iload 5, 2) := by decide +kernel
theorem dX12_rests_74 : decode cX12_rests 74 = .ok (.iconst 1, 1) := by decide +kernel
theorem dX12_rests_75 : decode cX12_rests 75 = .ok (.iload 6, 2) := by decide +kernel
theorem dX12_rests_77 : decode cX12_rests 77 = .ok (.isub, 1) := by decide +kernel
theorem dX12_rests_78 : decode cX12_rests 78 = .ok (.iconst 1, 1) := by decide +kernel
theorem dX12_rests_79 : decode cX12_rests 79 = .ok (.invokevirtual 498, 3) := by decide +kernel
theorem dX12_rests_82 : decode cX12_rests 82 = .ok (.aload_n 0, 1) := by decide +kernel
theorem dX12_rests_83 : decode cX12_rests 83 = .ok (.iload_n 1, 1) := by decide +kernel
theorem dX12_rests_84 : decode cX12_rests 84 = .ok (.iload_n 2, 1) := by decide +kernel
theorem dX12_rests_85 : decode cX12_rests 85 = .ok (.iload 5, 2) := by decide +kernel
theorem dX12_rests_87 : decode cX12_rests 87 = .ok (.iload 6, 2) := by decide +kernel
theorem dX12_rests_89 : decode cX12_rests 89 = .ok (.iconst 1, 1) := by decide +kernel
theorem dX12_rests_90 : decode cX12_rests 90 = .ok (.invokevirtual 498, 3) := by decide +kernel
theorem dX12_rests_93 : decode cX12_rests 93 = .ok (.if_icmp .le 6, 3) := by decide +kernel
theorem dX12_rests_96 : decode cX12_rests 96 = .ok (.goto 21, 3) := by decide +kernel
theorem dX12_rests_99 : decode cX12_rests 99 = .ok (.iload 4, 2) := by decide +kernel
theorem dX12_rests_101 : decode cX12_rests 101 = .ok (.iload_n 3, 1) := by decide +kernel
theorem dX12_rests_102 : decode cX12_rests 102 = .ok (.if_icmp .ne 12, 3) := by decide +kernel
theorem dX12_rests_105 : decode cX12_rests 105 = .ok (.bipush 10, 2) := by decide +kernel
theorem dX12_rests_107 : decode cX12_rests 107 = .ok (.iload 5, 2) := by decide +kernel
theorem dX12_rests_109 : decode cX12_rests 109 = .ok (.imul, 1) := by decide +kernel
theorem dX12_rests_110 : decode cX12_rests 110 = .ok (.iload 6, 2) := by decide +kernel
theorem dX12_rests_112 : decode cX12_rests 112 = .ok (.iadd, 1) := by decide +kernel
theorem dX12_rests_113 : decode cX12_rests 113 = .ok (.ireturn, 1) := by decide +kernel
theorem dX12_rests_114 : decode cX12_rests 114 = .ok (.iinc 4 1, 3) := by decide +kernel
theorem dX12_rests_117 : decode cX12_rests 117 = .ok (.iinc 6 1, 3) := by decide +kernel
theorem dX12_rests_120 : decode cX12_rests 120 = .ok (.goto (-84), 3) := by decide +kernel
theorem dX12_rests_123 : decode cX12_rests 123 = .ok (.iinc 5 1, 3) := by decide +kernel
theorem dX12_rests_126 : decode cX12_rests 126 = .ok (.goto (-99), 3) := by decide +kernel
theorem dX12_rests_129 : decode cX12_rests 129 = .ok (.iload_n 3, 1) := by decide +kernel
theorem dX12_rests_130 : decode cX12_rests 130 = .ok (.iconst (-1), 1) := by decide +kernel
theorem dX12_rests_131 : decode cX12_rests 131 = .ok (.if_icmp .ne 8, 3) := by decide +kernel
theorem dX12_rests_134 : decode cX12_rests 134 = .ok (.iload 4, 2) := by decide +kernel
theorem dX12_rests_136 : decode cX12_rests 136 = .ok (.goto 4, 3) := by decide +kernel
theorem dX12_rests_139 : decode cX12_rests 139 = .ok (.iconst (-1), 1) := by decide +kernel
theorem dX12_rests_140 : decode cX12_rests 140 = .ok (.ireturn, 1) := by decide +kernel
theorem dX12_ring_0 : decode cX12_ring 0 = .ok (.aload_n 0, 1) := by decide +kernel
theorem dX12_ring_1 : decode cX12_ring 1 = .ok (.iconst 0, 1) := by decide +kernel
theorem dX12_ring_2 : decode cX12_ring 2 = .ok (.putfield 111, 3) := by decide +kernel
theorem dX12_ring_5 : decode cX12_ring 5 = .ok (.aload_n 0, 1) := by decide +kernel
theorem dX12_ring_6 : decode cX12_ring 6 = .ok (.getfield 307, 3) := by decide +kernel
theorem dX12_ring_9 : decode cX12_ring 9 = .ok (.ifCond .ne 7, 3) := by decide +kernel
theorem dX12_ring_12 : decode cX12_ring 12 = .ok (.iconst (-1), 1) := by decide +kernel
theorem dX12_ring_13 : decode cX12_ring 13 = .ok (.goto 11, 3) := by decide +kernel
theorem dX12_ring_16 : decode cX12_ring 16 = .ok (.aload_n 0, 1) := by decide +kernel
theorem dX12_ring_17 : decode cX12_ring 17 = .ok (.aload_n 0, 1) := by decide +kernel
theorem dX12_ring_18 : decode cX12_ring 18 = .ok (.getfield 61, 3) := by decide +kernel
theorem dX12_ring_21 : decode cX12_ring 21 = .ok (.invokevirtual 359, 3) := by decide +kernel
theorem dX12_ring_24 : decode cX12_ring 24 = .ok (.ireturn, 1) := by decide +kernel
theorem dX12_seen_0 : decode cX12_seen 0 = .ok (.aload_n 0, 1) := by decide +kernel
theorem dX12_seen_1 : decode cX12_seen 1 = .ok (.iconst 0, 1) := by decide +kernel
theorem dX12_seen_2 : decode cX12_seen 2 = .ok (.putfield 111, 3) := by decide +kernel
theorem dX12_seen_5 : decode cX12_seen 5 = .ok (.aload_n 0, 1) := by decide +kernel
theorem dX12_seen_6 : decode cX12_seen 6 = .ok (.iload_n 1, 1) := by decide +kernel
theorem dX12_seen_7 : decode cX12_seen 7 = .ok (.invokevirtual 335, 3) := by decide +kernel
theorem dX12_seen_10 : decode cX12_seen 10 = .ok (.ifCond .eq 52, 3) := by decide +kernel
theorem dX12_seen_13 : decode cX12_seen 13 = .ok (.aload_n 0, 1) := by decide +kernel
theorem dX12_seen_14 : decode cX12_seen 14 = .ok (.iload_n 2, 1) := by decide +kernel
theorem dX12_seen_15 : decode cX12_seen 15 = .ok (.invokevirtual 335, 3) := by decide +kernel
theorem dX12_seen_18 : decode cX12_seen 18 = .ok (.ifCond .eq 44, 3) := by decide +kernel
theorem dX12_seen_21 : decode cX12_seen 21 = .ok (.iload_n 1, 1) := by decide +kernel
theorem dX12_seen_22 : decode cX12_seen 22 = .ok (.iload_n 2, 1) := by decide +kernel
theorem dX12_seen_23 : decode cX12_seen 23 = .ok (.if_icmp .eq 39, 3) := by decide +kernel
theorem dX12_seen_26 : decode cX12_seen 26 = .ok (.iload_n 3, 1) := by decide +kernel
theorem dX12_seen_27 : decode cX12_seen 27 = .ok (.i2l, 1) := by decide +kernel
theorem dX12_seen_28 : decode cX12_seen 28 = .ok (.lconst 1, 1) := by decide +kernel
theorem dX12_seen_29 : decode cX12_seen 29 = .ok (.ldc2_w 386, 3) := by decide +kernel
theorem dX12_seen_32 : decode cX12_seen 32 = .ok (.invokestatic 232, 3) := by decide +kernel
theorem dX12_seen_35 : decode cX12_seen 35 = .ok (.ifCond .eq 27, 3) := by decide +kernel
theorem dX12_seen_38 : decode cX12_seen 38 = .ok (.iload 4, 2) := by decide +kernel
theorem dX12_seen_40 : decode cX12_seen 40 = .ok (.i2l, 1) := by decide +kernel
theorem dX12_seen_41 : decode cX12_seen 41 = .ok (.ldc2_w 478, 3) := by decide +kernel
theorem dX12_seen_44 : decode cX12_seen 44 = .ok (.ldc2_w 480, 3) := by decide +kernel
theorem dX12_seen_47 : decode cX12_seen 47 = .ok (.invokestatic 232, 3) := by decide +kernel
theorem dX12_seen_50 : decode cX12_seen 50 = .ok (.ifCond .eq 12, 3) := by decide +kernel
theorem dX12_seen_53 : decode cX12_seen 53 = .ok (.aload_n 0, 1) := by decide +kernel
theorem dX12_seen_54 : decode cX12_seen 54 = .ok (.getfield 317, 3) := by decide +kernel
theorem dX12_seen_57 : decode cX12_seen 57 = .ok (.bipush 10, 2) := by decide +kernel
theorem dX12_seen_59 : decode cX12_seen 59 = .ok (.if_icmp .ne 5, 3) := by decide +kernel
theorem dX12_seen_62 : decode cX12_seen 62 = .ok (.iconst (-1), 1) := by decide +kernel
theorem dX12_seen_63 : decode cX12_seen 63 = .ok (.ireturn, 1) := by decide +kernel
theorem dX12_seen_64 : decode cX12_seen 64 = .ok (.iconst 5, 1) := by decide +kernel
theorem dX12_seen_65 : decode cX12_seen 65 = .ok (.aload_n 0, 1) := by decide +kernel
theorem dX12_seen_66 : decode cX12_seen 66 = .ok (.getfield 317, 3) := by decide +kernel
theorem dX12_seen_69 : decode cX12_seen 69 = .ok (.imul, 1) := by decide +kernel
theorem dX12_seen_70 : decode cX12_seen 70 = .ok (.istore 6, 2) := by decide +kernel
theorem dX12_seen_72 : decode cX12_seen 72 = .ok (.aload_n 0, 1) := by decide +kernel
theorem dX12_seen_73 : decode cX12_seen 73 = .ok (.getfield 96, 3) := by decide +kernel
theorem dX12_seen_76 : decode cX12_seen 76 = .ok (.iload 6, 2) := by decide +kernel
theorem dX12_seen_78 : decode cX12_seen 78 = .ok (.iload_n 1, 1) := by decide +kernel
theorem dX12_seen_79 : decode cX12_seen 79 = .ok (.iastore, 1) := by decide +kernel
theorem dX12_seen_80 : decode cX12_seen 80 = .ok (.aload_n 0, 1) := by decide +kernel
theorem dX12_seen_81 : decode cX12_seen 81 = .ok (.getfield 96, 3) := by decide +kernel
theorem dX12_seen_84 : decode cX12_seen 84 = .ok (.iload 6, 2) := by decide +kernel
theorem dX12_seen_86 : decode cX12_seen 86 = .ok (.iconst 1, 1) := by decide +kernel
theorem dX12_seen_87 : decode cX12_seen 87 = .ok (.iadd, 1) := by decide +kernel
theorem dX12_seen_88 : decode cX12_seen 88 = .ok (.iload_n 2, 1) := by decide +kernel
theorem dX12_seen_89 : decode cX12_seen 89 = .ok (.iastore, 1) := by decide +kernel
theorem dX12_seen_90 : decode cX12_seen 90 = .ok (.aload_n 0, 1) := by decide +kernel
theorem dX12_seen_91 : decode cX12_seen 91 = .ok (.getfield 96, 3) := by decide +kernel
theorem dX12_seen_94 : decode cX12_seen 94 = .ok (.iload 6, 2) := by decide +kernel
theorem dX12_seen_96 : decode cX12_seen 96 = .ok (.iconst 2, 1) := by decide +kernel
theorem dX12_seen_97 : decode cX12_seen 97 = .ok (.iadd, 1) := by decide +kernel
theorem dX12_seen_98 : decode cX12_seen 98 = .ok (.iload_n 3, 1) := by decide +kernel
theorem dX12_seen_99 : decode cX12_seen 99 = .ok (.iastore, 1) := by decide +kernel
theorem dX12_seen_100 : decode cX12_seen 100 = .ok (.aload_n 0, 1) := by decide +kernel
theorem dX12_seen_101 : decode cX12_seen 101 = .ok (.getfield 96, 3) := by decide +kernel
theorem dX12_seen_104 : decode cX12_seen 104 = .ok (.iload 6, 2) := by decide +kernel
theorem dX12_seen_106 : decode cX12_seen 106 = .ok (.iconst 3, 1) := by decide +kernel
theorem dX12_seen_107 : decode cX12_seen 107 = .ok (.iadd, 1) := by decide +kernel
theorem dX12_seen_108 : decode cX12_seen 108 = .ok (.iload 4, 2) := by decide +kernel
theorem dX12_seen_110 : decode cX12_seen 110 = .ok (.iastore, 1) := by decide +kernel
theorem dX12_seen_111 : decode cX12_seen 111 = .ok (.aload_n 0, 1) := by decide +kernel
theorem dX12_seen_112 : decode cX12_seen 112 = .ok (.getfield 96, 3) := by decide +kernel
theorem dX12_seen_115 : decode cX12_seen 115 = .ok (.iload 6, 2) := by decide +kernel
theorem dX12_seen_117 : decode cX12_seen 117 = .ok (.iconst 4, 1) := by decide +kernel
theorem dX12_seen_118 : decode cX12_seen 118 = .ok (.iadd, 1) := by decide +kernel
theorem dX12_seen_119 : decode cX12_seen 119 = .ok (.iload 5, 2) := by decide +kernel
theorem dX12_seen_121 : decode cX12_seen 121 = .ok (.ifCond .eq 7, 3) := by decide +kernel
theorem dX12_seen_124 : decode cX12_seen 124 = .ok (.iconst 1, 1) := by decide +kernel
theorem dX12_seen_125 : decode cX12_seen 125 = .ok (.goto 4, 3) := by decide +kernel
theorem dX12_seen_128 : decode cX12_seen 128 = .ok (.iconst 0, 1) := by decide +kernel
theorem dX12_seen_129 : decode cX12_seen 129 = .ok (.iastore, 1) := by decide +kernel
theorem dX12_seen_130 : decode cX12_seen 130 = .ok (.aload_n 0, 1) := by decide +kernel
theorem dX12_seen_131 : decode cX12_seen 131 = .ok (.dup, 1) := by decide +kernel
theorem dX12_seen_132 : decode cX12_seen 132 = .ok (.getfield 317, 3) := by decide +kernel
theorem dX12_seen_135 : decode cX12_seen 135 = .ok (.iconst 1, 1) := by decide +kernel
theorem dX12_seen_136 : decode cX12_seen 136 = .ok (.iadd, 1) := by decide +kernel
theorem dX12_seen_137 : decode cX12_seen 137 = .ok (.putfield 317, 3) := by decide +kernel
theorem dX12_seen_140 : decode cX12_seen 140 = .ok (.aload_n 0, 1) := by decide +kernel
theorem dX12_seen_141 : decode cX12_seen 141 = .ok (.getfield 317, 3) := by decide +kernel
theorem dX12_seen_144 : decode cX12_seen 144 = .ok (.ireturn, 1) := by decide +kernel
theorem dX12_shares_0 : decode cX12_shares 0 = .ok (.aload_n 0, 1) := by decide +kernel
theorem dX12_shares_1 : decode cX12_shares 1 = .ok (.iconst 0, 1) := by decide +kernel
theorem dX12_shares_2 : decode cX12_shares 2 = .ok (.putfield 111, 3) := by decide +kernel
theorem dX12_shares_5 : decode cX12_shares 5 = .ok (.aload_n 0, 1) := by decide +kernel
theorem dX12_shares_6 : decode cX12_shares 6 = .ok (.iload_n 1, 1) := by decide +kernel
theorem dX12_shares_7 : decode cX12_shares 7 = .ok (.invokevirtual 335, 3) := by decide +kernel
theorem dX12_shares_10 : decode cX12_shares 10 = .ok (.ifCond .eq 15, 3) := by decide +kernel
theorem dX12_shares_13 : decode cX12_shares 13 = .ok (.iload_n 2, 1) := by decide +kernel
theorem dX12_shares_14 : decode cX12_shares 14 = .ok (.i2l, 1) := by decide +kernel
theorem dX12_shares_15 : decode cX12_shares 15 = .ok (.lconst 0, 1) := by decide +kernel
theorem dX12_shares_16 : decode cX12_shares 16 = .ok (.ldc2_w 508, 3) := by decide +kernel
theorem dX12_shares_19 : decode cX12_shares 19 = .ok (.invokestatic 232, 3) := by decide +kernel
theorem dX12_shares_22 : decode cX12_shares 22 = .ok (.ifCond .ne 5, 3) := by decide +kernel
theorem dX12_shares_25 : decode cX12_shares 25 = .ok (.iconst (-1), 1) := by decide +kernel
theorem dX12_shares_26 : decode cX12_shares 26 = .ok (.ireturn, 1) := by decide +kernel
theorem dX12_shares_27 : decode cX12_shares 27 = .ok (.aload_n 0, 1) := by decide +kernel
theorem dX12_shares_28 : decode cX12_shares 28 = .ok (.aload_n 0, 1) := by decide +kernel
theorem dX12_shares_29 : decode cX12_shares 29 = .ok (.getfield 61, 3) := by decide +kernel
theorem dX12_shares_32 : decode cX12_shares 32 = .ok (.invokevirtual 363, 3) := by decide +kernel
theorem dX12_shares_35 : decode cX12_shares 35 = .ok (.istore_n 3, 1) := by decide +kernel
theorem dX12_shares_36 : decode cX12_shares 36 = .ok (.iload_n 3, 1) := by decide +kernel
theorem dX12_shares_37 : decode cX12_shares 37 = .ok (.ifCond .ne 7, 3) := by decide +kernel
theorem dX12_shares_40 : decode cX12_shares 40 = .ok (.iconst 0, 1) := by decide +kernel
theorem dX12_shares_41 : decode cX12_shares 41 = .ok (.goto 16, 3) := by decide +kernel
theorem dX12_shares_44 : decode cX12_shares 44 = .ok (.iload_n 2, 1) := by decide +kernel
theorem dX12_shares_45 : decode cX12_shares 45 = .ok (.aload_n 0, 1) := by decide +kernel
theorem dX12_shares_46 : decode cX12_shares 46 = .ok (.aload_n 0, 1) := by decide +kernel
theorem dX12_shares_47 : decode cX12_shares 47 = .ok (.getfield 61, 3) := by decide +kernel
theorem dX12_shares_50 : decode cX12_shares 50 = .ok (.iload_n 1, 1) := by decide +kernel
theorem dX12_shares_51 : decode cX12_shares 51 = .ok (.invokevirtual 370, 3) := by decide +kernel
theorem dX12_shares_54 : decode cX12_shares 54 = .ok (.imul, 1) := by decide +kernel
theorem dX12_shares_55 : decode cX12_shares 55 = .ok (.iload_n 3, 1) := by decide +kernel
theorem dX12_shares_56 : decode cX12_shares 56 = .ok (.idiv, 1) := by decide +kernel
theorem dX12_shares_57 : decode cX12_shares 57 = .ok (.ireturn, 1) := by decide +kernel
theorem dX12_sing_0 : decode cX12_sing 0 = .ok (.aload_n 0, 1) := by decide +kernel
theorem dX12_sing_1 : decode cX12_sing 1 = .ok (.iconst 0, 1) := by decide +kernel
theorem dX12_sing_2 : decode cX12_sing 2 = .ok (.putfield 111, 3) := by decide +kernel
theorem dX12_sing_5 : decode cX12_sing 5 = .ok (.aload_n 0, 1) := by decide +kernel
theorem dX12_sing_6 : decode cX12_sing 6 = .ok (.iload_n 1, 1) := by decide +kernel
theorem dX12_sing_7 : decode cX12_sing 7 = .ok (.invokevirtual 381, 3) := by decide +kernel
theorem dX12_sing_10 : decode cX12_sing 10 = .ok (.ifCond .eq 10, 3) := by decide +kernel
theorem dX12_sing_13 : decode cX12_sing 13 = .ok (.aload_n 0, 1) := by decide +kernel
theorem dX12_sing_14 : decode cX12_sing 14 = .ok (.getfield 307, 3) := by decide +kernel
theorem dX12_sing_17 : decode cX12_sing 17 = .ok (.ifCond .ne 10, 3) := by decide +kernel
theorem dX12_sing_20 : decode cX12_sing 20 = .ok (.aload_n 0, 1) := by decide +kernel
theorem dX12_sing_21 : decode cX12_sing 21 = .ok (.iconst 0, 1) := by decide +kernel
theorem dX12_sing_22 : decode cX12_sing 22 = .ok (.iconst (-1), 1) := by decide +kernel
theorem dX12_sing_23 : decode cX12_sing 23 = .ok (.invokevirtual 397, 3) := by decide +kernel
theorem dX12_sing_26 : decode cX12_sing 26 = .ok (.ireturn, 1) := by decide +kernel
theorem dX12_sing_27 : decode cX12_sing 27 = .ok (.iconst 0, 1) := by decide +kernel
theorem dX12_sing_28 : decode cX12_sing 28 = .ok (.istore_n 2, 1) := by decide +kernel
theorem dX12_sing_29 : decode cX12_sing 29 = .ok (.iload_n 2, 1) := by decide +kernel
theorem dX12_sing_30 : decode cX12_sing 30 = .ok (.aload_n 0, 1) := by decide +kernel
theorem dX12_sing_31 : decode cX12_sing 31 = .ok (.getfield 58, 3) := by decide +kernel
theorem dX12_sing_34 : decode cX12_sing 34 = .ok (.iload_n 1, 1) := by decide +kernel
theorem dX12_sing_35 : decode cX12_sing 35 = .ok (.iaload, 1) := by decide +kernel
theorem dX12_sing_36 : decode cX12_sing 36 = .ok (.if_icmp .ge 68, 3) := by decide +kernel
theorem dX12_sing_39 : decode cX12_sing 39 = .ok (.aload_n 0, 1) := by decide +kernel
theorem dX12_sing_40 : decode cX12_sing 40 = .ok (.getfield 55, 3) := by decide +kernel
theorem dX12_sing_43 : decode cX12_sing 43 = .ok (.bipush 16, 2) := by decide +kernel
theorem dX12_sing_45 : decode cX12_sing 45 = .ok (.iload_n 1, 1) := by decide +kernel
theorem dX12_sing_46 : decode cX12_sing 46 = .ok (.imul, 1) := by decide +kernel
theorem dX12_sing_47 : decode cX12_sing 47 = .ok (.iload_n 2, 1) := by decide +kernel
theorem dX12_sing_48 : decode cX12_sing 48 = .ok (.iadd, 1) := by decide +kernel
theorem dX12_sing_49 : decode cX12_sing 49 = .ok (.iaload, 1) := by decide +kernel
theorem dX12_sing_50 : decode cX12_sing 50 = .ok (.istore_n 3, 1) := by decide +kernel
theorem dX12_sing_51 : decode cX12_sing 51 = .ok (.aload_n 0, 1) := by decide +kernel
theorem dX12_sing_52 : decode cX12_sing 52 = .ok (.aload_n 0, 1) := by decide +kernel
theorem dX12_sing_53 : decode cX12_sing 53 = .ok (.getfield 61, 3) := by decide +kernel
theorem dX12_sing_56 : decode cX12_sing 56 = .ok (.iload_n 3, 1) := by decide +kernel
theorem dX12_sing_57 : decode cX12_sing 57 = .ok (.invokevirtual 403, 3) := by decide +kernel
theorem dX12_sing_60 : decode cX12_sing 60 = .ok (.ifCond .eq 31, 3) := by decide +kernel
theorem dX12_sing_63 : decode cX12_sing 63 = .ok (.aload_n 0, 1) := by decide +kernel
theorem dX12_sing_64 : decode cX12_sing 64 = .ok (.getfield 61, 3) := by decide +kernel
theorem dX12_sing_67 : decode cX12_sing 67 = .ok (.bipush 49, 2) := by decide +kernel
theorem dX12_sing_69 : decode cX12_sing 69 = .ok (.iaload, 1) := by decide +kernel
theorem dX12_sing_70 : decode cX12_sing 70 = .ok (.aload_n 0, 1) := by decide +kernel
theorem dX12_sing_71 : decode cX12_sing 71 = .ok (.iload_n 3, 1) := by decide +kernel
theorem dX12_sing_72 : decode cX12_sing 72 = .ok (.invokevirtual 377, 3) := by decide +kernel
theorem dX12_sing_75 : decode cX12_sing 75 = .ok (.if_icmp .lt 16, 3) := by decide +kernel
theorem dX12_sing_78 : decode cX12_sing 78 = .ok (.aload_n 0, 1) := by decide +kernel
theorem dX12_sing_79 : decode cX12_sing 79 = .ok (.getfield 61, 3) := by decide +kernel
theorem dX12_sing_82 : decode cX12_sing 82 = .ok (.bipush 50, 2) := by decide +kernel
theorem dX12_sing_84 : decode cX12_sing 84 = .ok (.iaload, 1) := by decide +kernel
theorem dX12_sing_85 : decode cX12_sing 85 = .ok (.sipush 9999, 3) := by decide +kernel
theorem dX12_sing_88 : decode cX12_sing 88 = .ok (.if_icmp .ne 5, 3) := by decide +kernel
theorem dX12_sing_91 : decode cX12_sing 91 = .ok (.iload_n 2, 1) := by decide +kernel
theorem dX12_sing_92 : decode cX12_sing 92 = .ok (.ireturn, 1) := by decide +kernel
theorem dX12_sing_93 : decode cX12_sing 93 = .ok (.aload_n 0, 1) := by decide +kernel
theorem dX12_sing_94 : decode cX12_sing 94 = .ok (.iload_n 3, 1) := by decide +kernel
theorem dX12_sing_95 : decode cX12_sing 95 = .ok (.invokevirtual 400, 3) := by decide +kernel
theorem dX12_sing_98 : decode cX12_sing 98 = .ok (.iinc 2 1, 3) := by decide +kernel
theorem dX12_sing_101 : decode cX12_sing 101 = .ok (.goto (-72), 3) := by decide +kernel
theorem dX12_sing_104 : decode cX12_sing 104 = .ok (.iload_n 2, 1) := by decide +kernel
theorem dX12_sing_105 : decode cX12_sing 105 = .ok (.ireturn, 1) := by decide +kernel
theorem dX12_status_0 : decode cX12_status 0 = .ok (.aload_n 0, 1) := by decide +kernel
theorem dX12_status_1 : decode cX12_status 1 = .ok (.iconst 0, 1) := by decide +kernel
theorem dX12_status_2 : decode cX12_status 2 = .ok (.putfield 111, 3) := by decide +kernel
theorem dX12_status_5 : decode cX12_status 5 = .ok (.iload_n 1, 1) := by decide +kernel
theorem dX12_status_6 : decode cX12_status 6 = .ok (.i2l, 1) := by decide +kernel
theorem dX12_status_7 : decode cX12_status 7 = .ok (.lconst 0, 1) := by decide +kernel
theorem dX12_status_8 : decode cX12_status 8 = .ok (.ldc2_w 426, 3) := by decide +kernel
theorem dX12_status_11 : decode cX12_status 11 = .ok (.invokestatic 232, 3) := by decide +kernel
theorem dX12_status_14 : decode cX12_status 14 = .ok (.ifCond .eq 12, 3) := by decide +kernel
theorem dX12_status_17 : decode cX12_status 17 = .ok (.aload_n 0, 1) := by decide +kernel
theorem dX12_status_18 : decode cX12_status 18 = .ok (.getfield 67, 3) := by decide +kernel
theorem dX12_status_21 : decode cX12_status 21 = .ok (.iload_n 1, 1) := by decide +kernel
theorem dX12_status_22 : decode cX12_status 22 = .ok (.iaload, 1) := by decide +kernel
theorem dX12_status_23 : decode cX12_status 23 = .ok (.goto 4, 3) := by decide +kernel
theorem dX12_status_26 : decode cX12_status 26 = .ok (.iconst (-1), 1) := by decide +kernel
theorem dX12_status_27 : decode cX12_status 27 = .ok (.ireturn, 1) := by decide +kernel
theorem dX12_straight_0 : decode cX12_straight 0 = .ok (.aload_n 0, 1) := by decide +kernel
theorem dX12_straight_1 : decode cX12_straight 1 = .ok (.iconst 0, 1) := by decide +kernel
theorem dX12_straight_2 : decode cX12_straight 2 = .ok (.putfield 111, 3) := by decide +kernel
theorem dX12_straight_5 : decode cX12_straight 5 = .ok (.aload_n 0, 1) := by decide +kernel
theorem dX12_straight_6 : decode cX12_straight 6 = .ok (.getfield 307, 3) := by decide +kernel
theorem dX12_straight_9 : decode cX12_straight 9 = .ok (.ifCond .eq 13, 3) := by decide +kernel
theorem dX12_straight_12 : decode cX12_straight 12 = .ok (.iload_n 1, 1) := by decide +kernel
theorem dX12_straight_13 : decode cX12_straight 13 = .ok (.i2l, 1) := by decide +kernel
theorem dX12_straight_14 : decode cX12_straight 14 = .ok (.lconst 0, 1) := by decide +kernel
theorem dX12_straight_15 : decode cX12_straight 15 = .ok (.lconst 1, 1) := by decide +kernel
theorem dX12_straight_16 : decode cX12_straight 16 = .ok (.invokestatic 232, 3) := by decide +kernel
theorem dX12_straight_19 : decode cX12_straight 19 = .ok (.ifCond .ne 5, 3) := by decide +kernel
theorem dX12_straight_22 : decode cX12_straight 22 = .ok (.iconst (-1), 1) := by decide +kernel
theorem dX12_straight_23 : decode cX12_straight 23 = .ok (.ireturn, 1) := by decide +kernel
theorem dX12_straight_24 : decode cX12_straight 24 = .ok (.aload_n 0, 1) := by decide +kernel
theorem dX12_straight_25 : decode cX12_straight 25 = .ok (.iconst 1, 1) := by decide +kernel
theorem dX12_straight_26 : decode cX12_straight 26 = .ok (.iconst 4, 1) := by decide +kernel
theorem dX12_straight_27 : decode cX12_straight 27 = .ok (.invokevirtual 475, 3) := by decide +kernel
theorem dX12_straight_30 : decode cX12_straight 30 = .ok (.iload_n 1, 1) := by decide +kernel
theorem dX12_straight_31 : decode cX12_straight 31 = .ok (.ifCond .ne 10, 3) := by decide +kernel
theorem dX12_straight_34 : decode cX12_straight 34 = .ok (.aload_n 0, 1) := by decide +kernel
theorem dX12_straight_35 : decode cX12_straight 35 = .ok (.getfield 456, 3) := by decide +kernel
theorem dX12_straight_38 : decode cX12_straight 38 = .ok (.goto 7, 3) := by decide +kernel
theorem dX12_straight_41 : decode cX12_straight 41 = .ok (.aload_n 0, 1) := by decide +kernel
theorem dX12_straight_42 : decode cX12_straight 42 = .ok (.getfield 459, 3) := by decide +kernel
theorem dX12_straight_45 : decode cX12_straight 45 = .ok (.ireturn, 1) := by decide +kernel
theorem dX12_sung_0 : decode cX12_sung 0 = .ok (.aload_n 0, 1) := by decide +kernel
theorem dX12_sung_1 : decode cX12_sung 1 = .ok (.iconst 0, 1) := by decide +kernel
theorem dX12_sung_2 : decode cX12_sung 2 = .ok (.putfield 111, 3) := by decide +kernel
theorem dX12_sung_5 : decode cX12_sung 5 = .ok (.aload_n 0, 1) := by decide +kernel
theorem dX12_sung_6 : decode cX12_sung 6 = .ok (.iload_n 1, 1) := by decide +kernel
theorem dX12_sung_7 : decode cX12_sung 7 = .ok (.invokevirtual 381, 3) := by decide +kernel
theorem dX12_sung_10 : decode cX12_sung 10 = .ok (.ifCond .eq 23, 3) := by decide +kernel
theorem dX12_sung_13 : decode cX12_sung 13 = .ok (.iload_n 2, 1) := by decide +kernel
theorem dX12_sung_14 : decode cX12_sung 14 = .ok (.i2l, 1) := by decide +kernel
theorem dX12_sung_15 : decode cX12_sung 15 = .ok (.ldc2_w 384, 3) := by decide +kernel
theorem dX12_sung_18 : decode cX12_sung 18 = .ok (.aload_n 0, 1) := by decide +kernel
theorem dX12_sung_19 : decode cX12_sung 19 = .ok (.getfield 58, 3) := by decide +kernel
theorem dX12_sung_22 : decode cX12_sung 22 = .ok (.iload_n 1, 1) := by decide +kernel
theorem dX12_sung_23 : decode cX12_sung 23 = .ok (.iaload, 1) := by decide +kernel
theorem dX12_sung_24 : decode cX12_sung 24 = .ok (.iconst 1, 1) := by decide +kernel
theorem dX12_sung_25 : decode cX12_sung 25 = .ok (.isub, 1) := by decide +kernel
theorem dX12_sung_26 : decode cX12_sung 26 = .ok (.i2l, 1) := by decide +kernel
theorem dX12_sung_27 : decode cX12_sung 27 = .ok (.invokestatic 232, 3) := by decide +kernel
theorem dX12_sung_30 : decode cX12_sung 30 = .ok (.ifCond .ne 5, 3) := by decide +kernel
theorem dX12_sung_33 : decode cX12_sung 33 = .ok (.iconst (-1), 1) := by decide +kernel
theorem dX12_sung_34 : decode cX12_sung 34 = .ok (.ireturn, 1) := by decide +kernel
theorem dX12_sung_35 : decode cX12_sung 35 = .ok (.iload_n 2, 1) := by decide +kernel
theorem dX12_sung_36 : decode cX12_sung 36 = .ok (.iconst (-1), 1) := by decide +kernel
theorem dX12_sung_37 : decode cX12_sung 37 = .ok (.if_icmp .ne 12, 3) := by decide +kernel
theorem dX12_sung_40 : decode cX12_sung 40 = .ok (.aload_n 0, 1) := by decide +kernel
theorem dX12_sung_41 : decode cX12_sung 41 = .ok (.getfield 58, 3) := by decide +kernel
theorem dX12_sung_44 : decode cX12_sung 44 = .ok (.iload_n 1, 1) := by decide +kernel
theorem dX12_sung_45 : decode cX12_sung 45 = .ok (.iaload, 1) := by decide +kernel
theorem dX12_sung_46 : decode cX12_sung 46 = .ok (.goto 14, 3) := by decide +kernel
theorem dX12_sung_49 : decode cX12_sung 49 = .ok (.aload_n 0, 1) := by decide +kernel
theorem dX12_sung_50 : decode cX12_sung 50 = .ok (.getfield 55, 3) := by decide +kernel
theorem dX12_sung_53 : decode cX12_sung 53 = .ok (.bipush 16, 2) := by decide +kernel
theorem dX12_sung_55 : decode cX12_sung 55 = .ok (.iload_n 1, 1) := by decide +kernel
theorem dX12_sung_56 : decode cX12_sung 56 = .ok (.imul, 1) := by decide +kernel
theorem dX12_sung_57 : decode cX12_sung 57 = .ok (.iload_n 2, 1) := by decide +kernel
theorem dX12_sung_58 : decode cX12_sung 58 = .ok (.iadd, 1) := by decide +kernel
theorem dX12_sung_59 : decode cX12_sung 59 = .ok (.iaload, 1) := by decide +kernel
theorem dX12_sung_60 : decode cX12_sung 60 = .ok (.ireturn, 1) := by decide +kernel
theorem dX12_text_0 : decode cX12_text 0 = .ok (.aload_n 0, 1) := by decide +kernel
theorem dX12_text_1 : decode cX12_text 1 = .ok (.iconst 0, 1) := by decide +kernel
theorem dX12_text_2 : decode cX12_text 2 = .ok (.putfield 111, 3) := by decide +kernel
theorem dX12_text_5 : decode cX12_text 5 = .ok (.iload_n 1, 1) := by decide +kernel
theorem dX12_text_6 : decode cX12_text 6 = .ok (.i2l, 1) := by decide +kernel
theorem dX12_text_7 : decode cX12_text 7 = .ok (.lconst 0, 1) := by decide +kernel
theorem dX12_text_8 : decode cX12_text 8 = .ok (.ldc2_w 288, 3) := by decide +kernel
theorem dX12_text_11 : decode cX12_text 11 = .ok (.invokestatic 232, 3) := by decide +kernel
theorem dX12_text_14 : decode cX12_text 14 = .ok (.ifCond .eq 38, 3) := by decide +kernel
theorem dX12_text_17 : decode cX12_text 17 = .ok (.iload_n 1, 1) := by decide +kernel
theorem dX12_text_18 : decode cX12_text 18 = .ok (.iconst 1, 1) := by decide +kernel
theorem dX12_text_19 : decode cX12_text 19 = .ok (.if_icmp .ne 11, 3) := by decide +kernel
theorem dX12_text_22 : decode cX12_text 22 = .ok (.aload_n 0, 1) := by decide +kernel
theorem dX12_text_23 : decode cX12_text 23 = .ok (.getfield 299, 3) := by decide +kernel
theorem dX12_text_26 : decode cX12_text 26 = .ok (.iconst 4, 1) := by decide +kernel
theorem dX12_text_27 : decode cX12_text 27 = .ok (.if_icmp .eq 25, 3) := by decide +kernel
theorem dX12_text_30 : decode cX12_text 30 = .ok (.iload_n 1, 1) := by decide +kernel
theorem dX12_text_31 : decode cX12_text 31 = .ok (.iconst 2, 1) := by decide +kernel
theorem dX12_text_32 : decode cX12_text 32 = .ok (.if_icmp .ne 11, 3) := by decide +kernel
theorem dX12_text_35 : decode cX12_text 35 = .ok (.aload_n 0, 1) := by decide +kernel
theorem dX12_text_36 : decode cX12_text 36 = .ok (.getfield 302, 3) := by decide +kernel
theorem dX12_text_39 : decode cX12_text 39 = .ok (.iconst 4, 1) := by decide +kernel
theorem dX12_text_40 : decode cX12_text 40 = .ok (.if_icmp .eq 12, 3) := by decide +kernel
theorem dX12_text_43 : decode cX12_text 43 = .ok (.aload_n 0, 1) := by decide +kernel
theorem dX12_text_44 : decode cX12_text 44 = .ok (.iload_n 1, 1) := by decide +kernel
theorem dX12_text_45 : decode cX12_text 45 = .ok (.invokevirtual 305, 3) := by decide +kernel
theorem dX12_text_48 : decode cX12_text 48 = .ok (.iconst (-1), 1) := by decide +kernel
theorem dX12_text_49 : decode cX12_text 49 = .ok (.if_icmp .eq 5, 3) := by decide +kernel
theorem dX12_text_52 : decode cX12_text 52 = .ok (.iconst (-1), 1) := by decide +kernel
theorem dX12_text_53 : decode cX12_text 53 = .ok (.ireturn, 1) := by decide +kernel
theorem dX12_text_54 : decode cX12_text 54 = .ok (.aload_n 0, 1) := by decide +kernel
theorem dX12_text_55 : decode cX12_text 55 = .ok (.getfield 124, 3) := by decide +kernel
theorem dX12_text_58 : decode cX12_text 58 = .ok (.istore_n 2, 1) := by decide +kernel
theorem dX12_text_59 : decode cX12_text 59 = .ok (.aload_n 0, 1) := by decide +kernel
theorem dX12_text_60 : decode cX12_text 60 = .ok (.iconst 0, 1) := by decide +kernel
theorem dX12_text_61 : decode cX12_text 61 = .ok (.putfield 124, 3) := by decide +kernel
theorem dX12_text_64 : decode cX12_text 64 = .ok (.iload_n 1, 1) := by decide +kernel
theorem dX12_text_65 : decode cX12_text 65 = .ok (.iconst 1, 1) := by decide +kernel
theorem dX12_text_66 : decode cX12_text 66 = .ok (.if_icmp .ne 64, 3) := by decide +kernel
theorem dX12_text_69 : decode cX12_text 69 = .ok (.iconst 0, 1) := by decide +kernel
theorem dX12_text_70 : decode cX12_text 70 = .ok (.istore_n 3, 1) := by decide +kernel
theorem dX12_text_71 : decode cX12_text 71 = .ok (.iload_n 3, 1) := by decide +kernel
theorem dX12_text_72 : decode cX12_text 72 = .ok (.iload_n 2, 1) := by decide +kernel
theorem dX12_text_73 : decode cX12_text 73 = .ok (.if_icmp .ge 30, 3) := by decide +kernel
theorem dX12_text_76 : decode cX12_text 76 = .ok (.aload_n 0, 1) := by decide +kernel
theorem dX12_text_77 : decode cX12_text 77 = .ok (.getfield 13, 3) := by decide +kernel
theorem dX12_text_80 : decode cX12_text 80 = .ok (.sipush 240, 3) := by decide +kernel
theorem dX12_text_83 : decode cX12_text 83 = .ok (.aload_n 0, 1) := by decide +kernel
theorem dX12_text_84 : decode cX12_text 84 = .ok (.getfield 299, 3) := by decide +kernel
theorem dX12_text_87 : decode cX12_text 87 = .ok (.imul, 1) := by decide +kernel
theorem dX12_text_88 : decode cX12_text 88 = .ok (.iload_n 3, 1) := by decide +kernel
theorem dX12_text_89 : decode cX12_text 89 = .ok (.iadd, 1) := by decide +kernel
theorem dX12_text_90 : decode cX12_text 90 = .ok (.aload_n 0, 1) := by decide +kernel
theorem dX12_text_91 : decode cX12_text 91 = .ok (.getfield 9, 3) := by decide +kernel
theorem dX12_text_94 : decode cX12_text 94 = .ok (.iload_n 3, 1) := by decide +kernel
theorem dX12_text_95 : decode cX12_text 95 = .ok (.baload, 1) := by decide +kernel
theorem dX12_text_96 : decode cX12_text 96 = .ok (.bastore, 1) := by decide +kernel
theorem dX12_text_97 : decode cX12_text 97 = .ok (.iinc 3 1, 3) := by decide +kernel
theorem dX12_text_100 : decode cX12_text 100 = .ok (.goto (-29), 3) := by decide +kernel
theorem dX12_text_103 : decode cX12_text 103 = .ok (.aload_n 0, 1) := by decide +kernel
theorem dX12_text_104 : decode cX12_text 104 = .ok (.getfield 16, 3) := by decide +kernel
theorem dX12_text_107 : decode cX12_text 107 = .ok (.aload_n 0, 1) := by decide +kernel
theorem dX12_text_108 : decode cX12_text 108 = .ok (.getfield 299, 3) := by decide +kernel
theorem dX12_text_111 : decode cX12_text 111 = .ok (.iload_n 2, 1) := by decide +kernel
theorem dX12_text_112 : decode cX12_text 112 = .ok (.iastore, 1) := by decide +kernel
theorem dX12_text_113 : decode cX12_text 113 = .ok (.aload_n 0, 1) := by decide +kernel
theorem dX12_text_114 : decode cX12_text 114 = .ok (.dup, 1) := by decide +kernel
theorem dX12_text_115 : decode cX12_text 115 = .ok (.getfield 299, 3) := by decide +kernel
theorem dX12_text_118 : decode cX12_text 118 = .ok (.iconst 1, 1) := by decide +kernel
theorem dX12_text_119 : decode cX12_text 119 = .ok (.iadd, 1) := by decide +kernel
theorem dX12_text_120 : decode cX12_text 120 = .ok (.putfield 299, 3) := by decide +kernel
theorem dX12_text_123 : decode cX12_text 123 = .ok (.aload_n 0, 1) := by decide +kernel
theorem dX12_text_124 : decode cX12_text 124 = .ok (.getfield 299, 3) := by decide +kernel
theorem dX12_text_127 : decode cX12_text 127 = .ok (.iconst 1, 1) := by decide +kernel
theorem dX12_text_128 : decode cX12_text 128 = .ok (.isub, 1) := by decide +kernel
theorem dX12_text_129 : decode cX12_text 129 = .ok (.ireturn, 1) := by decide +kernel
theorem dX12_text_130 : decode cX12_text 130 = .ok (.iload_n 1, 1) := by decide +kernel
theorem dX12_text_131 : decode cX12_text 131 = .ok (.iconst 2, 1) := by decide +kernel
theorem dX12_text_132 : decode cX12_text 132 = .ok (.if_icmp .ne 72, 3) := by decide +kernel
theorem dX12_text_135 : decode cX12_text 135 = .ok (.iconst 0, 1) := by decide +kernel
theorem dX12_text_136 : decode cX12_text 136 = .ok (.istore_n 3, 1) := by decide +kernel
theorem dX12_text_137 : decode cX12_text 137 = .ok (.iload_n 3, 1) := by decide +kernel
theorem dX12_text_138 : decode cX12_text 138 = .ok (.bipush 16, 2) := by decide +kernel
theorem dX12_text_140 : decode cX12_text 140 = .ok (.if_icmp .ge 32, 3) := by decide +kernel
theorem dX12_text_143 : decode cX12_text 143 = .ok (.aload_n 0, 1) := by decide +kernel
theorem dX12_text_144 : decode cX12_text 144 = .ok (.getfield 55, 3) := by decide +kernel
theorem dX12_text_147 : decode cX12_text 147 = .ok (.bipush 16, 2) := by decide +kernel
theorem dX12_text_149 : decode cX12_text 149 = .ok (.aload_n 0, 1) := by decide +kernel
theorem dX12_text_150 : decode cX12_text 150 = .ok (.getfield 302, 3) := by decide +kernel
theorem dX12_text_153 : decode cX12_text 153 = .ok (.imul, 1) := by decide +kernel
theorem dX12_text_154 : decode cX12_text 154 = .ok (.iload_n 3, 1) := by decide +kernel
theorem dX12_text_155 : decode cX12_text 155 = .ok (.iadd, 1) := by decide +kernel
theorem dX12_text_156 : decode cX12_text 156 = .ok (.aload_n 0, 1) := by decide +kernel
theorem dX12_text_157 : decode cX12_text 157 = .ok (.getfield 55, 3) := by decide +kernel
theorem dX12_text_160 : decode cX12_text 160 = .ok (.bipush 64, 2) := by decide +kernel
theorem dX12_text_162 : decode cX12_text 162 = .ok (.iload_n 3, 1) := by decide +kernel
theorem dX12_text_163 : decode cX12_text 163 = .ok (.iadd, 1) := by decide +kernel
theorem dX12_text_164 : decode cX12_text 164 = .ok (.iaload, 1) := by decide +kernel
theorem dX12_text_165 : decode cX12_text 165 = .ok (.iastore, 1) := by decide +kernel
theorem dX12_text_166 : decode cX12_text 166 = .ok (.iinc 3 1, 3) := by decide +kernel
theorem dX12_text_169 : decode cX12_text 169 = .ok (.goto (-32), 3) := by decide +kernel
theorem dX12_text_172 : decode cX12_text 172 = .ok (.aload_n 0, 1) := by decide +kernel
theorem dX12_text_173 : decode cX12_text 173 = .ok (.getfield 58, 3) := by decide +kernel
theorem dX12_text_176 : decode cX12_text 176 = .ok (.aload_n 0, 1) := by decide +kernel
theorem dX12_text_177 : decode cX12_text 177 = .ok (.getfield 302, 3) := by decide +kernel
theorem dX12_text_180 : decode cX12_text 180 = .ok (.aload_n 0, 1) := by decide +kernel
theorem dX12_text_181 : decode cX12_text 181 = .ok (.getfield 58, 3) := by decide +kernel
theorem dX12_text_184 : decode cX12_text 184 = .ok (.iconst 4, 1) := by decide +kernel
theorem dX12_text_185 : decode cX12_text 185 = .ok (.iaload, 1) := by decide +kernel
theorem dX12_text_186 : decode cX12_text 186 = .ok (.iastore, 1) := by decide +kernel
theorem dX12_text_187 : decode cX12_text 187 = .ok (.aload_n 0, 1) := by decide +kernel
theorem dX12_text_188 : decode cX12_text 188 = .ok (.dup, 1) := by decide +kernel
theorem dX12_text_189 : decode cX12_text 189 = .ok (.getfield 302, 3) := by decide +kernel
theorem dX12_text_192 : decode cX12_text 192 = .ok (.iconst 1, 1) := by decide +kernel
theorem dX12_text_193 : decode cX12_text 193 = .ok (.iadd, 1) := by decide +kernel
theorem dX12_text_194 : decode cX12_text 194 = .ok (.putfield 302, 3) := by decide +kernel
theorem dX12_text_197 : decode cX12_text 197 = .ok (.aload_n 0, 1) := by decide +kernel
theorem dX12_text_198 : decode cX12_text 198 = .ok (.getfield 302, 3) := by decide +kernel
theorem dX12_text_201 : decode cX12_text 201 = .ok (.iconst 1, 1) := by decide +kernel
theorem dX12_text_202 : decode cX12_text 202 = .ok (.isub, 1) := by decide +kernel
theorem dX12_text_203 : decode cX12_text 203 = .ok (.ireturn, 1) := by decide +kernel
theorem dX12_text_204 : decode cX12_text 204 = .ok (.aload_n 0, 1) := by decide +kernel
theorem dX12_text_205 : decode cX12_text 205 = .ok (.aload_n 0, 1) := by decide +kernel
theorem dX12_text_206 : decode cX12_text 206 = .ok (.getfield 260, 3) := by decide +kernel
theorem dX12_text_209 : decode cX12_text 209 = .ok (.putfield 307, 3) := by decide +kernel
theorem dX12_text_212 : decode cX12_text 212 = .ok (.aload_n 0, 1) := by decide +kernel
theorem dX12_text_213 : decode cX12_text 213 = .ok (.aload_n 0, 1) := by decide +kernel
theorem dX12_text_214 : decode cX12_text 214 = .ok (.getfield 263, 3) := by decide +kernel
theorem dX12_text_217 : decode cX12_text 217 = .ok (.putfield 310, 3) := by decide +kernel
theorem dX12_text_220 : decode cX12_text 220 = .ok (.iconst 0, 1) := by decide +kernel
theorem dX12_text_221 : decode cX12_text 221 = .ok (.istore_n 3, 1) := by decide +kernel
theorem dX12_text_222 : decode cX12_text 222 = .ok (.iload_n 3, 1) := by decide +kernel
theorem dX12_text_223 : decode cX12_text 223 = .ok (.iconst 2, 1) := by decide +kernel
theorem dX12_text_224 : decode cX12_text 224 = .ok (.if_icmp .ge 21, 3) := by decide +kernel
theorem dX12_text_227 : decode cX12_text 227 = .ok (.aload_n 0, 1) := by decide +kernel
theorem dX12_text_228 : decode cX12_text 228 = .ok (.getfield 37, 3) := by decide +kernel
theorem dX12_text_231 : decode cX12_text 231 = .ok (.iload_n 3, 1) := by decide +kernel
theorem dX12_text_232 : decode cX12_text 232 = .ok (.aload_n 0, 1) := by decide +kernel
theorem dX12_text_233 : decode cX12_text 233 = .ok (.getfield 40, 3) := by decide +kernel
theorem dX12_text_236 : decode cX12_text 236 = .ok (.iload_n 3, 1) := by decide +kernel
theorem dX12_text_237 : decode cX12_text 237 = .ok (.iaload, 1) := by decide +kernel
theorem dX12_text_238 : decode cX12_text 238 = .ok (.iastore, 1) := by decide +kernel
theorem dX12_text_239 : decode cX12_text 239 = .ok (.iinc 3 1, 3) := by decide +kernel
theorem dX12_text_242 : decode cX12_text 242 = .ok (.goto (-20), 3) := by decide +kernel
theorem dX12_text_245 : decode cX12_text 245 = .ok (.iconst 0, 1) := by decide +kernel
theorem dX12_text_246 : decode cX12_text 246 = .ok (.istore_n 3, 1) := by decide +kernel
theorem dX12_text_247 : decode cX12_text 247 = .ok (.iload_n 3, 1) := by decide +kernel
theorem dX12_text_248 : decode cX12_text 248 = .ok (.bipush 18, 2) := by decide +kernel
theorem dX12_text_250 : decode cX12_text 250 = .ok (.if_icmp .ge 21, 3) := by decide +kernel
theorem dX12_text_253 : decode cX12_text 253 = .ok (.aload_n 0, 1) := by decide +kernel
theorem dX12_text_254 : decode cX12_text 254 = .ok (.getfield 43, 3) := by decide +kernel
theorem dX12_text_257 : decode cX12_text 257 = .ok (.iload_n 3, 1) := by decide +kernel
theorem dX12_text_258 : decode cX12_text 258 = .ok (.aload_n 0, 1) := by decide +kernel
theorem dX12_text_259 : decode cX12_text 259 = .ok (.getfield 46, 3) := by decide +kernel
theorem dX12_text_262 : decode cX12_text 262 = .ok (.iload_n 3, 1) := by decide +kernel
theorem dX12_text_263 : decode cX12_text 263 = .ok (.iaload, 1) := by decide +kernel
theorem dX12_text_264 : decode cX12_text 264 = .ok (.iastore, 1) := by decide +kernel
theorem dX12_text_265 : decode cX12_text 265 = .ok (.iinc 3 1, 3) := by decide +kernel
theorem dX12_text_268 : decode cX12_text 268 = .ok (.goto (-21), 3) := by decide +kernel
theorem dX12_text_271 : decode cX12_text 271 = .ok (.iconst 0, 1) := by decide +kernel
theorem dX12_text_272 : decode cX12_text 272 = .ok (.istore_n 3, 1) := by decide +kernel
theorem dX12_text_273 : decode cX12_text 273 = .ok (.iload_n 3, 1) := by decide +kernel
theorem dX12_text_274 : decode cX12_text 274 = .ok (.bipush 36, 2) := by decide +kernel
theorem dX12_text_276 : decode cX12_text 276 = .ok (.if_icmp .ge 21, 3) := by decide +kernel
theorem dX12_text_279 : decode cX12_text 279 = .ok (.aload_n 0, 1) := by decide +kernel
theorem dX12_text_280 : decode cX12_text 280 = .ok (.getfield 49, 3) := by decide +kernel
theorem dX12_text_283 : decode cX12_text 283 = .ok (.iload_n 3, 1) := by decide +kernel
theorem dX12_text_284 : decode cX12_text 284 = .ok (.aload_n 0, 1) := by decide +kernel
theorem dX12_text_285 : decode cX12_text 285 = .ok (.getfield 52, 3) := by decide +kernel
theorem dX12_text_288 : decode cX12_text 288 = .ok (.iload_n 3, 1) := by decide +kernel
theorem dX12_text_289 : decode cX12_text 289 = .ok (.iaload, 1) := by decide +kernel
theorem dX12_text_290 : decode cX12_text 290 = .ok (.iastore, 1) := by decide +kernel
theorem dX12_text_291 : decode cX12_text 291 = .ok (.iinc 3 1, 3) := by decide +kernel
theorem dX12_text_294 : decode cX12_text 294 = .ok (.goto (-21), 3) := by decide +kernel
theorem dX12_text_297 : decode cX12_text 297 = .ok (.aload_n 0, 1) := by decide +kernel
theorem dX12_text_298 : decode cX12_text 298 = .ok (.aload_n 0, 1) := by decide +kernel
theorem dX12_text_299 : decode cX12_text 299 = .ok (.getfield 61, 3) := by decide +kernel
theorem dX12_text_302 : decode cX12_text 302 = .ok (.invokevirtual 313, 3) := by decide +kernel
theorem dX12_text_305 : decode cX12_text 305 = .ok (.aload_n 0, 1) := by decide +kernel
theorem dX12_text_306 : decode cX12_text 306 = .ok (.iconst 0, 1) := by decide +kernel
theorem dX12_text_307 : decode cX12_text 307 = .ok (.putfield 317, 3) := by decide +kernel
theorem dX12_text_310 : decode cX12_text 310 = .ok (.aload_n 0, 1) := by decide +kernel
theorem dX12_text_311 : decode cX12_text 311 = .ok (.iconst 0, 1) := by decide +kernel
theorem dX12_text_312 : decode cX12_text 312 = .ok (.putfield 320, 3) := by decide +kernel
theorem dX12_text_315 : decode cX12_text 315 = .ok (.aload_n 0, 1) := by decide +kernel
theorem dX12_text_316 : decode cX12_text 316 = .ok (.iconst 0, 1) := by decide +kernel
theorem dX12_text_317 : decode cX12_text 317 = .ok (.putfield 323, 3) := by decide +kernel
theorem dX12_text_320 : decode cX12_text 320 = .ok (.aload_n 0, 1) := by decide +kernel
theorem dX12_text_321 : decode cX12_text 321 = .ok (.getfield 307, 3) := by decide +kernel
theorem dX12_text_324 : decode cX12_text 324 = .ok (.ireturn, 1) := by decide +kernel
theorem dX12_thrown_0 : decode cX12_thrown 0 = .ok (.aload_n 0, 1) := by decide +kernel
theorem dX12_thrown_1 : decode cX12_thrown 1 = .ok (.getfield 111, 3) := by decide +kernel
theorem dX12_thrown_4 : decode cX12_thrown 4 = .ok (.ireturn, 1) := by decide +kernel
theorem dX12_undo_0 : decode cX12_undo 0 = .ok (.aload_n 0, 1) := by decide +kernel
theorem dX12_undo_1 : decode cX12_undo 1 = .ok (.iconst 0, 1) := by decide +kernel
theorem dX12_undo_2 : decode cX12_undo 2 = .ok (.putfield 111, 3) := by decide +kernel
theorem dX12_undo_5 : decode cX12_undo 5 = .ok (.aload_n 0, 1) := by decide +kernel
theorem dX12_undo_6 : decode cX12_undo 6 = .ok (.getfield 320, 3) := by decide +kernel
theorem dX12_undo_9 : decode cX12_undo 9 = .ok (.ifCond .ne 5, 3) := by decide +kernel
theorem dX12_undo_12 : decode cX12_undo 12 = .ok (.iconst (-1), 1) := by decide +kernel
theorem dX12_undo_13 : decode cX12_undo 13 = .ok (.ireturn, 1) := by decide +kernel
theorem dX12_undo_14 : decode cX12_undo 14 = .ok (.aload_n 0, 1) := by decide +kernel
theorem dX12_undo_15 : decode cX12_undo 15 = .ok (.dup, 1) := by decide +kernel
theorem dX12_undo_16 : decode cX12_undo 16 = .ok (.getfield 320, 3) := by decide +kernel
theorem dX12_undo_19 : decode cX12_undo 19 = .ok (.iconst 1, 1) := by decide +kernel
theorem dX12_undo_20 : decode cX12_undo 20 = .ok (.isub, 1) := by decide +kernel
theorem dX12_undo_21 : decode cX12_undo 21 = .ok (.putfield 320, 3) := by decide +kernel
theorem dX12_undo_24 : decode cX12_undo 24 = .ok (.iconst 0, 1) := by decide +kernel
theorem dX12_undo_25 : decode cX12_undo 25 = .ok (.istore_n 1, 1) := by decide +kernel
theorem dX12_undo_26 : decode cX12_undo 26 = .ok (.iload_n 1, 1) := by decide +kernel
theorem dX12_undo_27 : decode cX12_undo 27 = .ok (.sipush 232, 3) := by decide +kernel
theorem dX12_undo_30 : decode cX12_undo 30 = .ok (.if_icmp .ge 30, 3) := by decide +kernel
theorem dX12_undo_33 : decode cX12_undo 33 = .ok (.aload_n 0, 1) := by decide +kernel
theorem dX12_undo_34 : decode cX12_undo 34 = .ok (.getfield 61, 3) := by decide +kernel
theorem dX12_undo_37 : decode cX12_undo 37 = .ok (.iload_n 1, 1) := by decide +kernel
theorem dX12_undo_38 : decode cX12_undo 38 = .ok (.aload_n 0, 1) := by decide +kernel
theorem dX12_undo_39 : decode cX12_undo 39 = .ok (.getfield 83, 3) := by decide +kernel
theorem dX12_undo_42 : decode cX12_undo 42 = .ok (.sipush 232, 3) := by decide +kernel
theorem dX12_undo_45 : decode cX12_undo 45 = .ok (.aload_n 0, 1) := by decide +kernel
theorem dX12_undo_46 : decode cX12_undo 46 = .ok (.getfield 320, 3) := by decide +kernel
theorem dX12_undo_49 : decode cX12_undo 49 = .ok (.imul, 1) := by decide +kernel
theorem dX12_undo_50 : decode cX12_undo 50 = .ok (.iload_n 1, 1) := by decide +kernel
theorem dX12_undo_51 : decode cX12_undo 51 = .ok (.iadd, 1) := by decide +kernel
theorem dX12_undo_52 : decode cX12_undo 52 = .ok (.iaload, 1) := by decide +kernel
theorem dX12_undo_53 : decode cX12_undo 53 = .ok (.iastore, 1) := by decide +kernel
theorem dX12_undo_54 : decode cX12_undo 54 = .ok (.iinc 1 1, 3) := by decide +kernel
theorem dX12_undo_57 : decode cX12_undo 57 = .ok (.goto (-31), 3) := by decide +kernel
theorem dX12_undo_60 : decode cX12_undo 60 = .ok (.aload_n 0, 1) := by decide +kernel
theorem dX12_undo_61 : decode cX12_undo 61 = .ok (.getfield 320, 3) := by decide +kernel
theorem dX12_undo_64 : decode cX12_undo 64 = .ok (.ireturn, 1) := by decide +kernel
theorem dX12_worthAfter_0 : decode cX12_worthAfter 0 = .ok (.aload_n 0, 1) := by decide +kernel
theorem dX12_worthAfter_1 : decode cX12_worthAfter 1 = .ok (.iconst 0, 1) := by decide +kernel
theorem dX12_worthAfter_2 : decode cX12_worthAfter 2 = .ok (.putfield 111, 3) := by decide +kernel
theorem dX12_worthAfter_5 : decode cX12_worthAfter 5 = .ok (.aload_n 0, 1) := by decide +kernel
theorem dX12_worthAfter_6 : decode cX12_worthAfter 6 = .ok (.iload_n 1, 1) := by decide +kernel
theorem dX12_worthAfter_7 : decode cX12_worthAfter 7 = .ok (.invokevirtual 381, 3) := by decide +kernel
theorem dX12_worthAfter_10 : decode cX12_worthAfter 10 = .ok (.ifCond .eq 32, 3) := by decide +kernel
theorem dX12_worthAfter_13 : decode cX12_worthAfter 13 = .ok (.iload_n 2, 1) := by decide +kernel
theorem dX12_worthAfter_14 : decode cX12_worthAfter 14 = .ok (.i2l, 1) := by decide +kernel
theorem dX12_worthAfter_15 : decode cX12_worthAfter 15 = .ok (.lconst 0, 1) := by decide +kernel
theorem dX12_worthAfter_16 : decode cX12_worthAfter 16 = .ok (.ldc2_w 435, 3) := by decide +kernel
theorem dX12_worthAfter_19 : decode cX12_worthAfter 19 = .ok (.invokestatic 232, 3) := by decide +kernel
theorem dX12_worthAfter_22 : decode cX12_worthAfter 22 = .ok (.ifCond .eq 20, 3) := by decide +kernel
theorem dX12_worthAfter_25 : decode cX12_worthAfter 25 = .ok (.aload_n 0, 1) := by decide +kernel
theorem dX12_worthAfter_26 : decode cX12_worthAfter 26 = .ok (.iload_n 3, 1) := by decide +kernel
theorem dX12_worthAfter_27 : decode cX12_worthAfter 27 = .ok (.invokevirtual 335, 3) := by decide +kernel
theorem dX12_worthAfter_30 : decode cX12_worthAfter 30 = .ok (.ifCond .eq 12, 3) := by decide +kernel
theorem dX12_worthAfter_33 : decode cX12_worthAfter 33 = .ok (.aload_n 0, 1) := by decide +kernel
theorem dX12_worthAfter_34 : decode cX12_worthAfter 34 = .ok (.iload_n 1, 1) := by decide +kernel
theorem dX12_worthAfter_35 : decode cX12_worthAfter 35 = .ok (.iload_n 2, 1) := by decide +kernel
theorem dX12_worthAfter_36 : decode cX12_worthAfter 36 = .ok (.invokevirtual 437, 3) := by decide +kernel
theorem dX12_worthAfter_39 : decode cX12_worthAfter 39 = .ok (.ifCond .ne 7, 3) := by decide +kernel
theorem dX12_worthAfter_42 : decode cX12_worthAfter 42 = .ok (.ldc_w 380, 3) := by decide +kernel
theorem dX12_worthAfter_45 : decode cX12_worthAfter 45 = .ok (.ireturn, 1) := by decide +kernel
theorem dX12_worthAfter_46 : decode cX12_worthAfter 46 = .ok (.aload_n 0, 1) := by decide +kernel
theorem dX12_worthAfter_47 : decode cX12_worthAfter 47 = .ok (.getfield 64, 3) := by decide +kernel
theorem dX12_worthAfter_50 : decode cX12_worthAfter 50 = .ok (.bipush 36, 2) := by decide +kernel
theorem dX12_worthAfter_52 : decode cX12_worthAfter 52 = .ok (.iload_n 3, 1) := by decide +kernel
theorem dX12_worthAfter_53 : decode cX12_worthAfter 53 = .ok (.iadd, 1) := by decide +kernel
theorem dX12_worthAfter_54 : decode cX12_worthAfter 54 = .ok (.iaload, 1) := by decide +kernel
theorem dX12_worthAfter_55 : decode cX12_worthAfter 55 = .ok (.ireturn, 1) := by decide +kernel
theorem dX12_years_0 : decode cX12_years 0 = .ok (.aload_n 0, 1) := by decide +kernel
theorem dX12_years_1 : decode cX12_years 1 = .ok (.iconst 0, 1) := by decide +kernel
theorem dX12_years_2 : decode cX12_years 2 = .ok (.putfield 111, 3) := by decide +kernel
theorem dX12_years_5 : decode cX12_years 5 = .ok (.aload_n 0, 1) := by decide +kernel
theorem dX12_years_6 : decode cX12_years 6 = .ok (.getfield 307, 3) := by decide +kernel
theorem dX12_years_9 : decode cX12_years 9 = .ok (.ifCond .eq 30, 3) := by decide +kernel
theorem dX12_years_12 : decode cX12_years 12 = .ok (.iload_n 1, 1) := by decide +kernel
theorem dX12_years_13 : decode cX12_years 13 = .ok (.i2l, 1) := by decide +kernel
theorem dX12_years_14 : decode cX12_years 14 = .ok (.lconst 1, 1) := by decide +kernel
theorem dX12_years_15 : decode cX12_years 15 = .ok (.ldc2_w 421, 3) := by decide +kernel
theorem dX12_years_18 : decode cX12_years 18 = .ok (.invokestatic 232, 3) := by decide +kernel
theorem dX12_years_21 : decode cX12_years 21 = .ok (.ifCond .eq 18, 3) := by decide +kernel
theorem dX12_years_24 : decode cX12_years 24 = .ok (.aload_n 0, 1) := by decide +kernel
theorem dX12_years_25 : decode cX12_years 25 = .ok (.getfield 61, 3) := by decide +kernel
theorem dX12_years_28 : decode cX12_years 28 = .ok (.bipush 50, 2) := by decide +kernel
theorem dX12_years_30 : decode cX12_years 30 = .ok (.iaload, 1) := by decide +kernel
theorem dX12_years_31 : decode cX12_years 31 = .ok (.iload_n 1, 1) := by decide +kernel
theorem dX12_years_32 : decode cX12_years 32 = .ok (.iadd, 1) := by decide +kernel
theorem dX12_years_33 : decode cX12_years 33 = .ok (.sipush 9999, 3) := by decide +kernel
theorem dX12_years_36 : decode cX12_years 36 = .ok (.if_icmp .le 5, 3) := by decide +kernel
theorem dX12_years_39 : decode cX12_years 39 = .ok (.iconst (-1), 1) := by decide +kernel
theorem dX12_years_40 : decode cX12_years 40 = .ok (.ireturn, 1) := by decide +kernel
theorem dX12_years_41 : decode cX12_years 41 = .ok (.aload_n 0, 1) := by decide +kernel
theorem dX12_years_42 : decode cX12_years 42 = .ok (.lload_n 2, 1) := by decide +kernel
theorem dX12_years_43 : decode cX12_years 43 = .ok (.putfield 413, 3) := by decide +kernel
theorem dX12_years_46 : decode cX12_years 46 = .ok (.iconst 0, 1) := by decide +kernel
theorem dX12_years_47 : decode cX12_years 47 = .ok (.istore 4, 2) := by decide +kernel
theorem dX12_years_49 : decode cX12_years 49 = .ok (.iload 4, 2) := by decide +kernel
theorem dX12_years_51 : decode cX12_years 51 = .ok (.iload_n 1, 1) := by decide +kernel
theorem dX12_years_52 : decode cX12_years 52 = .ok (.if_icmp .ge 96, 3) := by decide +kernel
theorem dX12_years_55 : decode cX12_years 55 = .ok (.aload_n 0, 1) := by decide +kernel
theorem dX12_years_56 : decode cX12_years 56 = .ok (.invokevirtual 388, 3) := by decide +kernel
theorem dX12_years_59 : decode cX12_years 59 = .ok (.aload_n 0, 1) := by decide +kernel
theorem dX12_years_60 : decode cX12_years 60 = .ok (.aload_n 0, 1) := by decide +kernel
theorem dX12_years_61 : decode cX12_years 61 = .ok (.getfield 307, 3) := by decide +kernel
theorem dX12_years_64 : decode cX12_years 64 = .ok (.invokevirtual 423, 3) := by decide +kernel
theorem dX12_years_67 : decode cX12_years 67 = .ok (.istore 5, 2) := by decide +kernel
theorem dX12_years_69 : decode cX12_years 69 = .ok (.aload_n 0, 1) := by decide +kernel
theorem dX12_years_70 : decode cX12_years 70 = .ok (.aload_n 0, 1) := by decide +kernel
theorem dX12_years_71 : decode cX12_years 71 = .ok (.getfield 61, 3) := by decide +kernel
theorem dX12_years_74 : decode cX12_years 74 = .ok (.iload 5, 2) := by decide +kernel
theorem dX12_years_76 : decode cX12_years 76 = .ok (.invokevirtual 403, 3) := by decide +kernel
theorem dX12_years_79 : decode cX12_years 79 = .ok (.ifCond .eq 19, 3) := by decide +kernel
theorem dX12_years_82 : decode cX12_years 82 = .ok (.aload_n 0, 1) := by decide +kernel
theorem dX12_years_83 : decode cX12_years 83 = .ok (.aload_n 0, 1) := by decide +kernel
theorem dX12_years_84 : decode cX12_years 84 = .ok (.getfield 61, 3) := by decide +kernel
theorem dX12_years_87 : decode cX12_years 87 = .ok (.iload 5, 2) := by decide +kernel
theorem dX12_years_89 : decode cX12_years 89 = .ok (.invokevirtual 391, 3) := by decide +kernel
theorem dX12_years_92 : decode cX12_years 92 = .ok (.aload_n 0, 1) := by decide +kernel
theorem dX12_years_93 : decode cX12_years 93 = .ok (.iload 5, 2) := by decide +kernel
theorem dX12_years_95 : decode cX12_years 95 = .ok (.invokevirtual 394, 3) := by decide +kernel
theorem dX12_years_98 : decode cX12_years 98 = .ok (.aload_n 0, 1) := by decide +kernel
theorem dX12_years_99 : decode cX12_years 99 = .ok (.bipush 10, 2) := by decide +kernel
theorem dX12_years_101 : decode cX12_years 101 = .ok (.invokevirtual 423, 3) := by decide +kernel
theorem dX12_years_104 : decode cX12_years 104 = .ok (.aload_n 0, 1) := by decide +kernel
theorem dX12_years_105 : decode cX12_years 105 = .ok (.getfield 74, 3) := by decide +kernel
theorem dX12_years_108 : decode cX12_years 108 = .ok (.if_icmp .ge 34, 3) := by decide +kernel
theorem dX12_years_111 : decode cX12_years 111 = .ok (.aload_n 0, 1) := by decide +kernel
theorem dX12_years_112 : decode cX12_years 112 = .ok (.aload_n 0, 1) := by decide +kernel
theorem dX12_years_113 : decode cX12_years 113 = .ok (.getfield 307, 3) := by decide +kernel
theorem dX12_years_116 : decode cX12_years 116 = .ok (.invokevirtual 423, 3) := by decide +kernel
theorem dX12_years_119 : decode cX12_years 119 = .ok (.istore 6, 2) := by decide +kernel
theorem dX12_years_121 : decode cX12_years 121 = .ok (.aload_n 0, 1) := by decide +kernel
theorem dX12_years_122 : decode cX12_years 122 = .ok (.aload_n 0, 1) := by decide +kernel
theorem dX12_years_123 : decode cX12_years 123 = .ok (.getfield 307, 3) := by decide +kernel
theorem dX12_years_126 : decode cX12_years 126 = .ok (.invokevirtual 423, 3) := by decide +kernel
theorem dX12_years_129 : decode cX12_years 129 = .ok (.istore 7, 2) := by decide +kernel
theorem dX12_years_131 : decode cX12_years 131 = .ok (.aload_n 0, 1) := by decide +kernel
theorem dX12_years_132 : decode cX12_years 132 = .ok (.getfield 61, 3) := by decide +kernel
theorem dX12_years_135 : decode cX12_years 135 = .ok (.iload 6, 2) := by decide +kernel
theorem dX12_years_137 : decode cX12_years 137 = .ok (.iload 7, 2) := by decide +kernel
theorem dX12_years_139 : decode cX12_years 139 = .ok (.invokestatic 407, 3) := by decide +kernel
theorem dX12_years_142 : decode cX12_years 142 = .ok (.iinc 4 1, 3) := by decide +kernel
theorem dX12_years_145 : decode cX12_years 145 = .ok (.goto (-96), 3) := by decide +kernel
theorem dX12_years_148 : decode cX12_years 148 = .ok (.aload_n 0, 1) := by decide +kernel
theorem dX12_years_149 : decode cX12_years 149 = .ok (.getfield 61, 3) := by decide +kernel
theorem dX12_years_152 : decode cX12_years 152 = .ok (.bipush 50, 2) := by decide +kernel
theorem dX12_years_154 : decode cX12_years 154 = .ok (.iaload, 1) := by decide +kernel
theorem dX12_years_155 : decode cX12_years 155 = .ok (.ireturn, 1) := by decide +kernel
