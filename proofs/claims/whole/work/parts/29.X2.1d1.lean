theorem dX2_isComparison_0 : decode cX2_isComparison 0 = .ok (.iload_n 0, 1) := by decide +kernel
theorem dX2_isComparison_1 : decode cX2_isComparison 1 = .ok (.bipush 61, 2) := by decide +kernel
theorem dX2_isComparison_3 : decode cX2_isComparison 3 = .ok (.if_icmp .eq 15, 3) := by decide +kernel
theorem dX2_isComparison_6 : decode cX2_isComparison 6 = .ok (.iload_n 0, 1) := by decide +kernel
theorem dX2_isComparison_7 : decode cX2_isComparison 7 = .ok (.bipush 60, 2) := by decide +kernel
theorem dX2_isComparison_9 : decode cX2_isComparison 9 = .ok (.if_icmp .eq 9, 3) := by decide +kernel
theorem dX2_isComparison_12 : decode cX2_isComparison 12 = .ok (.iload_n 0, 1) := by decide +kernel
theorem dX2_isComparison_13 : decode cX2_isComparison 13 = .ok (.bipush 62, 2) := by decide +kernel
theorem dX2_isComparison_15 : decode cX2_isComparison 15 = .ok (.if_icmp .ne 7, 3) := by decide +kernel
theorem dX2_isComparison_18 : decode cX2_isComparison 18 = .ok (.iconst 1, 1) := by decide +kernel
theorem dX2_isComparison_19 : decode cX2_isComparison 19 = .ok (.goto 4, 3) := by decide +kernel
theorem dX2_isComparison_22 : decode cX2_isComparison 22 = .ok (.iconst 0, 1) := by decide +kernel
theorem dX2_isComparison_23 : decode cX2_isComparison 23 = .ok (.ireturn, 1) := by decide +kernel
theorem dX2_closed_0 : decode cX2_closed 0 = .ok (.aload_n 0, 1) := by decide +kernel
theorem dX2_closed_1 : decode cX2_closed 1 = .ok (.iload_n 2, 1) := by decide +kernel
theorem dX2_closed_2 : decode cX2_closed 2 = .ok (.invokevirtual 51, 3) := by decide +kernel
theorem dX2_closed_5 : decode cX2_closed 5 = .ok (.iload_n 1, 1) := by decide +kernel
theorem dX2_closed_6 : decode cX2_closed 6 = .ok (.ireturn, 1) := by decide +kernel
theorem dX2_goesIn_0 : decode cX2_goesIn 0 = .ok (.aload_n 0, 1) := by decide +kernel
theorem dX2_goesIn_1 : decode cX2_goesIn 1 = .ok (.getfield 45, 3) := by decide +kernel
theorem dX2_goesIn_4 : decode cX2_goesIn 4 = .ok (.ifCond .ne 9, 3) := by decide +kernel
theorem dX2_goesIn_7 : decode cX2_goesIn 7 = .ok (.iload_n 1, 1) := by decide +kernel
theorem dX2_goesIn_8 : decode cX2_goesIn 8 = .ok (.bipush 6, 2) := by decide +kernel
theorem dX2_goesIn_10 : decode cX2_goesIn 10 = .ok (.if_icmp .lt 10, 3) := by decide +kernel
theorem dX2_goesIn_13 : decode cX2_goesIn 13 = .ok (.aload_n 0, 1) := by decide +kernel
theorem dX2_goesIn_14 : decode cX2_goesIn 14 = .ok (.iconst 1, 1) := by decide +kernel
theorem dX2_goesIn_15 : decode cX2_goesIn 15 = .ok (.putfield 45, 3) := by decide +kernel
theorem dX2_goesIn_18 : decode cX2_goesIn 18 = .ok (.iconst 0, 1) := by decide +kernel
theorem dX2_goesIn_19 : decode cX2_goesIn 19 = .ok (.ireturn, 1) := by decide +kernel
theorem dX2_goesIn_20 : decode cX2_goesIn 20 = .ok (.aload_n 0, 1) := by decide +kernel
theorem dX2_goesIn_21 : decode cX2_goesIn 21 = .ok (.dup, 1) := by decide +kernel
theorem dX2_goesIn_22 : decode cX2_goesIn 22 = .ok (.getfield 82, 3) := by decide +kernel
theorem dX2_goesIn_25 : decode cX2_goesIn 25 = .ok (.iconst 1, 1) := by decide +kernel
theorem dX2_goesIn_26 : decode cX2_goesIn 26 = .ok (.iadd, 1) := by decide +kernel
theorem dX2_goesIn_27 : decode cX2_goesIn 27 = .ok (.putfield 82, 3) := by decide +kernel
theorem dX2_goesIn_30 : decode cX2_goesIn 30 = .ok (.iconst 1, 1) := by decide +kernel
theorem dX2_goesIn_31 : decode cX2_goesIn 31 = .ok (.ireturn, 1) := by decide +kernel
theorem dX2_held_0 : decode cX2_held 0 = .ok (.ldc2_w 92, 3) := by decide +kernel
theorem dX2_held_3 : decode cX2_held 3 = .ok (.ldc2_w 94, 3) := by decide +kernel
theorem dX2_held_6 : decode cX2_held 6 = .ok (.lload_n 0, 1) := by decide +kernel
theorem dX2_held_7 : decode cX2_held 7 = .ok (.invokestatic 96, 3) := by decide +kernel
theorem dX2_held_10 : decode cX2_held 10 = .ok (.invokestatic 102, 3) := by decide +kernel
theorem dX2_held_13 : decode cX2_held 13 = .ok (.l2i, 1) := by decide +kernel
theorem dX2_held_14 : decode cX2_held 14 = .ok (.ireturn, 1) := by decide +kernel
theorem dX2_joined_0 : decode cX2_joined 0 = .ok (.iload_n 1, 1) := by decide +kernel
theorem dX2_joined_1 : decode cX2_joined 1 = .ok (.lookupswitch 86 #[(38, 55), (42, 77), (43, 59), (45, 68), (124, 51)], 51) := by decide +kernel
theorem dX2_joined_52 : decode cX2_joined 52 = .ok (.iload_n 0, 1) := by decide +kernel
theorem dX2_joined_53 : decode cX2_joined 53 = .ok (.iload_n 2, 1) := by decide +kernel
theorem dX2_joined_54 : decode cX2_joined 54 = .ok (.ior, 1) := by decide +kernel
theorem dX2_joined_55 : decode cX2_joined 55 = .ok (.ireturn, 1) := by decide +kernel
theorem dX2_joined_56 : decode cX2_joined 56 = .ok (.iload_n 0, 1) := by decide +kernel
theorem dX2_joined_57 : decode cX2_joined 57 = .ok (.iload_n 2, 1) := by decide +kernel
theorem dX2_joined_58 : decode cX2_joined 58 = .ok (.iand, 1) := by decide +kernel
theorem dX2_joined_59 : decode cX2_joined 59 = .ok (.ireturn, 1) := by decide +kernel
theorem dX2_joined_60 : decode cX2_joined 60 = .ok (.iload_n 0, 1) := by decide +kernel
theorem dX2_joined_61 : decode cX2_joined 61 = .ok (.i2l, 1) := by decide +kernel
theorem dX2_joined_62 : decode cX2_joined 62 = .ok (.iload_n 2, 1) := by decide +kernel
theorem dX2_joined_63 : decode cX2_joined 63 = .ok (.i2l, 1) := by decide +kernel
theorem dX2_joined_64 : decode cX2_joined 64 = .ok (.ladd, 1) := by decide +kernel
theorem dX2_joined_65 : decode cX2_joined 65 = .ok (.invokestatic 88, 3) := by decide +kernel
theorem dX2_joined_68 : decode cX2_joined 68 = .ok (.ireturn, 1) := by decide +kernel
theorem dX2_joined_69 : decode cX2_joined 69 = .ok (.iload_n 0, 1) := by decide +kernel
theorem dX2_joined_70 : decode cX2_joined 70 = .ok (.i2l, 1) := by decide +kernel
theorem dX2_joined_71 : decode cX2_joined 71 = .ok (.iload_n 2, 1) := by decide +kernel
theorem dX2_joined_72 : decode cX2_joined 72 = .ok (.i2l, 1) := by decide +kernel
theorem dX2_joined_73 : decode cX2_joined 73 = .ok (.lsub, 1) := by decide +kernel
theorem dX2_joined_74 : decode cX2_joined 74 = .ok (.invokestatic 88, 3) := by decide +kernel
theorem dX2_joined_77 : decode cX2_joined 77 = .ok (.ireturn, 1) := by decide +kernel
theorem dX2_joined_78 : decode cX2_joined 78 = .ok (.iload_n 0, 1) := by decide +kernel
theorem dX2_joined_79 : decode cX2_joined 79 = .ok (.i2l, 1) := by decide +kernel
theorem dX2_joined_80 : decode cX2_joined 80 = .ok (.iload_n 2, 1) := by decide +kernel
theorem dX2_joined_81 : decode cX2_joined 81 = .ok (.i2l, 1) := by decide +kernel
theorem dX2_joined_82 : decode cX2_joined 82 = .ok (.lmul, 1) := by decide +kernel
theorem dX2_joined_83 : decode cX2_joined 83 = .ok (.invokestatic 88, 3) := by decide +kernel
theorem dX2_joined_86 : decode cX2_joined 86 = .ok (.ireturn, 1) := by decide +kernel
theorem dX2_joined_87 : decode cX2_joined 87 = .ok (.iload_n 2, 1) := by decide +kernel
theorem dX2_joined_88 : decode cX2_joined 88 = .ok (.ifCond .ne 7, 3) := by decide +kernel
theorem dX2_joined_91 : decode cX2_joined 91 = .ok (.iconst 0, 1) := by decide +kernel
theorem dX2_joined_92 : decode cX2_joined 92 = .ok (.goto 6, 3) := by decide +kernel
theorem dX2_joined_95 : decode cX2_joined 95 = .ok (.iload_n 0, 1) := by decide +kernel
theorem dX2_joined_96 : decode cX2_joined 96 = .ok (.iload_n 2, 1) := by decide +kernel
theorem dX2_joined_97 : decode cX2_joined 97 = .ok (.idiv, 1) := by decide +kernel
theorem dX2_joined_98 : decode cX2_joined 98 = .ok (.ireturn, 1) := by decide +kernel
theorem dX2_atom_0 : decode cX2_atom 0 = .ok (.aload_n 0, 1) := by decide +kernel
theorem dX2_atom_1 : decode cX2_atom 1 = .ok (.invokevirtual 42, 3) := by decide +kernel
theorem dX2_atom_4 : decode cX2_atom 4 = .ok (.istore_n 2, 1) := by decide +kernel
theorem dX2_atom_5 : decode cX2_atom 5 = .ok (.iload_n 2, 1) := by decide +kernel
theorem dX2_atom_6 : decode cX2_atom 6 = .ok (.bipush 91, 2) := by decide +kernel
theorem dX2_atom_8 : decode cX2_atom 8 = .ok (.if_icmp .ne 30, 3) := by decide +kernel
theorem dX2_atom_11 : decode cX2_atom 11 = .ok (.aload_n 0, 1) := by decide +kernel
theorem dX2_atom_12 : decode cX2_atom 12 = .ok (.iload_n 1, 1) := by decide +kernel
theorem dX2_atom_13 : decode cX2_atom 13 = .ok (.invokevirtual 105, 3) := by decide +kernel
theorem dX2_atom_16 : decode cX2_atom 16 = .ok (.ifCond .eq 20, 3) := by decide +kernel
theorem dX2_atom_19 : decode cX2_atom 19 = .ok (.aload_n 0, 1) := by decide +kernel
theorem dX2_atom_20 : decode cX2_atom 20 = .ok (.aload_n 0, 1) := by decide +kernel
theorem dX2_atom_21 : decode cX2_atom 21 = .ok (.iconst 3, 1) := by decide +kernel
theorem dX2_atom_22 : decode cX2_atom 22 = .ok (.iload_n 1, 1) := by decide +kernel
theorem dX2_atom_23 : decode cX2_atom 23 = .ok (.iconst 1, 1) := by decide +kernel
theorem dX2_atom_24 : decode cX2_atom 24 = .ok (.iadd, 1) := by decide +kernel
theorem dX2_atom_25 : decode cX2_atom 25 = .ok (.invokevirtual 55, 3) := by decide +kernel
theorem dX2_atom_28 : decode cX2_atom 28 = .ok (.bipush 93, 2) := by decide +kernel
theorem dX2_atom_30 : decode cX2_atom 30 = .ok (.invokevirtual 108, 3) := by decide +kernel
theorem dX2_atom_33 : decode cX2_atom 33 = .ok (.goto 4, 3) := by decide +kernel
theorem dX2_atom_36 : decode cX2_atom 36 = .ok (.iconst 0, 1) := by decide +kernel
theorem dX2_atom_37 : decode cX2_atom 37 = .ok (.ireturn, 1) := by decide +kernel
theorem dX2_atom_38 : decode cX2_atom 38 = .ok (.iconst 0, 1) := by decide +kernel
theorem dX2_atom_39 : decode cX2_atom 39 = .ok (.istore_n 3, 1) := by decide +kernel
theorem dX2_atom_40 : decode cX2_atom 40 = .ok (.iload_n 3, 1) := by decide +kernel
theorem dX2_atom_41 : decode cX2_atom 41 = .ok (.aload_n 0, 1) := by decide +kernel
theorem dX2_atom_42 : decode cX2_atom 42 = .ok (.getfield 19, 3) := by decide +kernel
theorem dX2_atom_45 : decode cX2_atom 45 = .ok (.arraylength, 1) := by decide +kernel
theorem dX2_atom_46 : decode cX2_atom 46 = .ok (.if_icmp .ge 36, 3) := by decide +kernel
theorem dX2_atom_49 : decode cX2_atom 49 = .ok (.ldc 11, 2) := by decide +kernel
theorem dX2_atom_51 : decode cX2_atom 51 = .ok (.iload_n 3, 1) := by decide +kernel
theorem dX2_atom_52 : decode cX2_atom 52 = .ok (.invokevirtual 78, 3) := by decide +kernel
theorem dX2_atom_55 : decode cX2_atom 55 = .ok (.iload_n 2, 1) := by decide +kernel
theorem dX2_atom_56 : decode cX2_atom 56 = .ok (.if_icmp .ne 20, 3) := by decide +kernel
theorem dX2_atom_59 : decode cX2_atom 59 = .ok (.aload_n 0, 1) := by decide +kernel
theorem dX2_atom_60 : decode cX2_atom 60 = .ok (.dup, 1) := by decide +kernel
theorem dX2_atom_61 : decode cX2_atom 61 = .ok (.getfield 82, 3) := by decide +kernel
theorem dX2_atom_64 : decode cX2_atom 64 = .ok (.iconst 1, 1) := by decide +kernel
theorem dX2_atom_65 : decode cX2_atom 65 = .ok (.iadd, 1) := by decide +kernel
theorem dX2_atom_66 : decode cX2_atom 66 = .ok (.putfield 82, 3) := by decide +kernel
theorem dX2_atom_69 : decode cX2_atom 69 = .ok (.aload_n 0, 1) := by decide +kernel
theorem dX2_atom_70 : decode cX2_atom 70 = .ok (.getfield 19, 3) := by decide +kernel
theorem dX2_atom_73 : decode cX2_atom 73 = .ok (.iload_n 3, 1) := by decide +kernel
theorem dX2_atom_74 : decode cX2_atom 74 = .ok (.iaload, 1) := by decide +kernel
theorem dX2_atom_75 : decode cX2_atom 75 = .ok (.ireturn, 1) := by decide +kernel
theorem dX2_atom_76 : decode cX2_atom 76 = .ok (.iinc 3 1, 3) := by decide +kernel
theorem dX2_atom_79 : decode cX2_atom 79 = .ok (.goto (-39), 3) := by decide +kernel
theorem dX2_atom_82 : decode cX2_atom 82 = .ok (.aload_n 0, 1) := by decide +kernel
theorem dX2_atom_83 : decode cX2_atom 83 = .ok (.iconst 4, 1) := by decide +kernel
theorem dX2_atom_84 : decode cX2_atom 84 = .ok (.invokevirtual 111, 3) := by decide +kernel
theorem dX2_atom_87 : decode cX2_atom 87 = .ok (.ireturn, 1) := by decide +kernel
theorem dX2_compared_0 : decode cX2_compared 0 = .ok (.aload_n 0, 1) := by decide +kernel
theorem dX2_compared_1 : decode cX2_compared 1 = .ok (.invokevirtual 42, 3) := by decide +kernel
theorem dX2_compared_4 : decode cX2_compared 4 = .ok (.istore_n 3, 1) := by decide +kernel
theorem dX2_compared_5 : decode cX2_compared 5 = .ok (.iload_n 3, 1) := by decide +kernel
theorem dX2_compared_6 : decode cX2_compared 6 = .ok (.invokestatic 59, 3) := by decide +kernel
theorem dX2_compared_9 : decode cX2_compared 9 = .ok (.ifCond .ne 10, 3) := by decide +kernel
theorem dX2_compared_12 : decode cX2_compared 12 = .ok (.aload_n 0, 1) := by decide +kernel
theorem dX2_compared_13 : decode cX2_compared 13 = .ok (.iconst 1, 1) := by decide +kernel
theorem dX2_compared_14 : decode cX2_compared 14 = .ok (.putfield 45, 3) := by decide +kernel
theorem dX2_compared_17 : decode cX2_compared 17 = .ok (.iconst 0, 1) := by decide +kernel
theorem dX2_compared_18 : decode cX2_compared 18 = .ok (.ireturn, 1) := by decide +kernel
theorem dX2_compared_19 : decode cX2_compared 19 = .ok (.aload_n 0, 1) := by decide +kernel
theorem dX2_compared_20 : decode cX2_compared 20 = .ok (.dup, 1) := by decide +kernel
theorem dX2_compared_21 : decode cX2_compared 21 = .ok (.getfield 82, 3) := by decide +kernel
theorem dX2_compared_24 : decode cX2_compared 24 = .ok (.iconst 1, 1) := by decide +kernel
theorem dX2_compared_25 : decode cX2_compared 25 = .ok (.iadd, 1) := by decide +kernel
theorem dX2_compared_26 : decode cX2_compared 26 = .ok (.putfield 82, 3) := by decide +kernel
theorem dX2_compared_29 : decode cX2_compared 29 = .ok (.aload_n 0, 1) := by decide +kernel
theorem dX2_compared_30 : decode cX2_compared 30 = .ok (.iconst 3, 1) := by decide +kernel
theorem dX2_compared_31 : decode cX2_compared 31 = .ok (.iload_n 2, 1) := by decide +kernel
theorem dX2_compared_32 : decode cX2_compared 32 = .ok (.invokevirtual 55, 3) := by decide +kernel
theorem dX2_compared_35 : decode cX2_compared 35 = .ok (.istore 4, 2) := by decide +kernel
theorem dX2_compared_37 : decode cX2_compared 37 = .ok (.iload_n 3, 1) := by decide +kernel
theorem dX2_compared_38 : decode cX2_compared 38 = .ok (.bipush 61, 2) := by decide +kernel
theorem dX2_compared_40 : decode cX2_compared 40 = .ok (.if_icmp .ne 17, 3) := by decide +kernel
theorem dX2_compared_43 : decode cX2_compared 43 = .ok (.iload_n 1, 1) := by decide +kernel
theorem dX2_compared_44 : decode cX2_compared 44 = .ok (.iload 4, 2) := by decide +kernel
theorem dX2_compared_46 : decode cX2_compared 46 = .ok (.if_icmp .ne 7, 3) := by decide +kernel
theorem dX2_compared_49 : decode cX2_compared 49 = .ok (.iconst 1, 1) := by decide +kernel
theorem dX2_compared_50 : decode cX2_compared 50 = .ok (.goto 38, 3) := by decide +kernel
theorem dX2_compared_53 : decode cX2_compared 53 = .ok (.iconst 0, 1) := by decide +kernel
theorem dX2_compared_54 : decode cX2_compared 54 = .ok (.goto 34, 3) := by decide +kernel
theorem dX2_compared_57 : decode cX2_compared 57 = .ok (.iload_n 3, 1) := by decide +kernel
theorem dX2_compared_58 : decode cX2_compared 58 = .ok (.bipush 60, 2) := by decide +kernel
theorem dX2_compared_60 : decode cX2_compared 60 = .ok (.if_icmp .ne 17, 3) := by decide +kernel
theorem dX2_compared_63 : decode cX2_compared 63 = .ok (.iload_n 1, 1) := by decide +kernel
theorem dX2_compared_64 : decode cX2_compared 64 = .ok (.iload 4, 2) := by decide +kernel
theorem dX2_compared_66 : decode cX2_compared 66 = .ok (.if_icmp .ge 7, 3) := by decide +kernel
theorem dX2_compared_69 : decode cX2_compared 69 = .ok (.iconst 1, 1) := by decide +kernel
theorem dX2_compared_70 : decode cX2_compared 70 = .ok (.goto 18, 3) := by decide +kernel
theorem dX2_compared_73 : decode cX2_compared 73 = .ok (.iconst 0, 1) := by decide +kernel
theorem dX2_compared_74 : decode cX2_compared 74 = .ok (.goto 14, 3) := by decide +kernel
theorem dX2_compared_77 : decode cX2_compared 77 = .ok (.iload_n 1, 1) := by decide +kernel
theorem dX2_compared_78 : decode cX2_compared 78 = .ok (.iload 4, 2) := by decide +kernel
theorem dX2_compared_80 : decode cX2_compared 80 = .ok (.if_icmp .le 7, 3) := by decide +kernel
theorem dX2_compared_83 : decode cX2_compared 83 = .ok (.iconst 1, 1) := by decide +kernel
theorem dX2_compared_84 : decode cX2_compared 84 = .ok (.goto 4, 3) := by decide +kernel
theorem dX2_compared_87 : decode cX2_compared 87 = .ok (.iconst 0, 1) := by decide +kernel
theorem dX2_compared_88 : decode cX2_compared 88 = .ok (.istore 5, 2) := by decide +kernel
theorem dX2_compared_90 : decode cX2_compared 90 = .ok (.iload 5, 2) := by decide +kernel
theorem dX2_compared_92 : decode cX2_compared 92 = .ok (.ifCond .eq 7, 3) := by decide +kernel
theorem dX2_compared_95 : decode cX2_compared 95 = .ok (.iconst 1, 1) := by decide +kernel
theorem dX2_compared_96 : decode cX2_compared 96 = .ok (.goto 4, 3) := by decide +kernel
theorem dX2_compared_99 : decode cX2_compared 99 = .ok (.iconst 0, 1) := by decide +kernel
theorem dX2_compared_100 : decode cX2_compared 100 = .ok (.ireturn, 1) := by decide +kernel
theorem dX2_part_0 : decode cX2_part 0 = .ok (.iload_n 1, 1) := by decide +kernel
theorem dX2_part_1 : decode cX2_part 1 = .ok (.iconst 2, 1) := by decide +kernel
theorem dX2_part_2 : decode cX2_part 2 = .ok (.if_icmp .ne 9, 3) := by decide +kernel
theorem dX2_part_5 : decode cX2_part 5 = .ok (.aload_n 0, 1) := by decide +kernel
theorem dX2_part_6 : decode cX2_part 6 = .ok (.iload_n 2, 1) := by decide +kernel
theorem dX2_part_7 : decode cX2_part 7 = .ok (.invokevirtual 69, 3) := by decide +kernel
theorem dX2_part_10 : decode cX2_part 10 = .ok (.ireturn, 1) := by decide +kernel
theorem dX2_part_11 : decode cX2_part 11 = .ok (.iload_n 1, 1) := by decide +kernel
theorem dX2_part_12 : decode cX2_part 12 = .ok (.iconst 5, 1) := by decide +kernel
theorem dX2_part_13 : decode cX2_part 13 = .ok (.if_icmp .lt 9, 3) := by decide +kernel
theorem dX2_part_16 : decode cX2_part 16 = .ok (.aload_n 0, 1) := by decide +kernel
theorem dX2_part_17 : decode cX2_part 17 = .ok (.iload_n 2, 1) := by decide +kernel
theorem dX2_part_18 : decode cX2_part 18 = .ok (.invokevirtual 73, 3) := by decide +kernel
theorem dX2_part_21 : decode cX2_part 21 = .ok (.ireturn, 1) := by decide +kernel
theorem dX2_part_22 : decode cX2_part 22 = .ok (.aload_n 0, 1) := by decide +kernel
theorem dX2_part_23 : decode cX2_part 23 = .ok (.aload_n 0, 1) := by decide +kernel
theorem dX2_part_24 : decode cX2_part 24 = .ok (.iload_n 1, 1) := by decide +kernel
theorem dX2_part_25 : decode cX2_part 25 = .ok (.iconst 1, 1) := by decide +kernel
theorem dX2_part_26 : decode cX2_part 26 = .ok (.iadd, 1) := by decide +kernel
theorem dX2_part_27 : decode cX2_part 27 = .ok (.iload_n 2, 1) := by decide +kernel
theorem dX2_part_28 : decode cX2_part 28 = .ok (.invokevirtual 55, 3) := by decide +kernel
theorem dX2_part_31 : decode cX2_part 31 = .ok (.iload_n 1, 1) := by decide +kernel
theorem dX2_part_32 : decode cX2_part 32 = .ok (.iload_n 2, 1) := by decide +kernel
theorem dX2_part_33 : decode cX2_part 33 = .ok (.invokevirtual 65, 3) := by decide +kernel
theorem dX2_part_36 : decode cX2_part 36 = .ok (.ireturn, 1) := by decide +kernel
theorem dX2_row_0 : decode cX2_row 0 = .ok (.iload_n 1, 1) := by decide +kernel
theorem dX2_row_1 : decode cX2_row 1 = .ok (.istore 4, 2) := by decide +kernel
theorem dX2_row_3 : decode cX2_row 3 = .ok (.iconst 0, 1) := by decide +kernel
theorem dX2_row_4 : decode cX2_row 4 = .ok (.istore 5, 2) := by decide +kernel
theorem dX2_row_6 : decode cX2_row 6 = .ok (.iload 5, 2) := by decide +kernel
theorem dX2_row_8 : decode cX2_row 8 = .ok (.sipush 240, 3) := by decide +kernel
theorem dX2_row_11 : decode cX2_row 11 = .ok (.if_icmp .ge 73, 3) := by decide +kernel
theorem dX2_row_14 : decode cX2_row 14 = .ok (.aload_n 0, 1) := by decide +kernel
theorem dX2_row_15 : decode cX2_row 15 = .ok (.invokevirtual 42, 3) := by decide +kernel
theorem dX2_row_18 : decode cX2_row 18 = .ok (.istore 6, 2) := by decide +kernel
theorem dX2_row_20 : decode cX2_row 20 = .ok (.iload 6, 2) := by decide +kernel
theorem dX2_row_22 : decode cX2_row 22 = .ok (.ldc 76, 2) := by decide +kernel
theorem dX2_row_24 : decode cX2_row 24 = .ok (.iconst 2, 1) := by decide +kernel
theorem dX2_row_25 : decode cX2_row 25 = .ok (.iload_n 2, 1) := by decide +kernel
theorem dX2_row_26 : decode cX2_row 26 = .ok (.imul, 1) := by decide +kernel
theorem dX2_row_27 : decode cX2_row 27 = .ok (.invokevirtual 78, 3) := by decide +kernel
theorem dX2_row_30 : decode cX2_row 30 = .ok (.if_icmp .eq 21, 3) := by decide +kernel
theorem dX2_row_33 : decode cX2_row 33 = .ok (.iload 6, 2) := by decide +kernel
theorem dX2_row_35 : decode cX2_row 35 = .ok (.ldc 76, 2) := by decide +kernel
theorem dX2_row_37 : decode cX2_row 37 = .ok (.iconst 2, 1) := by decide +kernel
theorem dX2_row_38 : decode cX2_row 38 = .ok (.iload_n 2, 1) := by decide +kernel
theorem dX2_row_39 : decode cX2_row 39 = .ok (.imul, 1) := by decide +kernel
theorem dX2_row_40 : decode cX2_row 40 = .ok (.iconst 1, 1) := by decide +kernel
theorem dX2_row_41 : decode cX2_row 41 = .ok (.iadd, 1) := by decide +kernel
theorem dX2_row_42 : decode cX2_row 42 = .ok (.invokevirtual 78, 3) := by decide +kernel
theorem dX2_row_45 : decode cX2_row 45 = .ok (.if_icmp .eq 6, 3) := by decide +kernel
theorem dX2_row_48 : decode cX2_row 48 = .ok (.goto 36, 3) := by decide +kernel
theorem dX2_row_51 : decode cX2_row 51 = .ok (.aload_n 0, 1) := by decide +kernel
theorem dX2_row_52 : decode cX2_row 52 = .ok (.dup, 1) := by decide +kernel
theorem dX2_row_53 : decode cX2_row 53 = .ok (.getfield 82, 3) := by decide +kernel
theorem dX2_row_56 : decode cX2_row 56 = .ok (.iconst 1, 1) := by decide +kernel
theorem dX2_row_57 : decode cX2_row 57 = .ok (.iadd, 1) := by decide +kernel
theorem dX2_row_58 : decode cX2_row 58 = .ok (.putfield 82, 3) := by decide +kernel
theorem dX2_row_61 : decode cX2_row 61 = .ok (.iload 4, 2) := by decide +kernel
theorem dX2_row_63 : decode cX2_row 63 = .ok (.iload 6, 2) := by decide +kernel
theorem dX2_row_65 : decode cX2_row 65 = .ok (.aload_n 0, 1) := by decide +kernel
theorem dX2_row_66 : decode cX2_row 66 = .ok (.iload_n 2, 1) := by decide +kernel
theorem dX2_row_67 : decode cX2_row 67 = .ok (.iconst 1, 1) := by decide +kernel
theorem dX2_row_68 : decode cX2_row 68 = .ok (.iadd, 1) := by decide +kernel
theorem dX2_row_69 : decode cX2_row 69 = .ok (.iload_n 3, 1) := by decide +kernel
theorem dX2_row_70 : decode cX2_row 70 = .ok (.invokevirtual 55, 3) := by decide +kernel
theorem dX2_row_73 : decode cX2_row 73 = .ok (.invokestatic 85, 3) := by decide +kernel
theorem dX2_row_76 : decode cX2_row 76 = .ok (.istore 4, 2) := by decide +kernel
theorem dX2_row_78 : decode cX2_row 78 = .ok (.iinc 5 1, 3) := by decide +kernel
theorem dX2_row_81 : decode cX2_row 81 = .ok (.goto (-75), 3) := by decide +kernel
theorem dX2_row_84 : decode cX2_row 84 = .ok (.iload 4, 2) := by decide +kernel
theorem dX2_row_86 : decode cX2_row 86 = .ok (.ireturn, 1) := by decide +kernel
theorem dX2_unit_0 : decode cX2_unit 0 = .ok (.aload_n 0, 1) := by decide +kernel
theorem dX2_unit_1 : decode cX2_unit 1 = .ok (.invokevirtual 42, 3) := by decide +kernel
theorem dX2_unit_4 : decode cX2_unit 4 = .ok (.istore_n 2, 1) := by decide +kernel
theorem dX2_unit_5 : decode cX2_unit 5 = .ok (.iload_n 2, 1) := by decide +kernel
theorem dX2_unit_6 : decode cX2_unit 6 = .ok (.bipush 33, 2) := by decide +kernel
theorem dX2_unit_8 : decode cX2_unit 8 = .ok (.if_icmp .ne 25, 3) := by decide +kernel
theorem dX2_unit_11 : decode cX2_unit 11 = .ok (.aload_n 0, 1) := by decide +kernel
theorem dX2_unit_12 : decode cX2_unit 12 = .ok (.iload_n 1, 1) := by decide +kernel
theorem dX2_unit_13 : decode cX2_unit 13 = .ok (.invokevirtual 105, 3) := by decide +kernel
theorem dX2_unit_16 : decode cX2_unit 16 = .ok (.ifCond .eq 15, 3) := by decide +kernel
theorem dX2_unit_19 : decode cX2_unit 19 = .ok (.iconst 1, 1) := by decide +kernel
theorem dX2_unit_20 : decode cX2_unit 20 = .ok (.aload_n 0, 1) := by decide +kernel
theorem dX2_unit_21 : decode cX2_unit 21 = .ok (.iload_n 1, 1) := by decide +kernel
theorem dX2_unit_22 : decode cX2_unit 22 = .ok (.iconst 1, 1) := by decide +kernel
theorem dX2_unit_23 : decode cX2_unit 23 = .ok (.iadd, 1) := by decide +kernel
theorem dX2_unit_24 : decode cX2_unit 24 = .ok (.invokevirtual 69, 3) := by decide +kernel
theorem dX2_unit_27 : decode cX2_unit 27 = .ok (.isub, 1) := by decide +kernel
theorem dX2_unit_28 : decode cX2_unit 28 = .ok (.goto 4, 3) := by decide +kernel
theorem dX2_unit_31 : decode cX2_unit 31 = .ok (.iconst 0, 1) := by decide +kernel
theorem dX2_unit_32 : decode cX2_unit 32 = .ok (.ireturn, 1) := by decide +kernel
theorem dX2_unit_33 : decode cX2_unit 33 = .ok (.iload_n 2, 1) := by decide +kernel
theorem dX2_unit_34 : decode cX2_unit 34 = .ok (.bipush 40, 2) := by decide +kernel
theorem dX2_unit_36 : decode cX2_unit 36 = .ok (.if_icmp .ne 30, 3) := by decide +kernel
theorem dX2_unit_39 : decode cX2_unit 39 = .ok (.aload_n 0, 1) := by decide +kernel
theorem dX2_unit_40 : decode cX2_unit 40 = .ok (.iload_n 1, 1) := by decide +kernel
theorem dX2_unit_41 : decode cX2_unit 41 = .ok (.invokevirtual 105, 3) := by decide +kernel
theorem dX2_unit_44 : decode cX2_unit 44 = .ok (.ifCond .eq 20, 3) := by decide +kernel
theorem dX2_unit_47 : decode cX2_unit 47 = .ok (.aload_n 0, 1) := by decide +kernel
theorem dX2_unit_48 : decode cX2_unit 48 = .ok (.aload_n 0, 1) := by decide +kernel
theorem dX2_unit_49 : decode cX2_unit 49 = .ok (.iconst 0, 1) := by decide +kernel
theorem dX2_unit_50 : decode cX2_unit 50 = .ok (.iload_n 1, 1) := by decide +kernel
theorem dX2_unit_51 : decode cX2_unit 51 = .ok (.iconst 1, 1) := by decide +kernel
theorem dX2_unit_52 : decode cX2_unit 52 = .ok (.iadd, 1) := by decide +kernel
theorem dX2_unit_53 : decode cX2_unit 53 = .ok (.invokevirtual 55, 3) := by decide +kernel
theorem dX2_unit_56 : decode cX2_unit 56 = .ok (.bipush 41, 2) := by decide +kernel
theorem dX2_unit_58 : decode cX2_unit 58 = .ok (.invokevirtual 108, 3) := by decide +kernel
theorem dX2_unit_61 : decode cX2_unit 61 = .ok (.goto 4, 3) := by decide +kernel
theorem dX2_unit_64 : decode cX2_unit 64 = .ok (.iconst 0, 1) := by decide +kernel
theorem dX2_unit_65 : decode cX2_unit 65 = .ok (.ireturn, 1) := by decide +kernel
theorem dX2_unit_66 : decode cX2_unit 66 = .ok (.aload_n 0, 1) := by decide +kernel
theorem dX2_unit_67 : decode cX2_unit 67 = .ok (.aload_n 0, 1) := by decide +kernel
theorem dX2_unit_68 : decode cX2_unit 68 = .ok (.iconst 3, 1) := by decide +kernel
theorem dX2_unit_69 : decode cX2_unit 69 = .ok (.iload_n 1, 1) := by decide +kernel
theorem dX2_unit_70 : decode cX2_unit 70 = .ok (.invokevirtual 55, 3) := by decide +kernel
theorem dX2_unit_73 : decode cX2_unit 73 = .ok (.iload_n 1, 1) := by decide +kernel
theorem dX2_unit_74 : decode cX2_unit 74 = .ok (.invokevirtual 62, 3) := by decide +kernel
theorem dX2_unit_77 : decode cX2_unit 77 = .ok (.ireturn, 1) := by decide +kernel
theorem dX2_clause_0 : decode cX2_clause 0 = .ok (.aload_n 0, 1) := by decide +kernel
theorem dX2_clause_1 : decode cX2_clause 1 = .ok (.bipush 121, 2) := by decide +kernel
theorem dX2_clause_3 : decode cX2_clause 3 = .ok (.invokevirtual 51, 3) := by decide +kernel
theorem dX2_clause_6 : decode cX2_clause 6 = .ok (.aload_n 0, 1) := by decide +kernel
theorem dX2_clause_7 : decode cX2_clause 7 = .ok (.bipush 58, 2) := by decide +kernel
theorem dX2_clause_9 : decode cX2_clause 9 = .ok (.invokevirtual 51, 3) := by decide +kernel
theorem dX2_clause_12 : decode cX2_clause 12 = .ok (.aload_n 0, 1) := by decide +kernel
theorem dX2_clause_13 : decode cX2_clause 13 = .ok (.invokevirtual 42, 3) := by decide +kernel
theorem dX2_clause_16 : decode cX2_clause 16 = .ok (.istore_n 1, 1) := by decide +kernel
theorem dX2_clause_17 : decode cX2_clause 17 = .ok (.iconst 1, 1) := by decide +kernel
theorem dX2_clause_18 : decode cX2_clause 18 = .ok (.istore_n 2, 1) := by decide +kernel
theorem dX2_clause_19 : decode cX2_clause 19 = .ok (.iconst 0, 1) := by decide +kernel
theorem dX2_clause_20 : decode cX2_clause 20 = .ok (.istore_n 3, 1) := by decide +kernel
theorem dX2_clause_21 : decode cX2_clause 21 = .ok (.iload_n 1, 1) := by decide +kernel
theorem dX2_clause_22 : decode cX2_clause 22 = .ok (.bipush 33, 2) := by decide +kernel
theorem dX2_clause_24 : decode cX2_clause 24 = .ok (.if_icmp .eq 9, 3) := by decide +kernel
theorem dX2_clause_27 : decode cX2_clause 27 = .ok (.iload_n 1, 1) := by decide +kernel
theorem dX2_clause_28 : decode cX2_clause 28 = .ok (.bipush 40, 2) := by decide +kernel
theorem dX2_clause_30 : decode cX2_clause 30 = .ok (.if_icmp .ne 7, 3) := by decide +kernel
theorem dX2_clause_33 : decode cX2_clause 33 = .ok (.iconst 1, 1) := by decide +kernel
theorem dX2_clause_34 : decode cX2_clause 34 = .ok (.goto 4, 3) := by decide +kernel
theorem dX2_clause_37 : decode cX2_clause 37 = .ok (.iconst 0, 1) := by decide +kernel
theorem dX2_clause_38 : decode cX2_clause 38 = .ok (.istore 4, 2) := by decide +kernel
theorem dX2_clause_40 : decode cX2_clause 40 = .ok (.iload 4, 2) := by decide +kernel
theorem dX2_clause_42 : decode cX2_clause 42 = .ok (.ifCond .eq 13, 3) := by decide +kernel
theorem dX2_clause_45 : decode cX2_clause 45 = .ok (.aload_n 0, 1) := by decide +kernel
theorem dX2_clause_46 : decode cX2_clause 46 = .ok (.iconst 0, 1) := by decide +kernel
theorem dX2_clause_47 : decode cX2_clause 47 = .ok (.iconst 0, 1) := by decide +kernel
theorem dX2_clause_48 : decode cX2_clause 48 = .ok (.invokevirtual 55, 3) := by decide +kernel
theorem dX2_clause_51 : decode cX2_clause 51 = .ok (.istore_n 2, 1) := by decide +kernel
theorem dX2_clause_52 : decode cX2_clause 52 = .ok (.goto 43, 3) := by decide +kernel
theorem dX2_clause_55 : decode cX2_clause 55 = .ok (.aload_n 0, 1) := by decide +kernel
theorem dX2_clause_56 : decode cX2_clause 56 = .ok (.iconst 3, 1) := by decide +kernel
theorem dX2_clause_57 : decode cX2_clause 57 = .ok (.iconst 0, 1) := by decide +kernel
theorem dX2_clause_58 : decode cX2_clause 58 = .ok (.invokevirtual 55, 3) := by decide +kernel
theorem dX2_clause_61 : decode cX2_clause 61 = .ok (.istore_n 3, 1) := by decide +kernel
theorem dX2_clause_62 : decode cX2_clause 62 = .ok (.aload_n 0, 1) := by decide +kernel
theorem dX2_clause_63 : decode cX2_clause 63 = .ok (.invokevirtual 42, 3) := by decide +kernel
theorem dX2_clause_66 : decode cX2_clause 66 = .ok (.invokestatic 59, 3) := by decide +kernel
theorem dX2_clause_69 : decode cX2_clause 69 = .ok (.istore 4, 2) := by decide +kernel
theorem dX2_clause_71 : decode cX2_clause 71 = .ok (.iload 4, 2) := by decide +kernel
theorem dX2_clause_73 : decode cX2_clause 73 = .ok (.ifCond .eq 22, 3) := by decide +kernel
theorem dX2_clause_76 : decode cX2_clause 76 = .ok (.aload_n 0, 1) := by decide +kernel
theorem dX2_clause_77 : decode cX2_clause 77 = .ok (.aload_n 0, 1) := by decide +kernel
theorem dX2_clause_78 : decode cX2_clause 78 = .ok (.aload_n 0, 1) := by decide +kernel
theorem dX2_clause_79 : decode cX2_clause 79 = .ok (.iload_n 3, 1) := by decide +kernel
theorem dX2_clause_80 : decode cX2_clause 80 = .ok (.iconst 0, 1) := by decide +kernel
theorem dX2_clause_81 : decode cX2_clause 81 = .ok (.invokevirtual 62, 3) := by decide +kernel
theorem dX2_clause_84 : decode cX2_clause 84 = .ok (.iconst 1, 1) := by decide +kernel
theorem dX2_clause_85 : decode cX2_clause 85 = .ok (.iconst 0, 1) := by decide +kernel
theorem dX2_clause_86 : decode cX2_clause 86 = .ok (.invokevirtual 65, 3) := by decide +kernel
theorem dX2_clause_89 : decode cX2_clause 89 = .ok (.iconst 0, 1) := by decide +kernel
theorem dX2_clause_90 : decode cX2_clause 90 = .ok (.iconst 0, 1) := by decide +kernel
theorem dX2_clause_91 : decode cX2_clause 91 = .ok (.invokevirtual 65, 3) := by decide +kernel
theorem dX2_clause_94 : decode cX2_clause 94 = .ok (.istore_n 2, 1) := by decide +kernel
theorem dX2_clause_95 : decode cX2_clause 95 = .ok (.iload 4, 2) := by decide +kernel
theorem dX2_clause_97 : decode cX2_clause 97 = .ok (.ifCond .eq 16, 3) := by decide +kernel
theorem dX2_clause_100 : decode cX2_clause 100 = .ok (.aload_n 0, 1) := by decide +kernel
theorem dX2_clause_101 : decode cX2_clause 101 = .ok (.bipush 63, 2) := by decide +kernel
theorem dX2_clause_103 : decode cX2_clause 103 = .ok (.invokevirtual 51, 3) := by decide +kernel
theorem dX2_clause_106 : decode cX2_clause 106 = .ok (.aload_n 0, 1) := by decide +kernel
theorem dX2_clause_107 : decode cX2_clause 107 = .ok (.iconst 3, 1) := by decide +kernel
theorem dX2_clause_108 : decode cX2_clause 108 = .ok (.iconst 0, 1) := by decide +kernel
theorem dX2_clause_109 : decode cX2_clause 109 = .ok (.invokevirtual 55, 3) := by decide +kernel
theorem dX2_clause_112 : decode cX2_clause 112 = .ok (.istore_n 3, 1) := by decide +kernel
theorem dX2_clause_113 : decode cX2_clause 113 = .ok (.iload_n 2, 1) := by decide +kernel
theorem dX2_clause_114 : decode cX2_clause 114 = .ok (.iconst 1, 1) := by decide +kernel
theorem dX2_clause_115 : decode cX2_clause 115 = .ok (.if_icmp .ne 20, 3) := by decide +kernel
theorem dX2_clause_118 : decode cX2_clause 118 = .ok (.aload_n 0, 1) := by decide +kernel
theorem dX2_clause_119 : decode cX2_clause 119 = .ok (.getfield 27, 3) := by decide +kernel
theorem dX2_clause_122 : decode cX2_clause 122 = .ok (.ifCond .ne 13, 3) := by decide +kernel
theorem dX2_clause_125 : decode cX2_clause 125 = .ok (.aload_n 0, 1) := by decide +kernel
theorem dX2_clause_126 : decode cX2_clause 126 = .ok (.iconst 1, 1) := by decide +kernel
theorem dX2_clause_127 : decode cX2_clause 127 = .ok (.putfield 27, 3) := by decide +kernel
theorem dX2_clause_130 : decode cX2_clause 130 = .ok (.aload_n 0, 1) := by decide +kernel
theorem dX2_clause_131 : decode cX2_clause 131 = .ok (.iload_n 3, 1) := by decide +kernel
theorem dX2_clause_132 : decode cX2_clause 132 = .ok (.putfield 23, 3) := by decide +kernel
theorem dX2_clause_135 : decode cX2_clause 135 = .ok (.return_, 1) := by decide +kernel
theorem dX2_read_0 : decode cX2_read 0 = .ok (.aload_n 0, 1) := by decide +kernel
theorem dX2_read_1 : decode cX2_read 1 = .ok (.aload_n 1, 1) := by decide +kernel
theorem dX2_read_2 : decode cX2_read 2 = .ok (.iload_n 2, 1) := by decide +kernel
theorem dX2_read_3 : decode cX2_read 3 = .ok (.invokevirtual 31, 3) := by decide +kernel
theorem dX2_read_6 : decode cX2_read 6 = .ok (.aload_n 0, 1) := by decide +kernel
theorem dX2_read_7 : decode cX2_read 7 = .ok (.iconst 0, 1) := by decide +kernel
theorem dX2_read_8 : decode cX2_read 8 = .ok (.putfield 23, 3) := by decide +kernel
theorem dX2_read_11 : decode cX2_read 11 = .ok (.aload_n 0, 1) := by decide +kernel
theorem dX2_read_12 : decode cX2_read 12 = .ok (.iconst 0, 1) := by decide +kernel
theorem dX2_read_13 : decode cX2_read 13 = .ok (.putfield 27, 3) := by decide +kernel
theorem dX2_read_16 : decode cX2_read 16 = .ok (.aload_n 0, 1) := by decide +kernel
theorem dX2_read_17 : decode cX2_read 17 = .ok (.invokevirtual 35, 3) := by decide +kernel
theorem dX2_read_20 : decode cX2_read 20 = .ok (.iconst 0, 1) := by decide +kernel
theorem dX2_read_21 : decode cX2_read 21 = .ok (.istore_n 3, 1) := by decide +kernel
theorem dX2_read_22 : decode cX2_read 22 = .ok (.iload_n 3, 1) := by decide +kernel
theorem dX2_read_23 : decode cX2_read 23 = .ok (.sipush 240, 3) := by decide +kernel
theorem dX2_read_26 : decode cX2_read 26 = .ok (.if_icmp .ge 22, 3) := by decide +kernel
theorem dX2_read_29 : decode cX2_read 29 = .ok (.aload_n 0, 1) := by decide +kernel
theorem dX2_read_30 : decode cX2_read 30 = .ok (.bipush 59, 2) := by decide +kernel
theorem dX2_read_32 : decode cX2_read 32 = .ok (.invokevirtual 38, 3) := by decide +kernel
theorem dX2_read_35 : decode cX2_read 35 = .ok (.ifCond .eq 13, 3) := by decide +kernel
theorem dX2_read_38 : decode cX2_read 38 = .ok (.aload_n 0, 1) := by decide +kernel
theorem dX2_read_39 : decode cX2_read 39 = .ok (.invokevirtual 35, 3) := by decide +kernel
theorem dX2_read_42 : decode cX2_read 42 = .ok (.iinc 3 1, 3) := by decide +kernel
theorem dX2_read_45 : decode cX2_read 45 = .ok (.goto (-23), 3) := by decide +kernel
theorem dX2_read_48 : decode cX2_read 48 = .ok (.aload_n 0, 1) := by decide +kernel
theorem dX2_read_49 : decode cX2_read 49 = .ok (.invokevirtual 42, 3) := by decide +kernel
theorem dX2_read_52 : decode cX2_read 52 = .ok (.iconst (-1), 1) := by decide +kernel
theorem dX2_read_53 : decode cX2_read 53 = .ok (.if_icmp .eq 8, 3) := by decide +kernel
theorem dX2_read_56 : decode cX2_read 56 = .ok (.aload_n 0, 1) := by decide +kernel
theorem dX2_read_57 : decode cX2_read 57 = .ok (.iconst 1, 1) := by decide +kernel
theorem dX2_read_58 : decode cX2_read 58 = .ok (.putfield 45, 3) := by decide +kernel
theorem dX2_read_61 : decode cX2_read 61 = .ok (.aload_n 0, 1) := by decide +kernel
theorem dX2_read_62 : decode cX2_read 62 = .ok (.invokevirtual 48, 3) := by decide +kernel
theorem dX2_read_65 : decode cX2_read 65 = .ok (.ireturn, 1) := by decide +kernel
theorem dX2_init_0 : decode cX2_init 0 = .ok (.aload_n 0, 1) := by decide +kernel
theorem dX2_init_1 : decode cX2_init 1 = .ok (.invokespecial 3, 3) := by decide +kernel
theorem dX2_init_4 : decode cX2_init 4 = .ok (.aload_n 0, 1) := by decide +kernel
theorem dX2_init_5 : decode cX2_init 5 = .ok (.ldc 11, 2) := by decide +kernel
theorem dX2_init_7 : decode cX2_init 7 = .ok (.invokevirtual 13, 3) := by decide +kernel
theorem dX2_init_10 : decode cX2_init 10 = .ok (.newarray .int, 2) := by decide +kernel
theorem dX2_init_12 : decode cX2_init 12 = .ok (.putfield 19, 3) := by decide +kernel
theorem dX2_init_15 : decode cX2_init 15 = .ok (.aload_n 0, 1) := by decide +kernel
theorem dX2_init_16 : decode cX2_init 16 = .ok (.iconst 0, 1) := by decide +kernel
theorem dX2_init_17 : decode cX2_init 17 = .ok (.putfield 23, 3) := by decide +kernel
theorem dX2_init_20 : decode cX2_init 20 = .ok (.aload_n 0, 1) := by decide +kernel
theorem dX2_init_21 : decode cX2_init 21 = .ok (.iconst 0, 1) := by decide +kernel
theorem dX2_init_22 : decode cX2_init 22 = .ok (.putfield 27, 3) := by decide +kernel
theorem dX2_init_25 : decode cX2_init 25 = .ok (.return_, 1) := by decide +kernel
