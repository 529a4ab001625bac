theorem dX9_canStand_0 : decode cX9_canStand 0 = .ok (.aload_n 0, 1) := by decide +kernel
theorem dX9_canStand_1 : decode cX9_canStand 1 = .ok (.getfield 12, 3) := by decide +kernel
theorem dX9_canStand_4 : decode cX9_canStand 4 = .ok (.getfield 83, 3) := by decide +kernel
theorem dX9_canStand_7 : decode cX9_canStand 7 = .ok (.iconst 2, 1) := by decide +kernel
theorem dX9_canStand_8 : decode cX9_canStand 8 = .ok (.if_icmp .lt 45, 3) := by decide +kernel
theorem dX9_canStand_11 : decode cX9_canStand 11 = .ok (.aload_n 0, 1) := by decide +kernel
theorem dX9_canStand_12 : decode cX9_canStand 12 = .ok (.getfield 30, 3) := by decide +kernel
theorem dX9_canStand_15 : decode cX9_canStand 15 = .ok (.aload_n 0, 1) := by decide +kernel
theorem dX9_canStand_16 : decode cX9_canStand 16 = .ok (.getfield 12, 3) := by decide +kernel
theorem dX9_canStand_19 : decode cX9_canStand 19 = .ok (.getfield 83, 3) := by decide +kernel
theorem dX9_canStand_22 : decode cX9_canStand 22 = .ok (.if_icmp .ge 31, 3) := by decide +kernel
theorem dX9_canStand_25 : decode cX9_canStand 25 = .ok (.aload_n 0, 1) := by decide +kernel
theorem dX9_canStand_26 : decode cX9_canStand 26 = .ok (.getfield 33, 3) := by decide +kernel
theorem dX9_canStand_29 : decode cX9_canStand 29 = .ok (.ifCond .ne 24, 3) := by decide +kernel
theorem dX9_canStand_32 : decode cX9_canStand 32 = .ok (.aload_n 0, 1) := by decide +kernel
theorem dX9_canStand_33 : decode cX9_canStand 33 = .ok (.getfield 12, 3) := by decide +kernel
theorem dX9_canStand_36 : decode cX9_canStand 36 = .ok (.invokevirtual 145, 3) := by decide +kernel
theorem dX9_canStand_39 : decode cX9_canStand 39 = .ok (.aload_n 0, 1) := by decide +kernel
theorem dX9_canStand_40 : decode cX9_canStand 40 = .ok (.getfield 12, 3) := by decide +kernel
theorem dX9_canStand_43 : decode cX9_canStand 43 = .ok (.getfield 70, 3) := by decide +kernel
theorem dX9_canStand_46 : decode cX9_canStand 46 = .ok (.if_icmp .gt 7, 3) := by decide +kernel
theorem dX9_canStand_49 : decode cX9_canStand 49 = .ok (.iconst 1, 1) := by decide +kernel
theorem dX9_canStand_50 : decode cX9_canStand 50 = .ok (.goto 4, 3) := by decide +kernel
theorem dX9_canStand_53 : decode cX9_canStand 53 = .ok (.iconst 0, 1) := by decide +kernel
theorem dX9_canStand_54 : decode cX9_canStand 54 = .ok (.ireturn, 1) := by decide +kernel
theorem dX9_bounded_0 : decode cX9_bounded 0 = .ok (.aload_n 0, 1) := by decide +kernel
theorem dX9_bounded_1 : decode cX9_bounded 1 = .ok (.getfield 54, 3) := by decide +kernel
theorem dX9_bounded_4 : decode cX9_bounded 4 = .ok (.ifCond .ne 36, 3) := by decide +kernel
theorem dX9_bounded_7 : decode cX9_bounded 7 = .ok (.iload_n 1, 1) := by decide +kernel
theorem dX9_bounded_8 : decode cX9_bounded 8 = .ok (.getstatic 118, 3) := by decide +kernel
theorem dX9_bounded_11 : decode cX9_bounded 11 = .ok (.iload_n 2, 1) := by decide +kernel
theorem dX9_bounded_12 : decode cX9_bounded 12 = .ok (.iaload, 1) := by decide +kernel
theorem dX9_bounded_13 : decode cX9_bounded 13 = .ok (.if_icmp .lt 12, 3) := by decide +kernel
theorem dX9_bounded_16 : decode cX9_bounded 16 = .ok (.iload_n 1, 1) := by decide +kernel
theorem dX9_bounded_17 : decode cX9_bounded 17 = .ok (.getstatic 121, 3) := by decide +kernel
theorem dX9_bounded_20 : decode cX9_bounded 20 = .ok (.iload_n 2, 1) := by decide +kernel
theorem dX9_bounded_21 : decode cX9_bounded 21 = .ok (.iaload, 1) := by decide +kernel
theorem dX9_bounded_22 : decode cX9_bounded 22 = .ok (.if_icmp .le 18, 3) := by decide +kernel
theorem dX9_bounded_25 : decode cX9_bounded 25 = .ok (.aload_n 0, 1) := by decide +kernel
theorem dX9_bounded_26 : decode cX9_bounded 26 = .ok (.dup, 1) := by decide +kernel
theorem dX9_bounded_27 : decode cX9_bounded 27 = .ok (.getfield 92, 3) := by decide +kernel
theorem dX9_bounded_30 : decode cX9_bounded 30 = .ok (.iconst 1, 1) := by decide +kernel
theorem dX9_bounded_31 : decode cX9_bounded 31 = .ok (.isub, 1) := by decide +kernel
theorem dX9_bounded_32 : decode cX9_bounded 32 = .ok (.putfield 92, 3) := by decide +kernel
theorem dX9_bounded_35 : decode cX9_bounded 35 = .ok (.aload_n 0, 1) := by decide +kernel
theorem dX9_bounded_36 : decode cX9_bounded 36 = .ok (.iconst 1, 1) := by decide +kernel
theorem dX9_bounded_37 : decode cX9_bounded 37 = .ok (.putfield 54, 3) := by decide +kernel
theorem dX9_bounded_40 : decode cX9_bounded 40 = .ok (.aload_n 0, 1) := by decide +kernel
theorem dX9_bounded_41 : decode cX9_bounded 41 = .ok (.getfield 54, 3) := by decide +kernel
theorem dX9_bounded_44 : decode cX9_bounded 44 = .ok (.ifCond .eq 11, 3) := by decide +kernel
theorem dX9_bounded_47 : decode cX9_bounded 47 = .ok (.getstatic 64, 3) := by decide +kernel
theorem dX9_bounded_50 : decode cX9_bounded 50 = .ok (.iload_n 2, 1) := by decide +kernel
theorem dX9_bounded_51 : decode cX9_bounded 51 = .ok (.iaload, 1) := by decide +kernel
theorem dX9_bounded_52 : decode cX9_bounded 52 = .ok (.goto 4, 3) := by decide +kernel
theorem dX9_bounded_55 : decode cX9_bounded 55 = .ok (.iload_n 1, 1) := by decide +kernel
theorem dX9_bounded_56 : decode cX9_bounded 56 = .ok (.ireturn, 1) := by decide +kernel
theorem dX9_itemOf_0 : decode cX9_itemOf 0 = .ok (.iload_n 1, 1) := by decide +kernel
theorem dX9_itemOf_1 : decode cX9_itemOf 1 = .ok (.istore_n 3, 1) := by decide +kernel
theorem dX9_itemOf_2 : decode cX9_itemOf 2 = .ok (.iload_n 3, 1) := by decide +kernel
theorem dX9_itemOf_3 : decode cX9_itemOf 3 = .ok (.iload_n 2, 1) := by decide +kernel
theorem dX9_itemOf_4 : decode cX9_itemOf 4 = .ok (.if_icmp .ge 30, 3) := by decide +kernel
theorem dX9_itemOf_7 : decode cX9_itemOf 7 = .ok (.iload_n 3, 1) := by decide +kernel
theorem dX9_itemOf_8 : decode cX9_itemOf 8 = .ok (.ldc 107, 2) := by decide +kernel
theorem dX9_itemOf_10 : decode cX9_itemOf 10 = .ok (.invokevirtual 109, 3) := by decide +kernel
theorem dX9_itemOf_13 : decode cX9_itemOf 13 = .ok (.if_icmp .ge 21, 3) := by decide +kernel
theorem dX9_itemOf_16 : decode cX9_itemOf 16 = .ok (.ldc 107, 2) := by decide +kernel
theorem dX9_itemOf_18 : decode cX9_itemOf 18 = .ok (.iload_n 3, 1) := by decide +kernel
theorem dX9_itemOf_19 : decode cX9_itemOf 19 = .ok (.invokevirtual 114, 3) := by decide +kernel
theorem dX9_itemOf_22 : decode cX9_itemOf 22 = .ok (.iload_n 0, 1) := by decide +kernel
theorem dX9_itemOf_23 : decode cX9_itemOf 23 = .ok (.if_icmp .ne 5, 3) := by decide +kernel
theorem dX9_itemOf_26 : decode cX9_itemOf 26 = .ok (.iload_n 3, 1) := by decide +kernel
theorem dX9_itemOf_27 : decode cX9_itemOf 27 = .ok (.ireturn, 1) := by decide +kernel
theorem dX9_itemOf_28 : decode cX9_itemOf 28 = .ok (.iinc 3 1, 3) := by decide +kernel
theorem dX9_itemOf_31 : decode cX9_itemOf 31 = .ok (.goto (-29), 3) := by decide +kernel
theorem dX9_itemOf_34 : decode cX9_itemOf 34 = .ok (.iconst (-1), 1) := by decide +kernel
theorem dX9_itemOf_35 : decode cX9_itemOf 35 = .ok (.ireturn, 1) := by decide +kernel
theorem dX9_items_0 : decode cX9_items 0 = .ok (.aload_n 0, 1) := by decide +kernel
theorem dX9_items_1 : decode cX9_items 1 = .ok (.dup, 1) := by decide +kernel
theorem dX9_items_2 : decode cX9_items 2 = .ok (.getfield 92, 3) := by decide +kernel
theorem dX9_items_5 : decode cX9_items 5 = .ok (.iconst 1, 1) := by decide +kernel
theorem dX9_items_6 : decode cX9_items 6 = .ok (.iadd, 1) := by decide +kernel
theorem dX9_items_7 : decode cX9_items 7 = .ok (.putfield 92, 3) := by decide +kernel
theorem dX9_items_10 : decode cX9_items 10 = .ok (.iload_n 1, 1) := by decide +kernel
theorem dX9_items_11 : decode cX9_items 11 = .ok (.istore_n 3, 1) := by decide +kernel
theorem dX9_items_12 : decode cX9_items 12 = .ok (.iload_n 3, 1) := by decide +kernel
theorem dX9_items_13 : decode cX9_items 13 = .ok (.iload_n 2, 1) := by decide +kernel
theorem dX9_items_14 : decode cX9_items 14 = .ok (.if_icmp .ge 20, 3) := by decide +kernel
theorem dX9_items_17 : decode cX9_items 17 = .ok (.aload_n 0, 1) := by decide +kernel
theorem dX9_items_18 : decode cX9_items 18 = .ok (.getfield 18, 3) := by decide +kernel
theorem dX9_items_21 : decode cX9_items 21 = .ok (.iload_n 3, 1) := by decide +kernel
theorem dX9_items_22 : decode cX9_items 22 = .ok (.getstatic 64, 3) := by decide +kernel
theorem dX9_items_25 : decode cX9_items 25 = .ok (.iload_n 3, 1) := by decide +kernel
theorem dX9_items_26 : decode cX9_items 26 = .ok (.iaload, 1) := by decide +kernel
theorem dX9_items_27 : decode cX9_items 27 = .ok (.iastore, 1) := by decide +kernel
theorem dX9_items_28 : decode cX9_items 28 = .ok (.iinc 3 1, 3) := by decide +kernel
theorem dX9_items_31 : decode cX9_items 31 = .ok (.goto (-19), 3) := by decide +kernel
theorem dX9_items_34 : decode cX9_items 34 = .ok (.iconst 0, 1) := by decide +kernel
theorem dX9_items_35 : decode cX9_items 35 = .ok (.istore_n 3, 1) := by decide +kernel
theorem dX9_items_36 : decode cX9_items 36 = .ok (.iload_n 1, 1) := by decide +kernel
theorem dX9_items_37 : decode cX9_items 37 = .ok (.istore 4, 2) := by decide +kernel
theorem dX9_items_39 : decode cX9_items 39 = .ok (.iload 4, 2) := by decide +kernel
theorem dX9_items_41 : decode cX9_items 41 = .ok (.iload_n 2, 1) := by decide +kernel
theorem dX9_items_42 : decode cX9_items 42 = .ok (.if_icmp .gt 95, 3) := by decide +kernel
theorem dX9_items_45 : decode cX9_items 45 = .ok (.aload_n 0, 1) := by decide +kernel
theorem dX9_items_46 : decode cX9_items 46 = .ok (.invokevirtual 73, 3) := by decide +kernel
theorem dX9_items_49 : decode cX9_items 49 = .ok (.istore 5, 2) := by decide +kernel
theorem dX9_items_51 : decode cX9_items 51 = .ok (.iload 5, 2) := by decide +kernel
theorem dX9_items_53 : decode cX9_items 53 = .ok (.bipush 59, 2) := by decide +kernel
theorem dX9_items_55 : decode cX9_items 55 = .ok (.if_icmp .eq 9, 3) := by decide +kernel
theorem dX9_items_58 : decode cX9_items 58 = .ok (.iload 5, 2) := by decide +kernel
theorem dX9_items_60 : decode cX9_items 60 = .ok (.iconst (-1), 1) := by decide +kernel
theorem dX9_items_61 : decode cX9_items 61 = .ok (.if_icmp .ne 4, 3) := by decide +kernel
theorem dX9_items_64 : decode cX9_items 64 = .ok (.return_, 1) := by decide +kernel
theorem dX9_items_65 : decode cX9_items 65 = .ok (.iload 5, 2) := by decide +kernel
theorem dX9_items_67 : decode cX9_items 67 = .ok (.iload_n 1, 1) := by decide +kernel
theorem dX9_items_68 : decode cX9_items 68 = .ok (.iload_n 2, 1) := by decide +kernel
theorem dX9_items_69 : decode cX9_items 69 = .ok (.invokestatic 95, 3) := by decide +kernel
theorem dX9_items_72 : decode cX9_items 72 = .ok (.istore 6, 2) := by decide +kernel
theorem dX9_items_74 : decode cX9_items 74 = .ok (.iload 6, 2) := by decide +kernel
theorem dX9_items_76 : decode cX9_items 76 = .ok (.iconst (-1), 1) := by decide +kernel
theorem dX9_items_77 : decode cX9_items 77 = .ok (.if_icmp .eq 13, 3) := by decide +kernel
theorem dX9_items_80 : decode cX9_items 80 = .ok (.iload_n 3, 1) := by decide +kernel
theorem dX9_items_81 : decode cX9_items 81 = .ok (.iload 6, 2) := by decide +kernel
theorem dX9_items_83 : decode cX9_items 83 = .ok (.ishr, 1) := by decide +kernel
theorem dX9_items_84 : decode cX9_items 84 = .ok (.iconst 1, 1) := by decide +kernel
theorem dX9_items_85 : decode cX9_items 85 = .ok (.iand, 1) := by decide +kernel
theorem dX9_items_86 : decode cX9_items 86 = .ok (.iconst 1, 1) := by decide +kernel
theorem dX9_items_87 : decode cX9_items 87 = .ok (.if_icmp .ne 9, 3) := by decide +kernel
theorem dX9_items_90 : decode cX9_items 90 = .ok (.aload_n 0, 1) := by decide +kernel
theorem dX9_items_91 : decode cX9_items 91 = .ok (.iconst 1, 1) := by decide +kernel
theorem dX9_items_92 : decode cX9_items 92 = .ok (.putfield 54, 3) := by decide +kernel
theorem dX9_items_95 : decode cX9_items 95 = .ok (.return_, 1) := by decide +kernel
theorem dX9_items_96 : decode cX9_items 96 = .ok (.iload_n 3, 1) := by decide +kernel
theorem dX9_items_97 : decode cX9_items 97 = .ok (.iconst 1, 1) := by decide +kernel
theorem dX9_items_98 : decode cX9_items 98 = .ok (.iload 6, 2) := by decide +kernel
theorem dX9_items_100 : decode cX9_items 100 = .ok (.ishl, 1) := by decide +kernel
theorem dX9_items_101 : decode cX9_items 101 = .ok (.ior, 1) := by decide +kernel
theorem dX9_items_102 : decode cX9_items 102 = .ok (.istore_n 3, 1) := by decide +kernel
theorem dX9_items_103 : decode cX9_items 103 = .ok (.aload_n 0, 1) := by decide +kernel
theorem dX9_items_104 : decode cX9_items 104 = .ok (.dup, 1) := by decide +kernel
theorem dX9_items_105 : decode cX9_items 105 = .ok (.getfield 92, 3) := by decide +kernel
theorem dX9_items_108 : decode cX9_items 108 = .ok (.iconst 1, 1) := by decide +kernel
theorem dX9_items_109 : decode cX9_items 109 = .ok (.iadd, 1) := by decide +kernel
theorem dX9_items_110 : decode cX9_items 110 = .ok (.putfield 92, 3) := by decide +kernel
theorem dX9_items_113 : decode cX9_items 113 = .ok (.aload_n 0, 1) := by decide +kernel
theorem dX9_items_114 : decode cX9_items 114 = .ok (.getfield 18, 3) := by decide +kernel
theorem dX9_items_117 : decode cX9_items 117 = .ok (.iload 6, 2) := by decide +kernel
theorem dX9_items_119 : decode cX9_items 119 = .ok (.aload_n 0, 1) := by decide +kernel
theorem dX9_items_120 : decode cX9_items 120 = .ok (.aload_n 0, 1) := by decide +kernel
theorem dX9_items_121 : decode cX9_items 121 = .ok (.iconst 2, 1) := by decide +kernel
theorem dX9_items_122 : decode cX9_items 122 = .ok (.invokevirtual 99, 3) := by decide +kernel
theorem dX9_items_125 : decode cX9_items 125 = .ok (.iload 6, 2) := by decide +kernel
theorem dX9_items_127 : decode cX9_items 127 = .ok (.invokevirtual 103, 3) := by decide +kernel
theorem dX9_items_130 : decode cX9_items 130 = .ok (.iastore, 1) := by decide +kernel
theorem dX9_items_131 : decode cX9_items 131 = .ok (.iinc 4 1, 3) := by decide +kernel
theorem dX9_items_134 : decode cX9_items 134 = .ok (.goto (-95), 3) := by decide +kernel
theorem dX9_items_137 : decode cX9_items 137 = .ok (.return_, 1) := by decide +kernel
theorem dX9_tellFavours_0 : decode cX9_tellFavours 0 = .ok (.aload_n 0, 1) := by decide +kernel
theorem dX9_tellFavours_1 : decode cX9_tellFavours 1 = .ok (.getfield 18, 3) := by decide +kernel
theorem dX9_tellFavours_4 : decode cX9_tellFavours 4 = .ok (.iconst 5, 1) := by decide +kernel
theorem dX9_tellFavours_5 : decode cX9_tellFavours 5 = .ok (.iaload, 1) := by decide +kernel
theorem dX9_tellFavours_6 : decode cX9_tellFavours 6 = .ok (.istore_n 1, 1) := by decide +kernel
theorem dX9_tellFavours_7 : decode cX9_tellFavours 7 = .ok (.aload_n 0, 1) := by decide +kernel
theorem dX9_tellFavours_8 : decode cX9_tellFavours 8 = .ok (.getfield 18, 3) := by decide +kernel
theorem dX9_tellFavours_11 : decode cX9_tellFavours 11 = .ok (.bipush 6, 2) := by decide +kernel
theorem dX9_tellFavours_13 : decode cX9_tellFavours 13 = .ok (.iaload, 1) := by decide +kernel
theorem dX9_tellFavours_14 : decode cX9_tellFavours 14 = .ok (.istore_n 2, 1) := by decide +kernel
theorem dX9_tellFavours_15 : decode cX9_tellFavours 15 = .ok (.aload_n 0, 1) := by decide +kernel
theorem dX9_tellFavours_16 : decode cX9_tellFavours 16 = .ok (.dup, 1) := by decide +kernel
theorem dX9_tellFavours_17 : decode cX9_tellFavours 17 = .ok (.getfield 26, 3) := by decide +kernel
theorem dX9_tellFavours_20 : decode cX9_tellFavours 20 = .ok (.iconst 1, 1) := by decide +kernel
theorem dX9_tellFavours_21 : decode cX9_tellFavours 21 = .ok (.iadd, 1) := by decide +kernel
theorem dX9_tellFavours_22 : decode cX9_tellFavours 22 = .ok (.putfield 26, 3) := by decide +kernel
theorem dX9_tellFavours_25 : decode cX9_tellFavours 25 = .ok (.aload_n 0, 1) := by decide +kernel
theorem dX9_tellFavours_26 : decode cX9_tellFavours 26 = .ok (.aload_n 0, 1) := by decide +kernel
theorem dX9_tellFavours_27 : decode cX9_tellFavours 27 = .ok (.getfield 30, 3) := by decide +kernel
theorem dX9_tellFavours_30 : decode cX9_tellFavours 30 = .ok (.iload_n 1, 1) := by decide +kernel
theorem dX9_tellFavours_31 : decode cX9_tellFavours 31 = .ok (.iload_n 2, 1) := by decide +kernel
theorem dX9_tellFavours_32 : decode cX9_tellFavours 32 = .ok (.invokestatic 133, 3) := by decide +kernel
theorem dX9_tellFavours_35 : decode cX9_tellFavours 35 = .ok (.invokestatic 133, 3) := by decide +kernel
theorem dX9_tellFavours_38 : decode cX9_tellFavours 38 = .ok (.putfield 30, 3) := by decide +kernel
theorem dX9_tellFavours_41 : decode cX9_tellFavours 41 = .ok (.iload_n 1, 1) := by decide +kernel
theorem dX9_tellFavours_42 : decode cX9_tellFavours 42 = .ok (.iload_n 2, 1) := by decide +kernel
theorem dX9_tellFavours_43 : decode cX9_tellFavours 43 = .ok (.if_icmp .ne 11, 3) := by decide +kernel
theorem dX9_tellFavours_46 : decode cX9_tellFavours 46 = .ok (.aload_n 0, 1) := by decide +kernel
theorem dX9_tellFavours_47 : decode cX9_tellFavours 47 = .ok (.iconst 1, 1) := by decide +kernel
theorem dX9_tellFavours_48 : decode cX9_tellFavours 48 = .ok (.putfield 33, 3) := by decide +kernel
theorem dX9_tellFavours_51 : decode cX9_tellFavours 51 = .ok (.goto 29, 3) := by decide +kernel
theorem dX9_tellFavours_54 : decode cX9_tellFavours 54 = .ok (.aload_n 0, 1) := by decide +kernel
theorem dX9_tellFavours_55 : decode cX9_tellFavours 55 = .ok (.getfield 12, 3) := by decide +kernel
theorem dX9_tellFavours_58 : decode cX9_tellFavours 58 = .ok (.iload_n 1, 1) := by decide +kernel
theorem dX9_tellFavours_59 : decode cX9_tellFavours 59 = .ok (.iload_n 2, 1) := by decide +kernel
theorem dX9_tellFavours_60 : decode cX9_tellFavours 60 = .ok (.aload_n 0, 1) := by decide +kernel
theorem dX9_tellFavours_61 : decode cX9_tellFavours 61 = .ok (.getfield 12, 3) := by decide +kernel
theorem dX9_tellFavours_64 : decode cX9_tellFavours 64 = .ok (.iload_n 1, 1) := by decide +kernel
theorem dX9_tellFavours_65 : decode cX9_tellFavours 65 = .ok (.iload_n 2, 1) := by decide +kernel
theorem dX9_tellFavours_66 : decode cX9_tellFavours 66 = .ok (.invokevirtual 138, 3) := by decide +kernel
theorem dX9_tellFavours_69 : decode cX9_tellFavours 69 = .ok (.aload_n 0, 1) := by decide +kernel
theorem dX9_tellFavours_70 : decode cX9_tellFavours 70 = .ok (.getfield 18, 3) := by decide +kernel
theorem dX9_tellFavours_73 : decode cX9_tellFavours 73 = .ok (.bipush 7, 2) := by decide +kernel
theorem dX9_tellFavours_75 : decode cX9_tellFavours 75 = .ok (.iaload, 1) := by decide +kernel
theorem dX9_tellFavours_76 : decode cX9_tellFavours 76 = .ok (.iadd, 1) := by decide +kernel
theorem dX9_tellFavours_77 : decode cX9_tellFavours 77 = .ok (.invokevirtual 141, 3) := by decide +kernel
theorem dX9_tellFavours_80 : decode cX9_tellFavours 80 = .ok (.return_, 1) := by decide +kernel
theorem dX9_tellHouse_0 : decode cX9_tellHouse 0 = .ok (.aload_n 0, 1) := by decide +kernel
theorem dX9_tellHouse_1 : decode cX9_tellHouse 1 = .ok (.getfield 12, 3) := by decide +kernel
theorem dX9_tellHouse_4 : decode cX9_tellHouse 4 = .ok (.getfield 83, 3) := by decide +kernel
theorem dX9_tellHouse_7 : decode cX9_tellHouse 7 = .ok (.istore_n 1, 1) := by decide +kernel
theorem dX9_tellHouse_8 : decode cX9_tellHouse 8 = .ok (.aload_n 0, 1) := by decide +kernel
theorem dX9_tellHouse_9 : decode cX9_tellHouse 9 = .ok (.getfield 12, 3) := by decide +kernel
theorem dX9_tellHouse_12 : decode cX9_tellHouse 12 = .ok (.getfield 124, 3) := by decide +kernel
theorem dX9_tellHouse_15 : decode cX9_tellHouse 15 = .ok (.iload_n 1, 1) := by decide +kernel
theorem dX9_tellHouse_16 : decode cX9_tellHouse 16 = .ok (.aload_n 0, 1) := by decide +kernel
theorem dX9_tellHouse_17 : decode cX9_tellHouse 17 = .ok (.getfield 18, 3) := by decide +kernel
theorem dX9_tellHouse_20 : decode cX9_tellHouse 20 = .ok (.iconst 2, 1) := by decide +kernel
theorem dX9_tellHouse_21 : decode cX9_tellHouse 21 = .ok (.iaload, 1) := by decide +kernel
theorem dX9_tellHouse_22 : decode cX9_tellHouse 22 = .ok (.iastore, 1) := by decide +kernel
theorem dX9_tellHouse_23 : decode cX9_tellHouse 23 = .ok (.aload_n 0, 1) := by decide +kernel
theorem dX9_tellHouse_24 : decode cX9_tellHouse 24 = .ok (.getfield 12, 3) := by decide +kernel
theorem dX9_tellHouse_27 : decode cX9_tellHouse 27 = .ok (.getfield 127, 3) := by decide +kernel
theorem dX9_tellHouse_30 : decode cX9_tellHouse 30 = .ok (.iload_n 1, 1) := by decide +kernel
theorem dX9_tellHouse_31 : decode cX9_tellHouse 31 = .ok (.aload_n 0, 1) := by decide +kernel
theorem dX9_tellHouse_32 : decode cX9_tellHouse 32 = .ok (.getfield 18, 3) := by decide +kernel
theorem dX9_tellHouse_35 : decode cX9_tellHouse 35 = .ok (.iconst 3, 1) := by decide +kernel
theorem dX9_tellHouse_36 : decode cX9_tellHouse 36 = .ok (.iaload, 1) := by decide +kernel
theorem dX9_tellHouse_37 : decode cX9_tellHouse 37 = .ok (.iastore, 1) := by decide +kernel
theorem dX9_tellHouse_38 : decode cX9_tellHouse 38 = .ok (.aload_n 0, 1) := by decide +kernel
theorem dX9_tellHouse_39 : decode cX9_tellHouse 39 = .ok (.getfield 12, 3) := by decide +kernel
theorem dX9_tellHouse_42 : decode cX9_tellHouse 42 = .ok (.dup, 1) := by decide +kernel
theorem dX9_tellHouse_43 : decode cX9_tellHouse 43 = .ok (.getfield 130, 3) := by decide +kernel
theorem dX9_tellHouse_46 : decode cX9_tellHouse 46 = .ok (.aload_n 0, 1) := by decide +kernel
theorem dX9_tellHouse_47 : decode cX9_tellHouse 47 = .ok (.getfield 18, 3) := by decide +kernel
theorem dX9_tellHouse_50 : decode cX9_tellHouse 50 = .ok (.iconst 4, 1) := by decide +kernel
theorem dX9_tellHouse_51 : decode cX9_tellHouse 51 = .ok (.iaload, 1) := by decide +kernel
theorem dX9_tellHouse_52 : decode cX9_tellHouse 52 = .ok (.iload_n 1, 1) := by decide +kernel
theorem dX9_tellHouse_53 : decode cX9_tellHouse 53 = .ok (.ishl, 1) := by decide +kernel
theorem dX9_tellHouse_54 : decode cX9_tellHouse 54 = .ok (.ior, 1) := by decide +kernel
theorem dX9_tellHouse_55 : decode cX9_tellHouse 55 = .ok (.putfield 130, 3) := by decide +kernel
theorem dX9_tellHouse_58 : decode cX9_tellHouse 58 = .ok (.aload_n 0, 1) := by decide +kernel
theorem dX9_tellHouse_59 : decode cX9_tellHouse 59 = .ok (.getfield 12, 3) := by decide +kernel
theorem dX9_tellHouse_62 : decode cX9_tellHouse 62 = .ok (.dup, 1) := by decide +kernel
theorem dX9_tellHouse_63 : decode cX9_tellHouse 63 = .ok (.getfield 83, 3) := by decide +kernel
theorem dX9_tellHouse_66 : decode cX9_tellHouse 66 = .ok (.iconst 1, 1) := by decide +kernel
theorem dX9_tellHouse_67 : decode cX9_tellHouse 67 = .ok (.iadd, 1) := by decide +kernel
theorem dX9_tellHouse_68 : decode cX9_tellHouse 68 = .ok (.putfield 83, 3) := by decide +kernel
theorem dX9_tellHouse_71 : decode cX9_tellHouse 71 = .ok (.return_, 1) := by decide +kernel
theorem dX9_tellRules_0 : decode cX9_tellRules 0 = .ok (.aload_n 0, 1) := by decide +kernel
theorem dX9_tellRules_1 : decode cX9_tellRules 1 = .ok (.getfield 12, 3) := by decide +kernel
theorem dX9_tellRules_4 : decode cX9_tellRules 4 = .ok (.aload_n 0, 1) := by decide +kernel
theorem dX9_tellRules_5 : decode cX9_tellRules 5 = .ok (.getfield 18, 3) := by decide +kernel
theorem dX9_tellRules_8 : decode cX9_tellRules 8 = .ok (.iconst 0, 1) := by decide +kernel
theorem dX9_tellRules_9 : decode cX9_tellRules 9 = .ok (.iaload, 1) := by decide +kernel
theorem dX9_tellRules_10 : decode cX9_tellRules 10 = .ok (.putfield 67, 3) := by decide +kernel
theorem dX9_tellRules_13 : decode cX9_tellRules 13 = .ok (.aload_n 0, 1) := by decide +kernel
theorem dX9_tellRules_14 : decode cX9_tellRules 14 = .ok (.getfield 12, 3) := by decide +kernel
theorem dX9_tellRules_17 : decode cX9_tellRules 17 = .ok (.aload_n 0, 1) := by decide +kernel
theorem dX9_tellRules_18 : decode cX9_tellRules 18 = .ok (.getfield 18, 3) := by decide +kernel
theorem dX9_tellRules_21 : decode cX9_tellRules 21 = .ok (.iconst 1, 1) := by decide +kernel
theorem dX9_tellRules_22 : decode cX9_tellRules 22 = .ok (.iaload, 1) := by decide +kernel
theorem dX9_tellRules_23 : decode cX9_tellRules 23 = .ok (.putfield 70, 3) := by decide +kernel
theorem dX9_tellRules_26 : decode cX9_tellRules 26 = .ok (.aload_n 0, 1) := by decide +kernel
theorem dX9_tellRules_27 : decode cX9_tellRules 27 = .ok (.iconst 1, 1) := by decide +kernel
theorem dX9_tellRules_28 : decode cX9_tellRules 28 = .ok (.putfield 22, 3) := by decide +kernel
theorem dX9_tellRules_31 : decode cX9_tellRules 31 = .ok (.return_, 1) := by decide +kernel
theorem dX9_clause_0 : decode cX9_clause 0 = .ok (.aload_n 0, 1) := by decide +kernel
theorem dX9_clause_1 : decode cX9_clause 1 = .ok (.invokevirtual 73, 3) := by decide +kernel
theorem dX9_clause_4 : decode cX9_clause 4 = .ok (.istore_n 1, 1) := by decide +kernel
theorem dX9_clause_5 : decode cX9_clause 5 = .ok (.iload_n 1, 1) := by decide +kernel
theorem dX9_clause_6 : decode cX9_clause 6 = .ok (.bipush 115, 2) := by decide +kernel
theorem dX9_clause_8 : decode cX9_clause 8 = .ok (.if_icmp .ne 23, 3) := by decide +kernel
theorem dX9_clause_11 : decode cX9_clause 11 = .ok (.aload_n 0, 1) := by decide +kernel
theorem dX9_clause_12 : decode cX9_clause 12 = .ok (.getfield 22, 3) := by decide +kernel
theorem dX9_clause_15 : decode cX9_clause 15 = .ok (.ifCond .ne 16, 3) := by decide +kernel
theorem dX9_clause_18 : decode cX9_clause 18 = .ok (.aload_n 0, 1) := by decide +kernel
theorem dX9_clause_19 : decode cX9_clause 19 = .ok (.iconst 0, 1) := by decide +kernel
theorem dX9_clause_20 : decode cX9_clause 20 = .ok (.iconst 2, 1) := by decide +kernel
theorem dX9_clause_21 : decode cX9_clause 21 = .ok (.invokevirtual 76, 3) := by decide +kernel
theorem dX9_clause_24 : decode cX9_clause 24 = .ok (.aload_n 0, 1) := by decide +kernel
theorem dX9_clause_25 : decode cX9_clause 25 = .ok (.invokevirtual 80, 3) := by decide +kernel
theorem dX9_clause_28 : decode cX9_clause 28 = .ok (.goto 68, 3) := by decide +kernel
theorem dX9_clause_31 : decode cX9_clause 31 = .ok (.iload_n 1, 1) := by decide +kernel
theorem dX9_clause_32 : decode cX9_clause 32 = .ok (.bipush 112, 2) := by decide +kernel
theorem dX9_clause_34 : decode cX9_clause 34 = .ok (.if_icmp .ne 28, 3) := by decide +kernel
theorem dX9_clause_37 : decode cX9_clause 37 = .ok (.aload_n 0, 1) := by decide +kernel
theorem dX9_clause_38 : decode cX9_clause 38 = .ok (.getfield 12, 3) := by decide +kernel
theorem dX9_clause_41 : decode cX9_clause 41 = .ok (.getfield 83, 3) := by decide +kernel
theorem dX9_clause_44 : decode cX9_clause 44 = .ok (.bipush 6, 2) := by decide +kernel
theorem dX9_clause_46 : decode cX9_clause 46 = .ok (.if_icmp .ge 16, 3) := by decide +kernel
theorem dX9_clause_49 : decode cX9_clause 49 = .ok (.aload_n 0, 1) := by decide +kernel
theorem dX9_clause_50 : decode cX9_clause 50 = .ok (.iconst 2, 1) := by decide +kernel
theorem dX9_clause_51 : decode cX9_clause 51 = .ok (.iconst 5, 1) := by decide +kernel
theorem dX9_clause_52 : decode cX9_clause 52 = .ok (.invokevirtual 76, 3) := by decide +kernel
theorem dX9_clause_55 : decode cX9_clause 55 = .ok (.aload_n 0, 1) := by decide +kernel
theorem dX9_clause_56 : decode cX9_clause 56 = .ok (.invokevirtual 86, 3) := by decide +kernel
theorem dX9_clause_59 : decode cX9_clause 59 = .ok (.goto 37, 3) := by decide +kernel
theorem dX9_clause_62 : decode cX9_clause 62 = .ok (.iload_n 1, 1) := by decide +kernel
theorem dX9_clause_63 : decode cX9_clause 63 = .ok (.bipush 102, 2) := by decide +kernel
theorem dX9_clause_65 : decode cX9_clause 65 = .ok (.if_icmp .ne 26, 3) := by decide +kernel
theorem dX9_clause_68 : decode cX9_clause 68 = .ok (.aload_n 0, 1) := by decide +kernel
theorem dX9_clause_69 : decode cX9_clause 69 = .ok (.getfield 26, 3) := by decide +kernel
theorem dX9_clause_72 : decode cX9_clause 72 = .ok (.bipush 12, 2) := by decide +kernel
theorem dX9_clause_74 : decode cX9_clause 74 = .ok (.if_icmp .ge 17, 3) := by decide +kernel
theorem dX9_clause_77 : decode cX9_clause 77 = .ok (.aload_n 0, 1) := by decide +kernel
theorem dX9_clause_78 : decode cX9_clause 78 = .ok (.iconst 5, 1) := by decide +kernel
theorem dX9_clause_79 : decode cX9_clause 79 = .ok (.bipush 8, 2) := by decide +kernel
theorem dX9_clause_81 : decode cX9_clause 81 = .ok (.invokevirtual 76, 3) := by decide +kernel
theorem dX9_clause_84 : decode cX9_clause 84 = .ok (.aload_n 0, 1) := by decide +kernel
theorem dX9_clause_85 : decode cX9_clause 85 = .ok (.invokevirtual 89, 3) := by decide +kernel
theorem dX9_clause_88 : decode cX9_clause 88 = .ok (.goto 8, 3) := by decide +kernel
theorem dX9_clause_91 : decode cX9_clause 91 = .ok (.aload_n 0, 1) := by decide +kernel
theorem dX9_clause_92 : decode cX9_clause 92 = .ok (.iconst 1, 1) := by decide +kernel
theorem dX9_clause_93 : decode cX9_clause 93 = .ok (.putfield 54, 3) := by decide +kernel
theorem dX9_clause_96 : decode cX9_clause 96 = .ok (.return_, 1) := by decide +kernel
theorem dX9_forget_0 : decode cX9_forget 0 = .ok (.aload_n 0, 1) := by decide +kernel
theorem dX9_forget_1 : decode cX9_forget 1 = .ok (.getfield 12, 3) := by decide +kernel
theorem dX9_forget_4 : decode cX9_forget 4 = .ok (.invokevirtual 61, 3) := by decide +kernel
theorem dX9_forget_7 : decode cX9_forget 7 = .ok (.aload_n 0, 1) := by decide +kernel
theorem dX9_forget_8 : decode cX9_forget 8 = .ok (.getfield 12, 3) := by decide +kernel
theorem dX9_forget_11 : decode cX9_forget 11 = .ok (.getstatic 64, 3) := by decide +kernel
theorem dX9_forget_14 : decode cX9_forget 14 = .ok (.iconst 0, 1) := by decide +kernel
theorem dX9_forget_15 : decode cX9_forget 15 = .ok (.iaload, 1) := by decide +kernel
theorem dX9_forget_16 : decode cX9_forget 16 = .ok (.putfield 67, 3) := by decide +kernel
theorem dX9_forget_19 : decode cX9_forget 19 = .ok (.aload_n 0, 1) := by decide +kernel
theorem dX9_forget_20 : decode cX9_forget 20 = .ok (.getfield 12, 3) := by decide +kernel
theorem dX9_forget_23 : decode cX9_forget 23 = .ok (.getstatic 64, 3) := by decide +kernel
theorem dX9_forget_26 : decode cX9_forget 26 = .ok (.iconst 1, 1) := by decide +kernel
theorem dX9_forget_27 : decode cX9_forget 27 = .ok (.iaload, 1) := by decide +kernel
theorem dX9_forget_28 : decode cX9_forget 28 = .ok (.putfield 70, 3) := by decide +kernel
theorem dX9_forget_31 : decode cX9_forget 31 = .ok (.aload_n 0, 1) := by decide +kernel
theorem dX9_forget_32 : decode cX9_forget 32 = .ok (.iconst 0, 1) := by decide +kernel
theorem dX9_forget_33 : decode cX9_forget 33 = .ok (.putfield 22, 3) := by decide +kernel
theorem dX9_forget_36 : decode cX9_forget 36 = .ok (.aload_n 0, 1) := by decide +kernel
theorem dX9_forget_37 : decode cX9_forget 37 = .ok (.iconst 0, 1) := by decide +kernel
theorem dX9_forget_38 : decode cX9_forget 38 = .ok (.putfield 26, 3) := by decide +kernel
theorem dX9_forget_41 : decode cX9_forget 41 = .ok (.aload_n 0, 1) := by decide +kernel
theorem dX9_forget_42 : decode cX9_forget 42 = .ok (.iconst (-1), 1) := by decide +kernel
theorem dX9_forget_43 : decode cX9_forget 43 = .ok (.putfield 30, 3) := by decide +kernel
theorem dX9_forget_46 : decode cX9_forget 46 = .ok (.aload_n 0, 1) := by decide +kernel
theorem dX9_forget_47 : decode cX9_forget 47 = .ok (.iconst 0, 1) := by decide +kernel
theorem dX9_forget_48 : decode cX9_forget 48 = .ok (.putfield 33, 3) := by decide +kernel
theorem dX9_forget_51 : decode cX9_forget 51 = .ok (.return_, 1) := by decide +kernel
theorem dX9_read_0 : decode cX9_read 0 = .ok (.aload_n 0, 1) := by decide +kernel
theorem dX9_read_1 : decode cX9_read 1 = .ok (.aload_n 1, 1) := by decide +kernel
theorem dX9_read_2 : decode cX9_read 2 = .ok (.iload_n 2, 1) := by decide +kernel
theorem dX9_read_3 : decode cX9_read 3 = .ok (.invokevirtual 36, 3) := by decide +kernel
theorem dX9_read_6 : decode cX9_read 6 = .ok (.aload_n 0, 1) := by decide +kernel
theorem dX9_read_7 : decode cX9_read 7 = .ok (.invokevirtual 40, 3) := by decide +kernel
theorem dX9_read_10 : decode cX9_read 10 = .ok (.aload_n 0, 1) := by decide +kernel
theorem dX9_read_11 : decode cX9_read 11 = .ok (.invokevirtual 43, 3) := by decide +kernel
theorem dX9_read_14 : decode cX9_read 14 = .ok (.iconst 0, 1) := by decide +kernel
theorem dX9_read_15 : decode cX9_read 15 = .ok (.istore_n 3, 1) := by decide +kernel
theorem dX9_read_16 : decode cX9_read 16 = .ok (.iload_n 3, 1) := by decide +kernel
theorem dX9_read_17 : decode cX9_read 17 = .ok (.sipush 240, 3) := by decide +kernel
theorem dX9_read_20 : decode cX9_read 20 = .ok (.if_icmp .ge 22, 3) := by decide +kernel
theorem dX9_read_23 : decode cX9_read 23 = .ok (.aload_n 0, 1) := by decide +kernel
theorem dX9_read_24 : decode cX9_read 24 = .ok (.bipush 59, 2) := by decide +kernel
theorem dX9_read_26 : decode cX9_read 26 = .ok (.invokevirtual 46, 3) := by decide +kernel
theorem dX9_read_29 : decode cX9_read 29 = .ok (.ifCond .eq 13, 3) := by decide +kernel
theorem dX9_read_32 : decode cX9_read 32 = .ok (.aload_n 0, 1) := by decide +kernel
theorem dX9_read_33 : decode cX9_read 33 = .ok (.invokevirtual 43, 3) := by decide +kernel
theorem dX9_read_36 : decode cX9_read 36 = .ok (.iinc 3 1, 3) := by decide +kernel
theorem dX9_read_39 : decode cX9_read 39 = .ok (.goto (-23), 3) := by decide +kernel
theorem dX9_read_42 : decode cX9_read 42 = .ok (.aload_n 0, 1) := by decide +kernel
theorem dX9_read_43 : decode cX9_read 43 = .ok (.invokevirtual 50, 3) := by decide +kernel
theorem dX9_read_46 : decode cX9_read 46 = .ok (.ifCond .ne 8, 3) := by decide +kernel
theorem dX9_read_49 : decode cX9_read 49 = .ok (.aload_n 0, 1) := by decide +kernel
theorem dX9_read_50 : decode cX9_read 50 = .ok (.iconst 1, 1) := by decide +kernel
theorem dX9_read_51 : decode cX9_read 51 = .ok (.putfield 54, 3) := by decide +kernel
theorem dX9_read_54 : decode cX9_read 54 = .ok (.aload_n 0, 1) := by decide +kernel
theorem dX9_read_55 : decode cX9_read 55 = .ok (.invokevirtual 57, 3) := by decide +kernel
theorem dX9_read_58 : decode cX9_read 58 = .ok (.ireturn, 1) := by decide +kernel
theorem dX9_init_0 : decode cX9_init 0 = .ok (.aload_n 0, 1) := by decide +kernel
theorem dX9_init_1 : decode cX9_init 1 = .ok (.invokespecial 3, 3) := by decide +kernel
theorem dX9_init_4 : decode cX9_init 4 = .ok (.aload_n 0, 1) := by decide +kernel
theorem dX9_init_5 : decode cX9_init 5 = .ok (.new 9, 3) := by decide +kernel
theorem dX9_init_8 : decode cX9_init 8 = .ok (.dup, 1) := by decide +kernel
theorem dX9_init_9 : decode cX9_init 9 = .ok (.invokespecial 11, 3) := by decide +kernel
theorem dX9_init_12 : decode cX9_init 12 = .ok (.putfield 12, 3) := by decide +kernel
theorem dX9_init_15 : decode cX9_init 15 = .ok (.aload_n 0, 1) := by decide +kernel
theorem dX9_init_16 : decode cX9_init 16 = .ok (.bipush 8, 2) := by decide +kernel
theorem dX9_init_18 : decode cX9_init 18 = .ok (.newarray .int, 2) := by decide +kernel
theorem dX9_init_20 : decode cX9_init 20 = .ok (.putfield 18, 3) := by decide +kernel
theorem dX9_init_23 : decode cX9_init 23 = .ok (.aload_n 0, 1) := by decide +kernel
theorem dX9_init_24 : decode cX9_init 24 = .ok (.iconst 0, 1) := by decide +kernel
theorem dX9_init_25 : decode cX9_init 25 = .ok (.putfield 22, 3) := by decide +kernel
theorem dX9_init_28 : decode cX9_init 28 = .ok (.aload_n 0, 1) := by decide +kernel
theorem dX9_init_29 : decode cX9_init 29 = .ok (.iconst 0, 1) := by decide +kernel
theorem dX9_init_30 : decode cX9_init 30 = .ok (.putfield 26, 3) := by decide +kernel
theorem dX9_init_33 : decode cX9_init 33 = .ok (.aload_n 0, 1) := by decide +kernel
theorem dX9_init_34 : decode cX9_init 34 = .ok (.iconst (-1), 1) := by decide +kernel
theorem dX9_init_35 : decode cX9_init 35 = .ok (.putfield 30, 3) := by decide +kernel
theorem dX9_init_38 : decode cX9_init 38 = .ok (.aload_n 0, 1) := by decide +kernel
theorem dX9_init_39 : decode cX9_init 39 = .ok (.iconst 0, 1) := by decide +kernel
theorem dX9_init_40 : decode cX9_init 40 = .ok (.putfield 33, 3) := by decide +kernel
theorem dX9_init_43 : decode cX9_init 43 = .ok (.return_, 1) := by decide +kernel
