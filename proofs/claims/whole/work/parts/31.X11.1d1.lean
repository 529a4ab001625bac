theorem dX11_sungApart_0 : decode cX11_sungApart 0 = .ok (.aload_n 0, 1) := by decide +kernel
theorem dX11_sungApart_1 : decode cX11_sungApart 1 = .ok (.getfield 43, 3) := by decide +kernel
theorem dX11_sungApart_4 : decode cX11_sungApart 4 = .ok (.iload_n 1, 1) := by decide +kernel
theorem dX11_sungApart_5 : decode cX11_sungApart 5 = .ok (.invokevirtual 221, 3) := by decide +kernel
theorem dX11_sungApart_8 : decode cX11_sungApart 8 = .ok (.ifCond .eq 13, 3) := by decide +kernel
theorem dX11_sungApart_11 : decode cX11_sungApart 11 = .ok (.iload_n 2, 1) := by decide +kernel
theorem dX11_sungApart_12 : decode cX11_sungApart 12 = .ok (.ifCond .lt 9, 3) := by decide +kernel
theorem dX11_sungApart_15 : decode cX11_sungApart 15 = .ok (.iload_n 2, 1) := by decide +kernel
theorem dX11_sungApart_16 : decode cX11_sungApart 16 = .ok (.bipush 60, 2) := by decide +kernel
theorem dX11_sungApart_18 : decode cX11_sungApart 18 = .ok (.if_icmp .le 5, 3) := by decide +kernel
theorem dX11_sungApart_21 : decode cX11_sungApart 21 = .ok (.iconst 0, 1) := by decide +kernel
theorem dX11_sungApart_22 : decode cX11_sungApart 22 = .ok (.ireturn, 1) := by decide +kernel
theorem dX11_sungApart_23 : decode cX11_sungApart 23 = .ok (.aload_n 0, 1) := by decide +kernel
theorem dX11_sungApart_24 : decode cX11_sungApart 24 = .ok (.getfield 56, 3) := by decide +kernel
theorem dX11_sungApart_27 : decode cX11_sungApart 27 = .ok (.aload_n 0, 1) := by decide +kernel
theorem dX11_sungApart_28 : decode cX11_sungApart 28 = .ok (.getfield 49, 3) := by decide +kernel
theorem dX11_sungApart_31 : decode cX11_sungApart 31 = .ok (.invokevirtual 142, 3) := by decide +kernel
theorem dX11_sungApart_34 : decode cX11_sungApart 34 = .ok (.iconst 0, 1) := by decide +kernel
theorem dX11_sungApart_35 : decode cX11_sungApart 35 = .ok (.istore_n 3, 1) := by decide +kernel
theorem dX11_sungApart_36 : decode cX11_sungApart 36 = .ok (.iload_n 3, 1) := by decide +kernel
theorem dX11_sungApart_37 : decode cX11_sungApart 37 = .ok (.iload_n 2, 1) := by decide +kernel
theorem dX11_sungApart_38 : decode cX11_sungApart 38 = .ok (.if_icmp .ge 39, 3) := by decide +kernel
theorem dX11_sungApart_41 : decode cX11_sungApart 41 = .ok (.aload_n 0, 1) := by decide +kernel
theorem dX11_sungApart_42 : decode cX11_sungApart 42 = .ok (.getfield 56, 3) := by decide +kernel
theorem dX11_sungApart_45 : decode cX11_sungApart 45 = .ok (.aload_n 0, 1) := by decide +kernel
theorem dX11_sungApart_46 : decode cX11_sungApart 46 = .ok (.getfield 43, 3) := by decide +kernel
theorem dX11_sungApart_49 : decode cX11_sungApart 49 = .ok (.getfield 198, 3) := by decide +kernel
theorem dX11_sungApart_52 : decode cX11_sungApart 52 = .ok (.iload_n 1, 1) := by decide +kernel
theorem dX11_sungApart_53 : decode cX11_sungApart 53 = .ok (.aaload, 1) := by decide +kernel
theorem dX11_sungApart_54 : decode cX11_sungApart 54 = .ok (.aload_n 0, 1) := by decide +kernel
theorem dX11_sungApart_55 : decode cX11_sungApart 55 = .ok (.getfield 43, 3) := by decide +kernel
theorem dX11_sungApart_58 : decode cX11_sungApart 58 = .ok (.getfield 202, 3) := by decide +kernel
theorem dX11_sungApart_61 : decode cX11_sungApart 61 = .ok (.iload_n 1, 1) := by decide +kernel
theorem dX11_sungApart_62 : decode cX11_sungApart 62 = .ok (.iaload, 1) := by decide +kernel
theorem dX11_sungApart_63 : decode cX11_sungApart 63 = .ok (.invokevirtual 298, 3) := by decide +kernel
theorem dX11_sungApart_66 : decode cX11_sungApart 66 = .ok (.ifCond .ne 5, 3) := by decide +kernel
theorem dX11_sungApart_69 : decode cX11_sungApart 69 = .ok (.iconst 0, 1) := by decide +kernel
theorem dX11_sungApart_70 : decode cX11_sungApart 70 = .ok (.ireturn, 1) := by decide +kernel
theorem dX11_sungApart_71 : decode cX11_sungApart 71 = .ok (.iinc 3 1, 3) := by decide +kernel
theorem dX11_sungApart_74 : decode cX11_sungApart 74 = .ok (.goto (-38), 3) := by decide +kernel
theorem dX11_sungApart_77 : decode cX11_sungApart 77 = .ok (.iconst 1, 1) := by decide +kernel
theorem dX11_sungApart_78 : decode cX11_sungApart 78 = .ok (.ireturn, 1) := by decide +kernel
theorem dX11_after_0 : decode cX11_after 0 = .ok (.aload_n 0, 1) := by decide +kernel
theorem dX11_after_1 : decode cX11_after 1 = .ok (.getfield 49, 3) := by decide +kernel
theorem dX11_after_4 : decode cX11_after 4 = .ok (.iload_n 3, 1) := by decide +kernel
theorem dX11_after_5 : decode cX11_after 5 = .ok (.invokevirtual 157, 3) := by decide +kernel
theorem dX11_after_8 : decode cX11_after 8 = .ok (.ifCond .eq 24, 3) := by decide +kernel
theorem dX11_after_11 : decode cX11_after 11 = .ok (.aload_n 0, 1) := by decide +kernel
theorem dX11_after_12 : decode cX11_after 12 = .ok (.getfield 49, 3) := by decide +kernel
theorem dX11_after_15 : decode cX11_after 15 = .ok (.iload 4, 2) := by decide +kernel
theorem dX11_after_17 : decode cX11_after 17 = .ok (.invokevirtual 157, 3) := by decide +kernel
theorem dX11_after_20 : decode cX11_after 20 = .ok (.ifCond .eq 12, 3) := by decide +kernel
theorem dX11_after_23 : decode cX11_after 23 = .ok (.aload_n 0, 1) := by decide +kernel
theorem dX11_after_24 : decode cX11_after 24 = .ok (.iload_n 1, 1) := by decide +kernel
theorem dX11_after_25 : decode cX11_after 25 = .ok (.iload_n 2, 1) := by decide +kernel
theorem dX11_after_26 : decode cX11_after 26 = .ok (.invokevirtual 294, 3) := by decide +kernel
theorem dX11_after_29 : decode cX11_after 29 = .ok (.ifCond .ne 6, 3) := by decide +kernel
theorem dX11_after_32 : decode cX11_after 32 = .ok (.ldc 220, 2) := by decide +kernel
theorem dX11_after_34 : decode cX11_after 34 = .ok (.ireturn, 1) := by decide +kernel
theorem dX11_after_35 : decode cX11_after 35 = .ok (.aload_n 0, 1) := by decide +kernel
theorem dX11_after_36 : decode cX11_after 36 = .ok (.getfield 56, 3) := by decide +kernel
theorem dX11_after_39 : decode cX11_after 39 = .ok (.iload_n 3, 1) := by decide +kernel
theorem dX11_after_40 : decode cX11_after 40 = .ok (.iload 4, 2) := by decide +kernel
theorem dX11_after_42 : decode cX11_after 42 = .ok (.invokevirtual 217, 3) := by decide +kernel
theorem dX11_after_45 : decode cX11_after 45 = .ok (.ireturn, 1) := by decide +kernel
theorem dX11_again_0 : decode cX11_again 0 = .ok (.aload_n 0, 1) := by decide +kernel
theorem dX11_again_1 : decode cX11_again 1 = .ok (.getfield 43, 3) := by decide +kernel
theorem dX11_again_4 : decode cX11_again 4 = .ok (.iload_n 1, 1) := by decide +kernel
theorem dX11_again_5 : decode cX11_again 5 = .ok (.invokevirtual 221, 3) := by decide +kernel
theorem dX11_again_8 : decode cX11_again 8 = .ok (.ifCond .eq 22, 3) := by decide +kernel
theorem dX11_again_11 : decode cX11_again 11 = .ok (.aload_n 0, 1) := by decide +kernel
theorem dX11_again_12 : decode cX11_again 12 = .ok (.getfield 49, 3) := by decide +kernel
theorem dX11_again_15 : decode cX11_again 15 = .ok (.getfield 154, 3) := by decide +kernel
theorem dX11_again_18 : decode cX11_again 18 = .ok (.ifCond .eq 12, 3) := by decide +kernel
theorem dX11_again_21 : decode cX11_again 21 = .ok (.iload_n 2, 1) := by decide +kernel
theorem dX11_again_22 : decode cX11_again 22 = .ok (.ifCond .lt 8, 3) := by decide +kernel
theorem dX11_again_25 : decode cX11_again 25 = .ok (.iload_n 2, 1) := by decide +kernel
theorem dX11_again_26 : decode cX11_again 26 = .ok (.iconst 1, 1) := by decide +kernel
theorem dX11_again_27 : decode cX11_again 27 = .ok (.if_icmp .le 5, 3) := by decide +kernel
theorem dX11_again_30 : decode cX11_again 30 = .ok (.iconst (-1), 1) := by decide +kernel
theorem dX11_again_31 : decode cX11_again 31 = .ok (.ireturn, 1) := by decide +kernel
theorem dX11_again_32 : decode cX11_again 32 = .ok (.aload_n 0, 1) := by decide +kernel
theorem dX11_again_33 : decode cX11_again 33 = .ok (.getfield 56, 3) := by decide +kernel
theorem dX11_again_36 : decode cX11_again 36 = .ok (.aload_n 0, 1) := by decide +kernel
theorem dX11_again_37 : decode cX11_again 37 = .ok (.getfield 49, 3) := by decide +kernel
theorem dX11_again_40 : decode cX11_again 40 = .ok (.invokevirtual 142, 3) := by decide +kernel
theorem dX11_again_43 : decode cX11_again 43 = .ok (.iconst 1, 1) := by decide +kernel
theorem dX11_again_44 : decode cX11_again 44 = .ok (.istore_n 3, 1) := by decide +kernel
theorem dX11_again_45 : decode cX11_again 45 = .ok (.iload_n 3, 1) := by decide +kernel
theorem dX11_again_46 : decode cX11_again 46 = .ok (.bipush 60, 2) := by decide +kernel
theorem dX11_again_48 : decode cX11_again 48 = .ok (.if_icmp .gt 73, 3) := by decide +kernel
theorem dX11_again_51 : decode cX11_again 51 = .ok (.aload_n 0, 1) := by decide +kernel
theorem dX11_again_52 : decode cX11_again 52 = .ok (.getfield 56, 3) := by decide +kernel
theorem dX11_again_55 : decode cX11_again 55 = .ok (.aload_n 0, 1) := by decide +kernel
theorem dX11_again_56 : decode cX11_again 56 = .ok (.getfield 43, 3) := by decide +kernel
theorem dX11_again_59 : decode cX11_again 59 = .ok (.getfield 198, 3) := by decide +kernel
theorem dX11_again_62 : decode cX11_again 62 = .ok (.iload_n 1, 1) := by decide +kernel
theorem dX11_again_63 : decode cX11_again 63 = .ok (.aaload, 1) := by decide +kernel
theorem dX11_again_64 : decode cX11_again 64 = .ok (.aload_n 0, 1) := by decide +kernel
theorem dX11_again_65 : decode cX11_again 65 = .ok (.getfield 43, 3) := by decide +kernel
theorem dX11_again_68 : decode cX11_again 68 = .ok (.getfield 202, 3) := by decide +kernel
theorem dX11_again_71 : decode cX11_again 71 = .ok (.iload_n 1, 1) := by decide +kernel
theorem dX11_again_72 : decode cX11_again 72 = .ok (.iaload, 1) := by decide +kernel
theorem dX11_again_73 : decode cX11_again 73 = .ok (.invokevirtual 298, 3) := by decide +kernel
theorem dX11_again_76 : decode cX11_again 76 = .ok (.ifCond .ne 5, 3) := by decide +kernel
theorem dX11_again_79 : decode cX11_again 79 = .ok (.iconst (-1), 1) := by decide +kernel
theorem dX11_again_80 : decode cX11_again 80 = .ok (.ireturn, 1) := by decide +kernel
theorem dX11_again_81 : decode cX11_again 81 = .ok (.aload_n 0, 1) := by decide +kernel
theorem dX11_again_82 : decode cX11_again 82 = .ok (.getfield 56, 3) := by decide +kernel
theorem dX11_again_85 : decode cX11_again 85 = .ok (.aload_n 0, 1) := by decide +kernel
theorem dX11_again_86 : decode cX11_again 86 = .ok (.getfield 49, 3) := by decide +kernel
theorem dX11_again_89 : decode cX11_again 89 = .ok (.invokevirtual 302, 3) := by decide +kernel
theorem dX11_again_92 : decode cX11_again 92 = .ok (.ifCond .eq 23, 3) := by decide +kernel
theorem dX11_again_95 : decode cX11_again 95 = .ok (.iload_n 2, 1) := by decide +kernel
theorem dX11_again_96 : decode cX11_again 96 = .ok (.ifCond .eq 17, 3) := by decide +kernel
theorem dX11_again_99 : decode cX11_again 99 = .ok (.aload_n 0, 1) := by decide +kernel
theorem dX11_again_100 : decode cX11_again 100 = .ok (.getfield 56, 3) := by decide +kernel
theorem dX11_again_103 : decode cX11_again 103 = .ok (.aload_n 0, 1) := by decide +kernel
theorem dX11_again_104 : decode cX11_again 104 = .ok (.getfield 49, 3) := by decide +kernel
theorem dX11_again_107 : decode cX11_again 107 = .ok (.invokevirtual 305, 3) := by decide +kernel
theorem dX11_again_110 : decode cX11_again 110 = .ok (.ifCond .eq 5, 3) := by decide +kernel
theorem dX11_again_113 : decode cX11_again 113 = .ok (.iload_n 3, 1) := by decide +kernel
theorem dX11_again_114 : decode cX11_again 114 = .ok (.ireturn, 1) := by decide +kernel
theorem dX11_again_115 : decode cX11_again 115 = .ok (.iinc 3 1, 3) := by decide +kernel
theorem dX11_again_118 : decode cX11_again 118 = .ok (.goto (-73), 3) := by decide +kernel
theorem dX11_again_121 : decode cX11_again 121 = .ok (.iconst (-1), 1) := by decide +kernel
theorem dX11_again_122 : decode cX11_again 122 = .ok (.ireturn, 1) := by decide +kernel
theorem dX11_agrees_0 : decode cX11_agrees 0 = .ok (.aload_n 0, 1) := by decide +kernel
theorem dX11_agrees_1 : decode cX11_agrees 1 = .ok (.getfield 56, 3) := by decide +kernel
theorem dX11_agrees_4 : decode cX11_agrees 4 = .ok (.aload_n 0, 1) := by decide +kernel
theorem dX11_agrees_5 : decode cX11_agrees 5 = .ok (.getfield 53, 3) := by decide +kernel
theorem dX11_agrees_8 : decode cX11_agrees 8 = .ok (.invokevirtual 142, 3) := by decide +kernel
theorem dX11_agrees_11 : decode cX11_agrees 11 = .ok (.iconst 1, 1) := by decide +kernel
theorem dX11_agrees_12 : decode cX11_agrees 12 = .ok (.istore_n 2, 1) := by decide +kernel
theorem dX11_agrees_13 : decode cX11_agrees 13 = .ok (.iconst 1, 1) := by decide +kernel
theorem dX11_agrees_14 : decode cX11_agrees 14 = .ok (.istore_n 3, 1) := by decide +kernel
theorem dX11_agrees_15 : decode cX11_agrees 15 = .ok (.iload_n 3, 1) := by decide +kernel
theorem dX11_agrees_16 : decode cX11_agrees 16 = .ok (.bipush 9, 2) := by decide +kernel
theorem dX11_agrees_18 : decode cX11_agrees 18 = .ok (.if_icmp .gt 65, 3) := by decide +kernel
theorem dX11_agrees_21 : decode cX11_agrees 21 = .ok (.iload_n 2, 1) := by decide +kernel
theorem dX11_agrees_22 : decode cX11_agrees 22 = .ok (.ifCond .eq 35, 3) := by decide +kernel
theorem dX11_agrees_25 : decode cX11_agrees 25 = .ok (.aload_n 0, 1) := by decide +kernel
theorem dX11_agrees_26 : decode cX11_agrees 26 = .ok (.getfield 56, 3) := by decide +kernel
theorem dX11_agrees_29 : decode cX11_agrees 29 = .ok (.aload_n 0, 1) := by decide +kernel
theorem dX11_agrees_30 : decode cX11_agrees 30 = .ok (.getfield 43, 3) := by decide +kernel
theorem dX11_agrees_33 : decode cX11_agrees 33 = .ok (.getfield 198, 3) := by decide +kernel
theorem dX11_agrees_36 : decode cX11_agrees 36 = .ok (.iload_n 1, 1) := by decide +kernel
theorem dX11_agrees_37 : decode cX11_agrees 37 = .ok (.aaload, 1) := by decide +kernel
theorem dX11_agrees_38 : decode cX11_agrees 38 = .ok (.aload_n 0, 1) := by decide +kernel
theorem dX11_agrees_39 : decode cX11_agrees 39 = .ok (.getfield 43, 3) := by decide +kernel
theorem dX11_agrees_42 : decode cX11_agrees 42 = .ok (.getfield 202, 3) := by decide +kernel
theorem dX11_agrees_45 : decode cX11_agrees 45 = .ok (.iload_n 1, 1) := by decide +kernel
theorem dX11_agrees_46 : decode cX11_agrees 46 = .ok (.iaload, 1) := by decide +kernel
theorem dX11_agrees_47 : decode cX11_agrees 47 = .ok (.invokevirtual 298, 3) := by decide +kernel
theorem dX11_agrees_50 : decode cX11_agrees 50 = .ok (.ifCond .eq 7, 3) := by decide +kernel
theorem dX11_agrees_53 : decode cX11_agrees 53 = .ok (.iconst 1, 1) := by decide +kernel
theorem dX11_agrees_54 : decode cX11_agrees 54 = .ok (.goto 4, 3) := by decide +kernel
theorem dX11_agrees_57 : decode cX11_agrees 57 = .ok (.iconst 0, 1) := by decide +kernel
theorem dX11_agrees_58 : decode cX11_agrees 58 = .ok (.istore_n 2, 1) := by decide +kernel
theorem dX11_agrees_59 : decode cX11_agrees 59 = .ok (.aload_n 0, 1) := by decide +kernel
theorem dX11_agrees_60 : decode cX11_agrees 60 = .ok (.getfield 76, 3) := by decide +kernel
theorem dX11_agrees_63 : decode cX11_agrees 63 = .ok (.iload_n 3, 1) := by decide +kernel
theorem dX11_agrees_64 : decode cX11_agrees 64 = .ok (.iload_n 2, 1) := by decide +kernel
theorem dX11_agrees_65 : decode cX11_agrees 65 = .ok (.aload_n 0, 1) := by decide +kernel
theorem dX11_agrees_66 : decode cX11_agrees 66 = .ok (.getfield 56, 3) := by decide +kernel
theorem dX11_agrees_69 : decode cX11_agrees 69 = .ok (.invokevirtual 338, 3) := by decide +kernel
theorem dX11_agrees_72 : decode cX11_agrees 72 = .ok (.ifCond .ne 5, 3) := by decide +kernel
theorem dX11_agrees_75 : decode cX11_agrees 75 = .ok (.iconst 0, 1) := by decide +kernel
theorem dX11_agrees_76 : decode cX11_agrees 76 = .ok (.ireturn, 1) := by decide +kernel
theorem dX11_agrees_77 : decode cX11_agrees 77 = .ok (.iinc 3 1, 3) := by decide +kernel
theorem dX11_agrees_80 : decode cX11_agrees 80 = .ok (.goto (-65), 3) := by decide +kernel
theorem dX11_agrees_83 : decode cX11_agrees 83 = .ok (.iconst 1, 1) := by decide +kernel
theorem dX11_agrees_84 : decode cX11_agrees 84 = .ok (.ireturn, 1) := by decide +kernel
theorem dX11_amountOf_0 : decode cX11_amountOf 0 = .ok (.iload_n 2, 1) := by decide +kernel
theorem dX11_amountOf_1 : decode cX11_amountOf 1 = .ok (.tableswitch 69 0 3 #[31, 40, 49, 59], 31) := by decide +kernel
theorem dX11_amountOf_32 : decode cX11_amountOf 32 = .ok (.aload_n 0, 1) := by decide +kernel
theorem dX11_amountOf_33 : decode cX11_amountOf 33 = .ok (.getfield 49, 3) := by decide +kernel
theorem dX11_amountOf_36 : decode cX11_amountOf 36 = .ok (.iload_n 1, 1) := by decide +kernel
theorem dX11_amountOf_37 : decode cX11_amountOf 37 = .ok (.invokevirtual 180, 3) := by decide +kernel
theorem dX11_amountOf_40 : decode cX11_amountOf 40 = .ok (.ireturn, 1) := by decide +kernel
theorem dX11_amountOf_41 : decode cX11_amountOf 41 = .ok (.aload_n 0, 1) := by decide +kernel
theorem dX11_amountOf_42 : decode cX11_amountOf 42 = .ok (.getfield 49, 3) := by decide +kernel
theorem dX11_amountOf_45 : decode cX11_amountOf 45 = .ok (.iload_n 1, 1) := by decide +kernel
theorem dX11_amountOf_46 : decode cX11_amountOf 46 = .ok (.invokevirtual 183, 3) := by decide +kernel
theorem dX11_amountOf_49 : decode cX11_amountOf 49 = .ok (.ireturn, 1) := by decide +kernel
theorem dX11_amountOf_50 : decode cX11_amountOf 50 = .ok (.aload_n 0, 1) := by decide +kernel
theorem dX11_amountOf_51 : decode cX11_amountOf 51 = .ok (.getfield 49, 3) := by decide +kernel
theorem dX11_amountOf_54 : decode cX11_amountOf 54 = .ok (.getfield 168, 3) := by decide +kernel
theorem dX11_amountOf_57 : decode cX11_amountOf 57 = .ok (.iload_n 1, 1) := by decide +kernel
theorem dX11_amountOf_58 : decode cX11_amountOf 58 = .ok (.iaload, 1) := by decide +kernel
theorem dX11_amountOf_59 : decode cX11_amountOf 59 = .ok (.ireturn, 1) := by decide +kernel
theorem dX11_amountOf_60 : decode cX11_amountOf 60 = .ok (.aload_n 0, 1) := by decide +kernel
theorem dX11_amountOf_61 : decode cX11_amountOf 61 = .ok (.getfield 49, 3) := by decide +kernel
theorem dX11_amountOf_64 : decode cX11_amountOf 64 = .ok (.getfield 177, 3) := by decide +kernel
theorem dX11_amountOf_67 : decode cX11_amountOf 67 = .ok (.iload_n 1, 1) := by decide +kernel
theorem dX11_amountOf_68 : decode cX11_amountOf 68 = .ok (.iaload, 1) := by decide +kernel
theorem dX11_amountOf_69 : decode cX11_amountOf 69 = .ok (.ireturn, 1) := by decide +kernel
theorem dX11_amountOf_70 : decode cX11_amountOf 70 = .ok (.aload_n 0, 1) := by decide +kernel
theorem dX11_amountOf_71 : decode cX11_amountOf 71 = .ok (.getfield 49, 3) := by decide +kernel
theorem dX11_amountOf_74 : decode cX11_amountOf 74 = .ok (.getfield 171, 3) := by decide +kernel
theorem dX11_amountOf_77 : decode cX11_amountOf 77 = .ok (.iload_n 1, 1) := by decide +kernel
theorem dX11_amountOf_78 : decode cX11_amountOf 78 = .ok (.iaload, 1) := by decide +kernel
theorem dX11_amountOf_79 : decode cX11_amountOf 79 = .ok (.ireturn, 1) := by decide +kernel
theorem dX11_houseWithMost_0 : decode cX11_houseWithMost 0 = .ok (.iconst 0, 1) := by decide +kernel
theorem dX11_houseWithMost_1 : decode cX11_houseWithMost 1 = .ok (.istore_n 2, 1) := by decide +kernel
theorem dX11_houseWithMost_2 : decode cX11_houseWithMost 2 = .ok (.iconst 1, 1) := by decide +kernel
theorem dX11_houseWithMost_3 : decode cX11_houseWithMost 3 = .ok (.istore_n 3, 1) := by decide +kernel
theorem dX11_houseWithMost_4 : decode cX11_houseWithMost 4 = .ok (.iload_n 3, 1) := by decide +kernel
theorem dX11_houseWithMost_5 : decode cX11_houseWithMost 5 = .ok (.aload_n 0, 1) := by decide +kernel
theorem dX11_houseWithMost_6 : decode cX11_houseWithMost 6 = .ok (.getfield 49, 3) := by decide +kernel
theorem dX11_houseWithMost_9 : decode cX11_houseWithMost 9 = .ok (.getfield 154, 3) := by decide +kernel
theorem dX11_houseWithMost_12 : decode cX11_houseWithMost 12 = .ok (.if_icmp .ge 26, 3) := by decide +kernel
theorem dX11_houseWithMost_15 : decode cX11_houseWithMost 15 = .ok (.aload_n 0, 1) := by decide +kernel
theorem dX11_houseWithMost_16 : decode cX11_houseWithMost 16 = .ok (.iload_n 3, 1) := by decide +kernel
theorem dX11_houseWithMost_17 : decode cX11_houseWithMost 17 = .ok (.iload_n 1, 1) := by decide +kernel
theorem dX11_houseWithMost_18 : decode cX11_houseWithMost 18 = .ok (.invokevirtual 378, 3) := by decide +kernel
theorem dX11_houseWithMost_21 : decode cX11_houseWithMost 21 = .ok (.aload_n 0, 1) := by decide +kernel
theorem dX11_houseWithMost_22 : decode cX11_houseWithMost 22 = .ok (.iload_n 2, 1) := by decide +kernel
theorem dX11_houseWithMost_23 : decode cX11_houseWithMost 23 = .ok (.iload_n 1, 1) := by decide +kernel
theorem dX11_houseWithMost_24 : decode cX11_houseWithMost 24 = .ok (.invokevirtual 378, 3) := by decide +kernel
theorem dX11_houseWithMost_27 : decode cX11_houseWithMost 27 = .ok (.if_icmp .le 5, 3) := by decide +kernel
theorem dX11_houseWithMost_30 : decode cX11_houseWithMost 30 = .ok (.iload_n 3, 1) := by decide +kernel
theorem dX11_houseWithMost_31 : decode cX11_houseWithMost 31 = .ok (.istore_n 2, 1) := by decide +kernel
theorem dX11_houseWithMost_32 : decode cX11_houseWithMost 32 = .ok (.iinc 3 1, 3) := by decide +kernel
theorem dX11_houseWithMost_35 : decode cX11_houseWithMost 35 = .ok (.goto (-31), 3) := by decide +kernel
theorem dX11_houseWithMost_38 : decode cX11_houseWithMost 38 = .ok (.iload_n 2, 1) := by decide +kernel
theorem dX11_houseWithMost_39 : decode cX11_houseWithMost 39 = .ok (.ireturn, 1) := by decide +kernel
theorem dX11_isSuch_0 : decode cX11_isSuch 0 = .ok (.aload_n 0, 1) := by decide +kernel
theorem dX11_isSuch_1 : decode cX11_isSuch 1 = .ok (.getfield 49, 3) := by decide +kernel
theorem dX11_isSuch_4 : decode cX11_isSuch 4 = .ok (.iload_n 1, 1) := by decide +kernel
theorem dX11_isSuch_5 : decode cX11_isSuch 5 = .ok (.invokevirtual 180, 3) := by decide +kernel
theorem dX11_isSuch_8 : decode cX11_isSuch 8 = .ok (.ifCond .le 7, 3) := by decide +kernel
theorem dX11_isSuch_11 : decode cX11_isSuch 11 = .ok (.iconst 1, 1) := by decide +kernel
theorem dX11_isSuch_12 : decode cX11_isSuch 12 = .ok (.goto 4, 3) := by decide +kernel
theorem dX11_isSuch_15 : decode cX11_isSuch 15 = .ok (.iconst 0, 1) := by decide +kernel
theorem dX11_isSuch_16 : decode cX11_isSuch 16 = .ok (.istore_n 3, 1) := by decide +kernel
theorem dX11_isSuch_17 : decode cX11_isSuch 17 = .ok (.aload_n 0, 1) := by decide +kernel
theorem dX11_isSuch_18 : decode cX11_isSuch 18 = .ok (.getfield 49, 3) := by decide +kernel
theorem dX11_isSuch_21 : decode cX11_isSuch 21 = .ok (.iload_n 1, 1) := by decide +kernel
theorem dX11_isSuch_22 : decode cX11_isSuch 22 = .ok (.invokevirtual 183, 3) := by decide +kernel
theorem dX11_isSuch_25 : decode cX11_isSuch 25 = .ok (.ifCond .le 7, 3) := by decide +kernel
theorem dX11_isSuch_28 : decode cX11_isSuch 28 = .ok (.iconst 1, 1) := by decide +kernel
theorem dX11_isSuch_29 : decode cX11_isSuch 29 = .ok (.goto 4, 3) := by decide +kernel
theorem dX11_isSuch_32 : decode cX11_isSuch 32 = .ok (.iconst 0, 1) := by decide +kernel
theorem dX11_isSuch_33 : decode cX11_isSuch 33 = .ok (.istore 4, 2) := by decide +kernel
theorem dX11_isSuch_35 : decode cX11_isSuch 35 = .ok (.iload_n 2, 1) := by decide +kernel
theorem dX11_isSuch_36 : decode cX11_isSuch 36 = .ok (.tableswitch 86 7 10 #[32, 47, 62, 77], 32) := by decide +kernel
theorem dX11_isSuch_68 : decode cX11_isSuch 68 = .ok (.iload 4, 2) := by decide +kernel
theorem dX11_isSuch_70 : decode cX11_isSuch 70 = .ok (.ifCond .eq 11, 3) := by decide +kernel
theorem dX11_isSuch_73 : decode cX11_isSuch 73 = .ok (.iload_n 3, 1) := by decide +kernel
theorem dX11_isSuch_74 : decode cX11_isSuch 74 = .ok (.ifCond .ne 7, 3) := by decide +kernel
theorem dX11_isSuch_77 : decode cX11_isSuch 77 = .ok (.iconst 1, 1) := by decide +kernel
theorem dX11_isSuch_78 : decode cX11_isSuch 78 = .ok (.goto 4, 3) := by decide +kernel
theorem dX11_isSuch_81 : decode cX11_isSuch 81 = .ok (.iconst 0, 1) := by decide +kernel
theorem dX11_isSuch_82 : decode cX11_isSuch 82 = .ok (.ireturn, 1) := by decide +kernel
theorem dX11_isSuch_83 : decode cX11_isSuch 83 = .ok (.iload_n 3, 1) := by decide +kernel
theorem dX11_isSuch_84 : decode cX11_isSuch 84 = .ok (.ifCond .eq 12, 3) := by decide +kernel
theorem dX11_isSuch_87 : decode cX11_isSuch 87 = .ok (.iload 4, 2) := by decide +kernel
theorem dX11_isSuch_89 : decode cX11_isSuch 89 = .ok (.ifCond .ne 7, 3) := by decide +kernel
theorem dX11_isSuch_92 : decode cX11_isSuch 92 = .ok (.iconst 1, 1) := by decide +kernel
theorem dX11_isSuch_93 : decode cX11_isSuch 93 = .ok (.goto 4, 3) := by decide +kernel
theorem dX11_isSuch_96 : decode cX11_isSuch 96 = .ok (.iconst 0, 1) := by decide +kernel
theorem dX11_isSuch_97 : decode cX11_isSuch 97 = .ok (.ireturn, 1) := by decide +kernel
theorem dX11_isSuch_98 : decode cX11_isSuch 98 = .ok (.iload_n 3, 1) := by decide +kernel
theorem dX11_isSuch_99 : decode cX11_isSuch 99 = .ok (.ifCond .ne 12, 3) := by decide +kernel
theorem dX11_isSuch_102 : decode cX11_isSuch 102 = .ok (.iload 4, 2) := by decide +kernel
theorem dX11_isSuch_104 : decode cX11_isSuch 104 = .ok (.ifCond .ne 7, 3) := by decide +kernel
theorem dX11_isSuch_107 : decode cX11_isSuch 107 = .ok (.iconst 1, 1) := by decide +kernel
theorem dX11_isSuch_108 : decode cX11_isSuch 108 = .ok (.goto 4, 3) := by decide +kernel
theorem dX11_isSuch_111 : decode cX11_isSuch 111 = .ok (.iconst 0, 1) := by decide +kernel
theorem dX11_isSuch_112 : decode cX11_isSuch 112 = .ok (.ireturn, 1) := by decide +kernel
theorem dX11_isSuch_113 : decode cX11_isSuch 113 = .ok (.aload_n 0, 1) := by decide +kernel
theorem dX11_isSuch_114 : decode cX11_isSuch 114 = .ok (.getfield 49, 3) := by decide +kernel
theorem dX11_isSuch_117 : decode cX11_isSuch 117 = .ok (.iload_n 1, 1) := by decide +kernel
theorem dX11_isSuch_118 : decode cX11_isSuch 118 = .ok (.invokevirtual 174, 3) := by decide +kernel
theorem dX11_isSuch_121 : decode cX11_isSuch 121 = .ok (.ireturn, 1) := by decide +kernel
theorem dX11_isSuch_122 : decode cX11_isSuch 122 = .ok (.aload_n 0, 1) := by decide +kernel
theorem dX11_isSuch_123 : decode cX11_isSuch 123 = .ok (.getfield 49, 3) := by decide +kernel
theorem dX11_isSuch_126 : decode cX11_isSuch 126 = .ok (.iload_n 1, 1) := by decide +kernel
theorem dX11_isSuch_127 : decode cX11_isSuch 127 = .ok (.invokevirtual 232, 3) := by decide +kernel
theorem dX11_isSuch_130 : decode cX11_isSuch 130 = .ok (.ireturn, 1) := by decide +kernel
theorem dX11_housesThatAre_0 : decode cX11_housesThatAre 0 = .ok (.iconst 0, 1) := by decide +kernel
theorem dX11_housesThatAre_1 : decode cX11_housesThatAre 1 = .ok (.istore_n 2, 1) := by decide +kernel
theorem dX11_housesThatAre_2 : decode cX11_housesThatAre 2 = .ok (.iconst 0, 1) := by decide +kernel
theorem dX11_housesThatAre_3 : decode cX11_housesThatAre 3 = .ok (.istore_n 3, 1) := by decide +kernel
theorem dX11_housesThatAre_4 : decode cX11_housesThatAre 4 = .ok (.iload_n 3, 1) := by decide +kernel
theorem dX11_housesThatAre_5 : decode cX11_housesThatAre 5 = .ok (.aload_n 0, 1) := by decide +kernel
theorem dX11_housesThatAre_6 : decode cX11_housesThatAre 6 = .ok (.getfield 49, 3) := by decide +kernel
theorem dX11_housesThatAre_9 : decode cX11_housesThatAre 9 = .ok (.getfield 154, 3) := by decide +kernel
theorem dX11_housesThatAre_12 : decode cX11_housesThatAre 12 = .ok (.if_icmp .ge 24, 3) := by decide +kernel
theorem dX11_housesThatAre_15 : decode cX11_housesThatAre 15 = .ok (.aload_n 0, 1) := by decide +kernel
theorem dX11_housesThatAre_16 : decode cX11_housesThatAre 16 = .ok (.iload_n 3, 1) := by decide +kernel
theorem dX11_housesThatAre_17 : decode cX11_housesThatAre 17 = .ok (.iload_n 1, 1) := by decide +kernel
theorem dX11_housesThatAre_18 : decode cX11_housesThatAre 18 = .ok (.invokevirtual 381, 3) := by decide +kernel
theorem dX11_housesThatAre_21 : decode cX11_housesThatAre 21 = .ok (.ifCond .eq 9, 3) := by decide +kernel
theorem dX11_housesThatAre_24 : decode cX11_housesThatAre 24 = .ok (.iload_n 2, 1) := by decide +kernel
theorem dX11_housesThatAre_25 : decode cX11_housesThatAre 25 = .ok (.iconst 1, 1) := by decide +kernel
theorem dX11_housesThatAre_26 : decode cX11_housesThatAre 26 = .ok (.iload_n 3, 1) := by decide +kernel
theorem dX11_housesThatAre_27 : decode cX11_housesThatAre 27 = .ok (.ishl, 1) := by decide +kernel
theorem dX11_housesThatAre_28 : decode cX11_housesThatAre 28 = .ok (.ior, 1) := by decide +kernel
theorem dX11_housesThatAre_29 : decode cX11_housesThatAre 29 = .ok (.istore_n 2, 1) := by decide +kernel
theorem dX11_housesThatAre_30 : decode cX11_housesThatAre 30 = .ok (.iinc 3 1, 3) := by decide +kernel
theorem dX11_housesThatAre_33 : decode cX11_housesThatAre 33 = .ok (.goto (-29), 3) := by decide +kernel
theorem dX11_housesThatAre_36 : decode cX11_housesThatAre 36 = .ok (.iload_n 2, 1) := by decide +kernel
theorem dX11_housesThatAre_37 : decode cX11_housesThatAre 37 = .ok (.ireturn, 1) := by decide +kernel
theorem dX11_all_0 : decode cX11_all 0 = .ok (.aload_n 0, 1) := by decide +kernel
theorem dX11_all_1 : decode cX11_all 1 = .ok (.getfield 49, 3) := by decide +kernel
theorem dX11_all_4 : decode cX11_all 4 = .ok (.getfield 154, 3) := by decide +kernel
theorem dX11_all_7 : decode cX11_all 7 = .ok (.ifCond .ne 6, 3) := by decide +kernel
theorem dX11_all_10 : decode cX11_all 10 = .ok (.ldc 220, 2) := by decide +kernel
theorem dX11_all_12 : decode cX11_all 12 = .ok (.ireturn, 1) := by decide +kernel
theorem dX11_all_13 : decode cX11_all 13 = .ok (.iload_n 1, 1) := by decide +kernel
theorem dX11_all_14 : decode cX11_all 14 = .ok (.ifCond .lt 14, 3) := by decide +kernel
theorem dX11_all_17 : decode cX11_all 17 = .ok (.iload_n 1, 1) := by decide +kernel
theorem dX11_all_18 : decode cX11_all 18 = .ok (.iconst 4, 1) := by decide +kernel
theorem dX11_all_19 : decode cX11_all 19 = .ok (.if_icmp .gt 9, 3) := by decide +kernel
theorem dX11_all_22 : decode cX11_all 22 = .ok (.aload_n 0, 1) := by decide +kernel
theorem dX11_all_23 : decode cX11_all 23 = .ok (.iload_n 1, 1) := by decide +kernel
theorem dX11_all_24 : decode cX11_all 24 = .ok (.invokevirtual 366, 3) := by decide +kernel
theorem dX11_all_27 : decode cX11_all 27 = .ok (.ireturn, 1) := by decide +kernel
theorem dX11_all_28 : decode cX11_all 28 = .ok (.iload_n 1, 1) := by decide +kernel
theorem dX11_all_29 : decode cX11_all 29 = .ok (.bipush 7, 2) := by decide +kernel
theorem dX11_all_31 : decode cX11_all 31 = .ok (.if_icmp .lt 15, 3) := by decide +kernel
theorem dX11_all_34 : decode cX11_all 34 = .ok (.iload_n 1, 1) := by decide +kernel
theorem dX11_all_35 : decode cX11_all 35 = .ok (.bipush 11, 2) := by decide +kernel
theorem dX11_all_37 : decode cX11_all 37 = .ok (.if_icmp .gt 9, 3) := by decide +kernel
theorem dX11_all_40 : decode cX11_all 40 = .ok (.aload_n 0, 1) := by decide +kernel
theorem dX11_all_41 : decode cX11_all 41 = .ok (.iload_n 1, 1) := by decide +kernel
theorem dX11_all_42 : decode cX11_all 42 = .ok (.invokevirtual 369, 3) := by decide +kernel
theorem dX11_all_45 : decode cX11_all 45 = .ok (.ireturn, 1) := by decide +kernel
theorem dX11_all_46 : decode cX11_all 46 = .ok (.iload_n 1, 1) := by decide +kernel
theorem dX11_all_47 : decode cX11_all 47 = .ok (.tableswitch 81 5 13 #[49, 57, 81, 81, 81, 81, 81, 65, 73], 49) := by decide +kernel
theorem dX11_all_96 : decode cX11_all 96 = .ok (.aload_n 0, 1) := by decide +kernel
theorem dX11_all_97 : decode cX11_all 97 = .ok (.getfield 49, 3) := by decide +kernel
theorem dX11_all_100 : decode cX11_all 100 = .ok (.invokevirtual 247, 3) := by decide +kernel
theorem dX11_all_103 : decode cX11_all 103 = .ok (.ireturn, 1) := by decide +kernel
theorem dX11_all_104 : decode cX11_all 104 = .ok (.aload_n 0, 1) := by decide +kernel
theorem dX11_all_105 : decode cX11_all 105 = .ok (.getfield 49, 3) := by decide +kernel
theorem dX11_all_108 : decode cX11_all 108 = .ok (.invokevirtual 372, 3) := by decide +kernel
theorem dX11_all_111 : decode cX11_all 111 = .ok (.ireturn, 1) := by decide +kernel
theorem dX11_all_112 : decode cX11_all 112 = .ok (.aload_n 0, 1) := by decide +kernel
theorem dX11_all_113 : decode cX11_all 113 = .ok (.getfield 49, 3) := by decide +kernel
theorem dX11_all_116 : decode cX11_all 116 = .ok (.invokevirtual 250, 3) := by decide +kernel
theorem dX11_all_119 : decode cX11_all 119 = .ok (.ireturn, 1) := by decide +kernel
theorem dX11_all_120 : decode cX11_all 120 = .ok (.aload_n 0, 1) := by decide +kernel
theorem dX11_all_121 : decode cX11_all 121 = .ok (.getfield 49, 3) := by decide +kernel
theorem dX11_all_124 : decode cX11_all 124 = .ok (.invokevirtual 375, 3) := by decide +kernel
theorem dX11_all_127 : decode cX11_all 127 = .ok (.ireturn, 1) := by decide +kernel
theorem dX11_all_128 : decode cX11_all 128 = .ok (.ldc 220, 2) := by decide +kernel
theorem dX11_all_130 : decode cX11_all 130 = .ok (.ireturn, 1) := by decide +kernel
theorem dX11_append_0 : decode cX11_append 0 = .ok (.bipush 24, 2) := by decide +kernel
theorem dX11_append_2 : decode cX11_append 2 = .ok (.istore_n 2, 1) := by decide +kernel
theorem dX11_append_3 : decode cX11_append 3 = .ok (.iload_n 2, 1) := by decide +kernel
theorem dX11_append_4 : decode cX11_append 4 = .ok (.ifCond .lt 51, 3) := by decide +kernel
theorem dX11_append_7 : decode cX11_append 7 = .ok (.iload_n 1, 1) := by decide +kernel
theorem dX11_append_8 : decode cX11_append 8 = .ok (.iload_n 2, 1) := by decide +kernel
theorem dX11_append_9 : decode cX11_append 9 = .ok (.iushr, 1) := by decide +kernel
theorem dX11_append_10 : decode cX11_append 10 = .ok (.sipush 255, 3) := by decide +kernel
theorem dX11_append_13 : decode cX11_append 13 = .ok (.iand, 1) := by decide +kernel
theorem dX11_append_14 : decode cX11_append 14 = .ok (.istore_n 3, 1) := by decide +kernel
theorem dX11_append_15 : decode cX11_append 15 = .ok (.iload_n 3, 1) := by decide +kernel
theorem dX11_append_16 : decode cX11_append 16 = .ok (.ifCond .eq 33, 3) := by decide +kernel
theorem dX11_append_19 : decode cX11_append 19 = .ok (.aload_n 0, 1) := by decide +kernel
theorem dX11_append_20 : decode cX11_append 20 = .ok (.getfield 100, 3) := by decide +kernel
theorem dX11_append_23 : decode cX11_append 23 = .ok (.sipush 240, 3) := by decide +kernel
theorem dX11_append_26 : decode cX11_append 26 = .ok (.if_icmp .ge 23, 3) := by decide +kernel
theorem dX11_append_29 : decode cX11_append 29 = .ok (.aload_n 0, 1) := by decide +kernel
theorem dX11_append_30 : decode cX11_append 30 = .ok (.getfield 9, 3) := by decide +kernel
theorem dX11_append_33 : decode cX11_append 33 = .ok (.aload_n 0, 1) := by decide +kernel
theorem dX11_append_34 : decode cX11_append 34 = .ok (.getfield 100, 3) := by decide +kernel
theorem dX11_append_37 : decode cX11_append 37 = .ok (.iload_n 3, 1) := by decide +kernel
theorem dX11_append_38 : decode cX11_append 38 = .ok (.iastore, 1) := by decide +kernel
theorem dX11_append_39 : decode cX11_append 39 = .ok (.aload_n 0, 1) := by decide +kernel
theorem dX11_append_40 : decode cX11_append 40 = .ok (.dup, 1) := by decide +kernel
theorem dX11_append_41 : decode cX11_append 41 = .ok (.getfield 100, 3) := by decide +kernel
theorem dX11_append_44 : decode cX11_append 44 = .ok (.iconst 1, 1) := by decide +kernel
theorem dX11_append_45 : decode cX11_append 45 = .ok (.iadd, 1) := by decide +kernel
theorem dX11_append_46 : decode cX11_append 46 = .ok (.putfield 100, 3) := by decide +kernel
theorem dX11_append_49 : decode cX11_append 49 = .ok (.iinc 2 (-8), 3) := by decide +kernel
theorem dX11_append_52 : decode cX11_append 52 = .ok (.goto (-49), 3) := by decide +kernel
theorem dX11_append_55 : decode cX11_append 55 = .ok (.return_, 1) := by decide +kernel
theorem dX11_fits_0 : decode cX11_fits 0 = .ok (.aload_n 0, 1) := by decide +kernel
theorem dX11_fits_1 : decode cX11_fits 1 = .ok (.getfield 49, 3) := by decide +kernel
theorem dX11_fits_4 : decode cX11_fits 4 = .ok (.getfield 154, 3) := by decide +kernel
theorem dX11_fits_7 : decode cX11_fits 7 = .ok (.ifCond .ne 5, 3) := by decide +kernel
theorem dX11_fits_10 : decode cX11_fits 10 = .ok (.iconst (-1), 1) := by decide +kernel
theorem dX11_fits_11 : decode cX11_fits 11 = .ok (.ireturn, 1) := by decide +kernel
theorem dX11_fits_12 : decode cX11_fits 12 = .ok (.iconst 0, 1) := by decide +kernel
theorem dX11_fits_13 : decode cX11_fits 13 = .ok (.istore_n 1, 1) := by decide +kernel
theorem dX11_fits_14 : decode cX11_fits 14 = .ok (.iconst 0, 1) := by decide +kernel
theorem dX11_fits_15 : decode cX11_fits 15 = .ok (.istore_n 2, 1) := by decide +kernel
theorem dX11_fits_16 : decode cX11_fits 16 = .ok (.iload_n 2, 1) := by decide +kernel
theorem dX11_fits_17 : decode cX11_fits 17 = .ok (.aload_n 0, 1) := by decide +kernel
theorem dX11_fits_18 : decode cX11_fits 18 = .ok (.getfield 43, 3) := by decide +kernel
theorem dX11_fits_21 : decode cX11_fits 21 = .ok (.getfield 191, 3) := by decide +kernel
theorem dX11_fits_24 : decode cX11_fits 24 = .ok (.if_icmp .ge 23, 3) := by decide +kernel
theorem dX11_fits_27 : decode cX11_fits 27 = .ok (.aload_n 0, 1) := by decide +kernel
theorem dX11_fits_28 : decode cX11_fits 28 = .ok (.iload_n 2, 1) := by decide +kernel
theorem dX11_fits_29 : decode cX11_fits 29 = .ok (.invokevirtual 335, 3) := by decide +kernel
theorem dX11_fits_32 : decode cX11_fits 32 = .ok (.ifCond .eq 9, 3) := by decide +kernel
theorem dX11_fits_35 : decode cX11_fits 35 = .ok (.iload_n 1, 1) := by decide +kernel
theorem dX11_fits_36 : decode cX11_fits 36 = .ok (.iconst 1, 1) := by decide +kernel
theorem dX11_fits_37 : decode cX11_fits 37 = .ok (.iload_n 2, 1) := by decide +kernel
theorem dX11_fits_38 : decode cX11_fits 38 = .ok (.ishl, 1) := by decide +kernel
theorem dX11_fits_39 : decode cX11_fits 39 = .ok (.ior, 1) := by decide +kernel
theorem dX11_fits_40 : decode cX11_fits 40 = .ok (.istore_n 1, 1) := by decide +kernel
theorem dX11_fits_41 : decode cX11_fits 41 = .ok (.iinc 2 1, 3) := by decide +kernel
theorem dX11_fits_44 : decode cX11_fits 44 = .ok (.goto (-28), 3) := by decide +kernel
theorem dX11_fits_47 : decode cX11_fits 47 = .ok (.iload_n 1, 1) := by decide +kernel
theorem dX11_fits_48 : decode cX11_fits 48 = .ok (.ireturn, 1) := by decide +kernel
theorem dX11_foretell_0 : decode cX11_foretell 0 = .ok (.aload_n 0, 1) := by decide +kernel
theorem dX11_foretell_1 : decode cX11_foretell 1 = .ok (.getfield 56, 3) := by decide +kernel
theorem dX11_foretell_4 : decode cX11_foretell 4 = .ok (.aload_n 0, 1) := by decide +kernel
theorem dX11_foretell_5 : decode cX11_foretell 5 = .ok (.getfield 53, 3) := by decide +kernel
theorem dX11_foretell_8 : decode cX11_foretell 8 = .ok (.invokevirtual 142, 3) := by decide +kernel
theorem dX11_foretell_11 : decode cX11_foretell 11 = .ok (.iconst 1, 1) := by decide +kernel
theorem dX11_foretell_12 : decode cX11_foretell 12 = .ok (.istore 4, 2) := by decide +kernel
theorem dX11_foretell_14 : decode cX11_foretell 14 = .ok (.iconst 1, 1) := by decide +kernel
theorem dX11_foretell_15 : decode cX11_foretell 15 = .ok (.istore 5, 2) := by decide +kernel
theorem dX11_foretell_17 : decode cX11_foretell 17 = .ok (.iload 5, 2) := by decide +kernel
theorem dX11_foretell_19 : decode cX11_foretell 19 = .ok (.bipush 9, 2) := by decide +kernel
theorem dX11_foretell_21 : decode cX11_foretell 21 = .ok (.if_icmp .gt 80, 3) := by decide +kernel
theorem dX11_foretell_24 : decode cX11_foretell 24 = .ok (.iload 4, 2) := by decide +kernel
theorem dX11_foretell_26 : decode cX11_foretell 26 = .ok (.ifCond .eq 35, 3) := by decide +kernel
theorem dX11_foretell_29 : decode cX11_foretell 29 = .ok (.aload_n 0, 1) := by decide +kernel
theorem dX11_foretell_30 : decode cX11_foretell 30 = .ok (.getfield 56, 3) := by decide +kernel
theorem dX11_foretell_33 : decode cX11_foretell 33 = .ok (.aload_n 0, 1) := by decide +kernel
theorem dX11_foretell_34 : decode cX11_foretell 34 = .ok (.getfield 43, 3) := by decide +kernel
theorem dX11_foretell_37 : decode cX11_foretell 37 = .ok (.getfield 198, 3) := by decide +kernel
theorem dX11_foretell_40 : decode cX11_foretell 40 = .ok (.iload_n 1, 1) := by decide +kernel
theorem dX11_foretell_41 : decode cX11_foretell 41 = .ok (.aaload, 1) := by decide +kernel
theorem dX11_foretell_42 : decode cX11_foretell 42 = .ok (.aload_n 0, 1) := by decide +kernel
theorem dX11_foretell_43 : decode cX11_foretell 43 = .ok (.getfield 43, 3) := by decide +kernel
theorem dX11_foretell_46 : decode cX11_foretell 46 = .ok (.getfield 202, 3) := by decide +kernel
theorem dX11_foretell_49 : decode cX11_foretell 49 = .ok (.iload_n 1, 1) := by decide +kernel
theorem dX11_foretell_50 : decode cX11_foretell 50 = .ok (.iaload, 1) := by decide +kernel
theorem dX11_foretell_51 : decode cX11_foretell 51 = .ok (.invokevirtual 298, 3) := by decide +kernel
theorem dX11_foretell_54 : decode cX11_foretell 54 = .ok (.ifCond .eq 7, 3) := by decide +kernel
theorem dX11_foretell_57 : decode cX11_foretell 57 = .ok (.iconst 1, 1) := by decide +kernel
theorem dX11_foretell_58 : decode cX11_foretell 58 = .ok (.goto 4, 3) := by decide +kernel
theorem dX11_foretell_61 : decode cX11_foretell 61 = .ok (.iconst 0, 1) := by decide +kernel
theorem dX11_foretell_62 : decode cX11_foretell 62 = .ok (.istore 4, 2) := by decide +kernel
theorem dX11_foretell_64 : decode cX11_foretell 64 = .ok (.aload_n 0, 1) := by decide +kernel
theorem dX11_foretell_65 : decode cX11_foretell 65 = .ok (.getfield 76, 3) := by decide +kernel
theorem dX11_foretell_68 : decode cX11_foretell 68 = .ok (.getfield 351, 3) := by decide +kernel
theorem dX11_foretell_71 : decode cX11_foretell 71 = .ok (.iload_n 1, 1) := by decide +kernel
theorem dX11_foretell_72 : decode cX11_foretell 72 = .ok (.aaload, 1) := by decide +kernel
theorem dX11_foretell_73 : decode cX11_foretell 73 = .ok (.iload 5, 2) := by decide +kernel
theorem dX11_foretell_75 : decode cX11_foretell 75 = .ok (.iload 4, 2) := by decide +kernel
theorem dX11_foretell_77 : decode cX11_foretell 77 = .ok (.ifCond .eq 15, 3) := by decide +kernel
theorem dX11_foretell_80 : decode cX11_foretell 80 = .ok (.aload_n 0, 1) := by decide +kernel
theorem dX11_foretell_81 : decode cX11_foretell 81 = .ok (.getfield 56, 3) := by decide +kernel
theorem dX11_foretell_84 : decode cX11_foretell 84 = .ok (.iload_n 2, 1) := by decide +kernel
theorem dX11_foretell_85 : decode cX11_foretell 85 = .ok (.iload_n 3, 1) := by decide +kernel
theorem dX11_foretell_86 : decode cX11_foretell 86 = .ok (.invokevirtual 217, 3) := by decide +kernel
theorem dX11_foretell_89 : decode cX11_foretell 89 = .ok (.goto 5, 3) := by decide +kernel
theorem dX11_foretell_92 : decode cX11_foretell 92 = .ok (.ldc 220, 2) := by decide +kernel
theorem dX11_foretell_94 : decode cX11_foretell 94 = .ok (.iastore, 1) := by decide +kernel
theorem dX11_foretell_95 : decode cX11_foretell 95 = .ok (.iinc 5 1, 3) := by decide +kernel
theorem dX11_foretell_98 : decode cX11_foretell 98 = .ok (.goto (-81), 3) := by decide +kernel
theorem dX11_foretell_101 : decode cX11_foretell 101 = .ok (.return_, 1) := by decide +kernel
theorem dX11_ask_0 : decode cX11_ask 0 = .ok (.aload_n 0, 1) := by decide +kernel
theorem dX11_ask_1 : decode cX11_ask 1 = .ok (.getfield 49, 3) := by decide +kernel
theorem dX11_ask_4 : decode cX11_ask 4 = .ok (.iload_n 1, 1) := by decide +kernel
theorem dX11_ask_5 : decode cX11_ask 5 = .ok (.invokevirtual 157, 3) := by decide +kernel
theorem dX11_ask_8 : decode cX11_ask 8 = .ok (.ifCond .eq 19, 3) := by decide +kernel
theorem dX11_ask_11 : decode cX11_ask 11 = .ok (.aload_n 0, 1) := by decide +kernel
theorem dX11_ask_12 : decode cX11_ask 12 = .ok (.getfield 49, 3) := by decide +kernel
theorem dX11_ask_15 : decode cX11_ask 15 = .ok (.iload_n 2, 1) := by decide +kernel
theorem dX11_ask_16 : decode cX11_ask 16 = .ok (.invokevirtual 157, 3) := by decide +kernel
theorem dX11_ask_19 : decode cX11_ask 19 = .ok (.ifCond .eq 8, 3) := by decide +kernel
theorem dX11_ask_22 : decode cX11_ask 22 = .ok (.iload_n 1, 1) := by decide +kernel
theorem dX11_ask_23 : decode cX11_ask 23 = .ok (.iload_n 2, 1) := by decide +kernel
theorem dX11_ask_24 : decode cX11_ask 24 = .ok (.if_icmp .ne 5, 3) := by decide +kernel
theorem dX11_ask_27 : decode cX11_ask 27 = .ok (.iconst (-1), 1) := by decide +kernel
theorem dX11_ask_28 : decode cX11_ask 28 = .ok (.ireturn, 1) := by decide +kernel
theorem dX11_ask_29 : decode cX11_ask 29 = .ok (.aload_n 0, 1) := by decide +kernel
theorem dX11_ask_30 : decode cX11_ask 30 = .ok (.invokevirtual 342, 3) := by decide +kernel
theorem dX11_ask_33 : decode cX11_ask 33 = .ok (.istore_n 3, 1) := by decide +kernel
theorem dX11_ask_34 : decode cX11_ask 34 = .ok (.iload_n 3, 1) := by decide +kernel
theorem dX11_ask_35 : decode cX11_ask 35 = .ok (.ifCond .gt 5, 3) := by decide +kernel
theorem dX11_ask_38 : decode cX11_ask 38 = .ok (.iconst (-1), 1) := by decide +kernel
theorem dX11_ask_39 : decode cX11_ask 39 = .ok (.ireturn, 1) := by decide +kernel
theorem dX11_ask_40 : decode cX11_ask 40 = .ok (.iconst 0, 1) := by decide +kernel
theorem dX11_ask_41 : decode cX11_ask 41 = .ok (.istore 4, 2) := by decide +kernel
theorem dX11_ask_43 : decode cX11_ask 43 = .ok (.iload 4, 2) := by decide +kernel
theorem dX11_ask_45 : decode cX11_ask 45 = .ok (.aload_n 0, 1) := by decide +kernel
theorem dX11_ask_46 : decode cX11_ask 46 = .ok (.getfield 43, 3) := by decide +kernel
theorem dX11_ask_49 : decode cX11_ask 49 = .ok (.getfield 191, 3) := by decide +kernel
theorem dX11_ask_52 : decode cX11_ask 52 = .ok (.if_icmp .ge 17, 3) := by decide +kernel
theorem dX11_ask_55 : decode cX11_ask 55 = .ok (.aload_n 0, 1) := by decide +kernel
theorem dX11_ask_56 : decode cX11_ask 56 = .ok (.iload 4, 2) := by decide +kernel
theorem dX11_ask_58 : decode cX11_ask 58 = .ok (.iload_n 1, 1) := by decide +kernel
theorem dX11_ask_59 : decode cX11_ask 59 = .ok (.iload_n 2, 1) := by decide +kernel
theorem dX11_ask_60 : decode cX11_ask 60 = .ok (.invokevirtual 345, 3) := by decide +kernel
theorem dX11_ask_63 : decode cX11_ask 63 = .ok (.iinc 4 1, 3) := by decide +kernel
theorem dX11_ask_66 : decode cX11_ask 66 = .ok (.goto (-23), 3) := by decide +kernel
theorem dX11_ask_69 : decode cX11_ask 69 = .ok (.iconst (-1), 1) := by decide +kernel
theorem dX11_ask_70 : decode cX11_ask 70 = .ok (.istore 4, 2) := by decide +kernel
theorem dX11_ask_72 : decode cX11_ask 72 = .ok (.iconst 5, 1) := by decide +kernel
theorem dX11_ask_73 : decode cX11_ask 73 = .ok (.istore 5, 2) := by decide +kernel
theorem dX11_ask_75 : decode cX11_ask 75 = .ok (.iconst 1, 1) := by decide +kernel
theorem dX11_ask_76 : decode cX11_ask 76 = .ok (.istore 6, 2) := by decide +kernel
theorem dX11_ask_78 : decode cX11_ask 78 = .ok (.iload 6, 2) := by decide +kernel
theorem dX11_ask_80 : decode cX11_ask 80 = .ok (.bipush 9, 2) := by decide +kernel
theorem dX11_ask_82 : decode cX11_ask 82 = .ok (.if_icmp .gt 36, 3) := by decide +kernel
theorem dX11_ask_85 : decode cX11_ask 85 = .ok (.aload_n 0, 1) := by decide +kernel
theorem dX11_ask_86 : decode cX11_ask 86 = .ok (.getfield 76, 3) := by decide +kernel
theorem dX11_ask_89 : decode cX11_ask 89 = .ok (.iload_n 3, 1) := by decide +kernel
theorem dX11_ask_90 : decode cX11_ask 90 = .ok (.iload 6, 2) := by decide +kernel
theorem dX11_ask_92 : decode cX11_ask 92 = .ok (.invokevirtual 348, 3) := by decide +kernel
theorem dX11_ask_95 : decode cX11_ask 95 = .ok (.istore 7, 2) := by decide +kernel
theorem dX11_ask_97 : decode cX11_ask 97 = .ok (.iload 7, 2) := by decide +kernel
theorem dX11_ask_99 : decode cX11_ask 99 = .ok (.iload 5, 2) := by decide +kernel
theorem dX11_ask_101 : decode cX11_ask 101 = .ok (.if_icmp .ge 11, 3) := by decide +kernel
theorem dX11_ask_104 : decode cX11_ask 104 = .ok (.iload 7, 2) := by decide +kernel
theorem dX11_ask_106 : decode cX11_ask 106 = .ok (.istore 5, 2) := by decide +kernel
theorem dX11_ask_108 : decode cX11_ask 108 = .ok (.iload 6, 2) := by decide +kernel
theorem dX11_ask_110 : decode cX11_ask 110 = .ok (.istore 4, 2) := by decide +kernel
theorem dX11_ask_112 : decode cX11_ask 112 = .ok (.iinc 6 1, 3) := by decide +kernel
theorem dX11_ask_115 : decode cX11_ask 115 = .ok (.goto (-37), 3) := by decide +kernel
theorem dX11_ask_118 : decode cX11_ask 118 = .ok (.iload 4, 2) := by decide +kernel
theorem dX11_ask_120 : decode cX11_ask 120 = .ok (.ireturn, 1) := by decide +kernel
theorem dX11_back_0 : decode cX11_back 0 = .ok (.aload_n 0, 1) := by decide +kernel
theorem dX11_back_1 : decode cX11_back 1 = .ok (.getfield 69, 3) := by decide +kernel
theorem dX11_back_4 : decode cX11_back 4 = .ok (.aload_n 0, 1) := by decide +kernel
theorem dX11_back_5 : decode cX11_back 5 = .ok (.getfield 49, 3) := by decide +kernel
theorem dX11_back_8 : decode cX11_back 8 = .ok (.aload_n 0, 1) := by decide +kernel
theorem dX11_back_9 : decode cX11_back 9 = .ok (.getfield 62, 3) := by decide +kernel
theorem dX11_back_12 : decode cX11_back 12 = .ok (.invokevirtual 388, 3) := by decide +kernel
theorem dX11_back_15 : decode cX11_back 15 = .ok (.ifCond .eq 13, 3) := by decide +kernel
theorem dX11_back_18 : decode cX11_back 18 = .ok (.aload_n 0, 1) := by decide +kernel
theorem dX11_back_19 : decode cX11_back 19 = .ok (.getfield 49, 3) := by decide +kernel
theorem dX11_back_22 : decode cX11_back 22 = .ok (.getfield 195, 3) := by decide +kernel
theorem dX11_back_25 : decode cX11_back 25 = .ok (.goto 4, 3) := by decide +kernel
theorem dX11_back_28 : decode cX11_back 28 = .ok (.iconst (-1), 1) := by decide +kernel
theorem dX11_back_29 : decode cX11_back 29 = .ok (.ireturn, 1) := by decide +kernel
theorem dX11_bytesIn_0 : decode cX11_bytesIn 0 = .ok (.iconst 0, 1) := by decide +kernel
theorem dX11_bytesIn_1 : decode cX11_bytesIn 1 = .ok (.istore_n 1, 1) := by decide +kernel
theorem dX11_bytesIn_2 : decode cX11_bytesIn 2 = .ok (.bipush 24, 2) := by decide +kernel
theorem dX11_bytesIn_4 : decode cX11_bytesIn 4 = .ok (.istore_n 2, 1) := by decide +kernel
theorem dX11_bytesIn_5 : decode cX11_bytesIn 5 = .ok (.iload_n 2, 1) := by decide +kernel
theorem dX11_bytesIn_6 : decode cX11_bytesIn 6 = .ok (.ifCond .lt 22, 3) := by decide +kernel
theorem dX11_bytesIn_9 : decode cX11_bytesIn 9 = .ok (.iload_n 0, 1) := by decide +kernel
theorem dX11_bytesIn_10 : decode cX11_bytesIn 10 = .ok (.iload_n 2, 1) := by decide +kernel
theorem dX11_bytesIn_11 : decode cX11_bytesIn 11 = .ok (.iushr, 1) := by decide +kernel
theorem dX11_bytesIn_12 : decode cX11_bytesIn 12 = .ok (.sipush 255, 3) := by decide +kernel
theorem dX11_bytesIn_15 : decode cX11_bytesIn 15 = .ok (.iand, 1) := by decide +kernel
theorem dX11_bytesIn_16 : decode cX11_bytesIn 16 = .ok (.ifCond .eq 6, 3) := by decide +kernel
theorem dX11_bytesIn_19 : decode cX11_bytesIn 19 = .ok (.iinc 1 1, 3) := by decide +kernel
theorem dX11_bytesIn_22 : decode cX11_bytesIn 22 = .ok (.iinc 2 (-8), 3) := by decide +kernel
theorem dX11_bytesIn_25 : decode cX11_bytesIn 25 = .ok (.goto (-20), 3) := by decide +kernel
theorem dX11_bytesIn_28 : decode cX11_bytesIn 28 = .ok (.iload_n 1, 1) := by decide +kernel
theorem dX11_bytesIn_29 : decode cX11_bytesIn 29 = .ok (.ireturn, 1) := by decide +kernel
theorem dX11_placeFits_0 : decode cX11_placeFits 0 = .ok (.iconst 0, 1) := by decide +kernel
theorem dX11_placeFits_1 : decode cX11_placeFits 1 = .ok (.istore_n 3, 1) := by decide +kernel
theorem dX11_placeFits_2 : decode cX11_placeFits 2 = .ok (.iload_n 3, 1) := by decide +kernel
theorem dX11_placeFits_3 : decode cX11_placeFits 3 = .ok (.iload_n 1, 1) := by decide +kernel
theorem dX11_placeFits_4 : decode cX11_placeFits 4 = .ok (.if_icmp .ge 37, 3) := by decide +kernel
theorem dX11_placeFits_7 : decode cX11_placeFits 7 = .ok (.aload_n 0, 1) := by decide +kernel
theorem dX11_placeFits_8 : decode cX11_placeFits 8 = .ok (.getfield 56, 3) := by decide +kernel
theorem dX11_placeFits_11 : decode cX11_placeFits 11 = .ok (.iload_n 2, 1) := by decide +kernel
theorem dX11_placeFits_12 : decode cX11_placeFits 12 = .ok (.aload_n 0, 1) := by decide +kernel
theorem dX11_placeFits_13 : decode cX11_placeFits 13 = .ok (.getfield 97, 3) := by decide +kernel
theorem dX11_placeFits_16 : decode cX11_placeFits 16 = .ok (.iload_n 3, 1) := by decide +kernel
theorem dX11_placeFits_17 : decode cX11_placeFits 17 = .ok (.iaload, 1) := by decide +kernel
theorem dX11_placeFits_18 : decode cX11_placeFits 18 = .ok (.invokevirtual 217, 3) := by decide +kernel
theorem dX11_placeFits_21 : decode cX11_placeFits 21 = .ok (.aload_n 0, 1) := by decide +kernel
theorem dX11_placeFits_22 : decode cX11_placeFits 22 = .ok (.getfield 49, 3) := by decide +kernel
theorem dX11_placeFits_25 : decode cX11_placeFits 25 = .ok (.iload_n 1, 1) := by decide +kernel
theorem dX11_placeFits_26 : decode cX11_placeFits 26 = .ok (.iload_n 3, 1) := by decide +kernel
theorem dX11_placeFits_27 : decode cX11_placeFits 27 = .ok (.invokevirtual 217, 3) := by decide +kernel
theorem dX11_placeFits_30 : decode cX11_placeFits 30 = .ok (.if_icmp .eq 5, 3) := by decide +kernel
theorem dX11_placeFits_33 : decode cX11_placeFits 33 = .ok (.iconst 0, 1) := by decide +kernel
theorem dX11_placeFits_34 : decode cX11_placeFits 34 = .ok (.ireturn, 1) := by decide +kernel
theorem dX11_placeFits_35 : decode cX11_placeFits 35 = .ok (.iinc 3 1, 3) := by decide +kernel
theorem dX11_placeFits_38 : decode cX11_placeFits 38 = .ok (.goto (-36), 3) := by decide +kernel
theorem dX11_placeFits_41 : decode cX11_placeFits 41 = .ok (.iconst 1, 1) := by decide +kernel
theorem dX11_placeFits_42 : decode cX11_placeFits 42 = .ok (.ireturn, 1) := by decide +kernel
theorem dX11_canPlace_0 : decode cX11_canPlace 0 = .ok (.iload_n 1, 1) := by decide +kernel
theorem dX11_canPlace_1 : decode cX11_canPlace 1 = .ok (.ifCond .lt 14, 3) := by decide +kernel
theorem dX11_canPlace_4 : decode cX11_canPlace 4 = .ok (.iload_n 1, 1) := by decide +kernel
theorem dX11_canPlace_5 : decode cX11_canPlace 5 = .ok (.aload_n 0, 1) := by decide +kernel
theorem dX11_canPlace_6 : decode cX11_canPlace 6 = .ok (.getfield 49, 3) := by decide +kernel
theorem dX11_canPlace_9 : decode cX11_canPlace 9 = .ok (.getfield 154, 3) := by decide +kernel
theorem dX11_canPlace_12 : decode cX11_canPlace 12 = .ok (.if_icmp .lt 5, 3) := by decide +kernel
theorem dX11_canPlace_15 : decode cX11_canPlace 15 = .ok (.iconst 1, 1) := by decide +kernel
theorem dX11_canPlace_16 : decode cX11_canPlace 16 = .ok (.ireturn, 1) := by decide +kernel
theorem dX11_canPlace_17 : decode cX11_canPlace 17 = .ok (.iconst 0, 1) := by decide +kernel
theorem dX11_canPlace_18 : decode cX11_canPlace 18 = .ok (.istore_n 3, 1) := by decide +kernel
theorem dX11_canPlace_19 : decode cX11_canPlace 19 = .ok (.iload_n 3, 1) := by decide +kernel
theorem dX11_canPlace_20 : decode cX11_canPlace 20 = .ok (.aload_n 0, 1) := by decide +kernel
theorem dX11_canPlace_21 : decode cX11_canPlace 21 = .ok (.getfield 49, 3) := by decide +kernel
theorem dX11_canPlace_24 : decode cX11_canPlace 24 = .ok (.getfield 154, 3) := by decide +kernel
theorem dX11_canPlace_27 : decode cX11_canPlace 27 = .ok (.if_icmp .ge 50, 3) := by decide +kernel
theorem dX11_canPlace_30 : decode cX11_canPlace 30 = .ok (.iload_n 2, 1) := by decide +kernel
theorem dX11_canPlace_31 : decode cX11_canPlace 31 = .ok (.iload_n 3, 1) := by decide +kernel
theorem dX11_canPlace_32 : decode cX11_canPlace 32 = .ok (.ishr, 1) := by decide +kernel
theorem dX11_canPlace_33 : decode cX11_canPlace 33 = .ok (.iconst 1, 1) := by decide +kernel
theorem dX11_canPlace_34 : decode cX11_canPlace 34 = .ok (.iand, 1) := by decide +kernel
theorem dX11_canPlace_35 : decode cX11_canPlace 35 = .ok (.ifCond .ne 36, 3) := by decide +kernel
theorem dX11_canPlace_38 : decode cX11_canPlace 38 = .ok (.aload_n 0, 1) := by decide +kernel
theorem dX11_canPlace_39 : decode cX11_canPlace 39 = .ok (.iload_n 1, 1) := by decide +kernel
theorem dX11_canPlace_40 : decode cX11_canPlace 40 = .ok (.iload_n 3, 1) := by decide +kernel
theorem dX11_canPlace_41 : decode cX11_canPlace 41 = .ok (.invokevirtual 311, 3) := by decide +kernel
theorem dX11_canPlace_44 : decode cX11_canPlace 44 = .ok (.ifCond .eq 27, 3) := by decide +kernel
theorem dX11_canPlace_47 : decode cX11_canPlace 47 = .ok (.aload_n 0, 1) := by decide +kernel
theorem dX11_canPlace_48 : decode cX11_canPlace 48 = .ok (.getfield 97, 3) := by decide +kernel
theorem dX11_canPlace_51 : decode cX11_canPlace 51 = .ok (.iload_n 1, 1) := by decide +kernel
theorem dX11_canPlace_52 : decode cX11_canPlace 52 = .ok (.iload_n 3, 1) := by decide +kernel
theorem dX11_canPlace_53 : decode cX11_canPlace 53 = .ok (.iastore, 1) := by decide +kernel
theorem dX11_canPlace_54 : decode cX11_canPlace 54 = .ok (.aload_n 0, 1) := by decide +kernel
theorem dX11_canPlace_55 : decode cX11_canPlace 55 = .ok (.iload_n 1, 1) := by decide +kernel
theorem dX11_canPlace_56 : decode cX11_canPlace 56 = .ok (.iconst 1, 1) := by decide +kernel
theorem dX11_canPlace_57 : decode cX11_canPlace 57 = .ok (.iadd, 1) := by decide +kernel
theorem dX11_canPlace_58 : decode cX11_canPlace 58 = .ok (.iload_n 2, 1) := by decide +kernel
theorem dX11_canPlace_59 : decode cX11_canPlace 59 = .ok (.iconst 1, 1) := by decide +kernel
theorem dX11_canPlace_60 : decode cX11_canPlace 60 = .ok (.iload_n 3, 1) := by decide +kernel
theorem dX11_canPlace_61 : decode cX11_canPlace 61 = .ok (.ishl, 1) := by decide +kernel
theorem dX11_canPlace_62 : decode cX11_canPlace 62 = .ok (.ior, 1) := by decide +kernel
theorem dX11_canPlace_63 : decode cX11_canPlace 63 = .ok (.invokevirtual 308, 3) := by decide +kernel
theorem dX11_canPlace_66 : decode cX11_canPlace 66 = .ok (.ifCond .eq 5, 3) := by decide +kernel
theorem dX11_canPlace_69 : decode cX11_canPlace 69 = .ok (.iconst 1, 1) := by decide +kernel
theorem dX11_canPlace_70 : decode cX11_canPlace 70 = .ok (.ireturn, 1) := by decide +kernel
theorem dX11_canPlace_71 : decode cX11_canPlace 71 = .ok (.iinc 3 1, 3) := by decide +kernel
theorem dX11_canPlace_74 : decode cX11_canPlace 74 = .ok (.goto (-55), 3) := by decide +kernel
theorem dX11_canPlace_77 : decode cX11_canPlace 77 = .ok (.iconst 0, 1) := by decide +kernel
theorem dX11_canPlace_78 : decode cX11_canPlace 78 = .ok (.ireturn, 1) := by decide +kernel
theorem dX11_chain_0 : decode cX11_chain 0 = .ok (.aload_n 0, 1) := by decide +kernel
theorem dX11_chain_1 : decode cX11_chain 1 = .ok (.getfield 49, 3) := by decide +kernel
theorem dX11_chain_4 : decode cX11_chain 4 = .ok (.iload_n 1, 1) := by decide +kernel
theorem dX11_chain_5 : decode cX11_chain 5 = .ok (.invokevirtual 157, 3) := by decide +kernel
theorem dX11_chain_8 : decode cX11_chain 8 = .ok (.ifCond .eq 14, 3) := by decide +kernel
theorem dX11_chain_11 : decode cX11_chain 11 = .ok (.aload_n 0, 1) := by decide +kernel
theorem dX11_chain_12 : decode cX11_chain 12 = .ok (.getfield 49, 3) := by decide +kernel
theorem dX11_chain_15 : decode cX11_chain 15 = .ok (.iload_n 2, 1) := by decide +kernel
theorem dX11_chain_16 : decode cX11_chain 16 = .ok (.invokevirtual 157, 3) := by decide +kernel
theorem dX11_chain_19 : decode cX11_chain 19 = .ok (.ifCond .ne 5, 3) := by decide +kernel
theorem dX11_chain_22 : decode cX11_chain 22 = .ok (.iconst (-1), 1) := by decide +kernel
theorem dX11_chain_23 : decode cX11_chain 23 = .ok (.ireturn, 1) := by decide +kernel
theorem dX11_chain_24 : decode cX11_chain 24 = .ok (.iload_n 1, 1) := by decide +kernel
theorem dX11_chain_25 : decode cX11_chain 25 = .ok (.iload_n 2, 1) := by decide +kernel
theorem dX11_chain_26 : decode cX11_chain 26 = .ok (.if_icmp .ne 7, 3) := by decide +kernel
theorem dX11_chain_29 : decode cX11_chain 29 = .ok (.iconst 0, 1) := by decide +kernel
theorem dX11_chain_30 : decode cX11_chain 30 = .ok (.goto 12, 3) := by decide +kernel
theorem dX11_chain_33 : decode cX11_chain 33 = .ok (.aload_n 0, 1) := by decide +kernel
theorem dX11_chain_34 : decode cX11_chain 34 = .ok (.getfield 49, 3) := by decide +kernel
theorem dX11_chain_37 : decode cX11_chain 37 = .ok (.iload_n 1, 1) := by decide +kernel
theorem dX11_chain_38 : decode cX11_chain 38 = .ok (.iload_n 2, 1) := by decide +kernel
theorem dX11_chain_39 : decode cX11_chain 39 = .ok (.invokevirtual 330, 3) := by decide +kernel
theorem dX11_chain_42 : decode cX11_chain 42 = .ok (.ireturn, 1) := by decide +kernel
theorem dX11_costOf_0 : decode cX11_costOf 0 = .ok (.aload_n 0, 1) := by decide +kernel
theorem dX11_costOf_1 : decode cX11_costOf 1 = .ok (.getfield 49, 3) := by decide +kernel
theorem dX11_costOf_4 : decode cX11_costOf 4 = .ok (.iload_n 1, 1) := by decide +kernel
theorem dX11_costOf_5 : decode cX11_costOf 5 = .ok (.invokevirtual 157, 3) := by decide +kernel
theorem dX11_costOf_8 : decode cX11_costOf 8 = .ok (.ifCond .ne 5, 3) := by decide +kernel
theorem dX11_costOf_11 : decode cX11_costOf 11 = .ok (.iconst 0, 1) := by decide +kernel
theorem dX11_costOf_12 : decode cX11_costOf 12 = .ok (.ireturn, 1) := by decide +kernel
theorem dX11_costOf_13 : decode cX11_costOf 13 = .ok (.aload_n 0, 1) := by decide +kernel
theorem dX11_costOf_14 : decode cX11_costOf 14 = .ok (.getfield 104, 3) := by decide +kernel
theorem dX11_costOf_17 : decode cX11_costOf 17 = .ok (.ifCond .lt 17, 3) := by decide +kernel
theorem dX11_costOf_20 : decode cX11_costOf 20 = .ok (.aload_n 0, 1) := by decide +kernel
theorem dX11_costOf_21 : decode cX11_costOf 21 = .ok (.getfield 104, 3) := by decide +kernel
theorem dX11_costOf_24 : decode cX11_costOf 24 = .ok (.aload_n 0, 1) := by decide +kernel
theorem dX11_costOf_25 : decode cX11_costOf 25 = .ok (.getfield 39, 3) := by decide +kernel
theorem dX11_costOf_28 : decode cX11_costOf 28 = .ok (.getfield 191, 3) := by decide +kernel
theorem dX11_costOf_31 : decode cX11_costOf 31 = .ok (.if_icmp .lt 5, 3) := by decide +kernel
theorem dX11_costOf_34 : decode cX11_costOf 34 = .ok (.iconst 1, 1) := by decide +kernel
theorem dX11_costOf_35 : decode cX11_costOf 35 = .ok (.ireturn, 1) := by decide +kernel
theorem dX11_costOf_36 : decode cX11_costOf 36 = .ok (.aload_n 0, 1) := by decide +kernel
theorem dX11_costOf_37 : decode cX11_costOf 37 = .ok (.getfield 23, 3) := by decide +kernel
theorem dX11_costOf_40 : decode cX11_costOf 40 = .ok (.getfield 192, 3) := by decide +kernel
theorem dX11_costOf_43 : decode cX11_costOf 43 = .ok (.iconst 0, 1) := by decide +kernel
theorem dX11_costOf_44 : decode cX11_costOf 44 = .ok (.aload_n 0, 1) := by decide +kernel
theorem dX11_costOf_45 : decode cX11_costOf 45 = .ok (.getfield 49, 3) := by decide +kernel
theorem dX11_costOf_48 : decode cX11_costOf 48 = .ok (.iload_n 1, 1) := by decide +kernel
theorem dX11_costOf_49 : decode cX11_costOf 49 = .ok (.invokevirtual 180, 3) := by decide +kernel
theorem dX11_costOf_52 : decode cX11_costOf 52 = .ok (.iastore, 1) := by decide +kernel
theorem dX11_costOf_53 : decode cX11_costOf 53 = .ok (.aload_n 0, 1) := by decide +kernel
theorem dX11_costOf_54 : decode cX11_costOf 54 = .ok (.getfield 23, 3) := by decide +kernel
theorem dX11_costOf_57 : decode cX11_costOf 57 = .ok (.getfield 192, 3) := by decide +kernel
theorem dX11_costOf_60 : decode cX11_costOf 60 = .ok (.iconst 1, 1) := by decide +kernel
theorem dX11_costOf_61 : decode cX11_costOf 61 = .ok (.aload_n 0, 1) := by decide +kernel
theorem dX11_costOf_62 : decode cX11_costOf 62 = .ok (.getfield 49, 3) := by decide +kernel
theorem dX11_costOf_65 : decode cX11_costOf 65 = .ok (.iload_n 1, 1) := by decide +kernel
theorem dX11_costOf_66 : decode cX11_costOf 66 = .ok (.invokevirtual 183, 3) := by decide +kernel
theorem dX11_costOf_69 : decode cX11_costOf 69 = .ok (.iastore, 1) := by decide +kernel
theorem dX11_costOf_70 : decode cX11_costOf 70 = .ok (.aload_n 0, 1) := by decide +kernel
theorem dX11_costOf_71 : decode cX11_costOf 71 = .ok (.getfield 23, 3) := by decide +kernel
theorem dX11_costOf_74 : decode cX11_costOf 74 = .ok (.getfield 192, 3) := by decide +kernel
theorem dX11_costOf_77 : decode cX11_costOf 77 = .ok (.iconst 2, 1) := by decide +kernel
theorem dX11_costOf_78 : decode cX11_costOf 78 = .ok (.aload_n 0, 1) := by decide +kernel
theorem dX11_costOf_79 : decode cX11_costOf 79 = .ok (.getfield 49, 3) := by decide +kernel
theorem dX11_costOf_82 : decode cX11_costOf 82 = .ok (.getfield 171, 3) := by decide +kernel
theorem dX11_costOf_85 : decode cX11_costOf 85 = .ok (.iload_n 1, 1) := by decide +kernel
theorem dX11_costOf_86 : decode cX11_costOf 86 = .ok (.iaload, 1) := by decide +kernel
theorem dX11_costOf_87 : decode cX11_costOf 87 = .ok (.iastore, 1) := by decide +kernel
theorem dX11_costOf_88 : decode cX11_costOf 88 = .ok (.aload_n 0, 1) := by decide +kernel
theorem dX11_costOf_89 : decode cX11_costOf 89 = .ok (.getfield 23, 3) := by decide +kernel
theorem dX11_costOf_92 : decode cX11_costOf 92 = .ok (.getfield 192, 3) := by decide +kernel
theorem dX11_costOf_95 : decode cX11_costOf 95 = .ok (.iconst 3, 1) := by decide +kernel
theorem dX11_costOf_96 : decode cX11_costOf 96 = .ok (.aload_n 0, 1) := by decide +kernel
theorem dX11_costOf_97 : decode cX11_costOf 97 = .ok (.getfield 49, 3) := by decide +kernel
theorem dX11_costOf_100 : decode cX11_costOf 100 = .ok (.getfield 177, 3) := by decide +kernel
theorem dX11_costOf_103 : decode cX11_costOf 103 = .ok (.iload_n 1, 1) := by decide +kernel
theorem dX11_costOf_104 : decode cX11_costOf 104 = .ok (.iaload, 1) := by decide +kernel
theorem dX11_costOf_105 : decode cX11_costOf 105 = .ok (.bipush 100, 2) := by decide +kernel
theorem dX11_costOf_107 : decode cX11_costOf 107 = .ok (.irem, 1) := by decide +kernel
theorem dX11_costOf_108 : decode cX11_costOf 108 = .ok (.iastore, 1) := by decide +kernel
theorem dX11_costOf_109 : decode cX11_costOf 109 = .ok (.aload_n 0, 1) := by decide +kernel
theorem dX11_costOf_110 : decode cX11_costOf 110 = .ok (.getfield 23, 3) := by decide +kernel
theorem dX11_costOf_113 : decode cX11_costOf 113 = .ok (.getfield 192, 3) := by decide +kernel
theorem dX11_costOf_116 : decode cX11_costOf 116 = .ok (.iconst 4, 1) := by decide +kernel
theorem dX11_costOf_117 : decode cX11_costOf 117 = .ok (.aload_n 0, 1) := by decide +kernel
theorem dX11_costOf_118 : decode cX11_costOf 118 = .ok (.getfield 49, 3) := by decide +kernel
theorem dX11_costOf_121 : decode cX11_costOf 121 = .ok (.getfield 168, 3) := by decide +kernel
theorem dX11_costOf_124 : decode cX11_costOf 124 = .ok (.iload_n 1, 1) := by decide +kernel
theorem dX11_costOf_125 : decode cX11_costOf 125 = .ok (.iaload, 1) := by decide +kernel
theorem dX11_costOf_126 : decode cX11_costOf 126 = .ok (.bipush 100, 2) := by decide +kernel
theorem dX11_costOf_128 : decode cX11_costOf 128 = .ok (.irem, 1) := by decide +kernel
theorem dX11_costOf_129 : decode cX11_costOf 129 = .ok (.iastore, 1) := by decide +kernel
theorem dX11_costOf_130 : decode cX11_costOf 130 = .ok (.aload_n 0, 1) := by decide +kernel
theorem dX11_costOf_131 : decode cX11_costOf 131 = .ok (.getfield 23, 3) := by decide +kernel
theorem dX11_costOf_134 : decode cX11_costOf 134 = .ok (.getfield 192, 3) := by decide +kernel
theorem dX11_costOf_137 : decode cX11_costOf 137 = .ok (.iconst 5, 1) := by decide +kernel
theorem dX11_costOf_138 : decode cX11_costOf 138 = .ok (.aload_n 0, 1) := by decide +kernel
theorem dX11_costOf_139 : decode cX11_costOf 139 = .ok (.getfield 49, 3) := by decide +kernel
theorem dX11_costOf_142 : decode cX11_costOf 142 = .ok (.getfield 195, 3) := by decide +kernel
theorem dX11_costOf_145 : decode cX11_costOf 145 = .ok (.bipush 100, 2) := by decide +kernel
theorem dX11_costOf_147 : decode cX11_costOf 147 = .ok (.irem, 1) := by decide +kernel
theorem dX11_costOf_148 : decode cX11_costOf 148 = .ok (.iastore, 1) := by decide +kernel
theorem dX11_costOf_149 : decode cX11_costOf 149 = .ok (.aload_n 0, 1) := by decide +kernel
theorem dX11_costOf_150 : decode cX11_costOf 150 = .ok (.getfield 23, 3) := by decide +kernel
theorem dX11_costOf_153 : decode cX11_costOf 153 = .ok (.aload_n 0, 1) := by decide +kernel
theorem dX11_costOf_154 : decode cX11_costOf 154 = .ok (.getfield 39, 3) := by decide +kernel
theorem dX11_costOf_157 : decode cX11_costOf 157 = .ok (.getfield 198, 3) := by decide +kernel
theorem dX11_costOf_160 : decode cX11_costOf 160 = .ok (.aload_n 0, 1) := by decide +kernel
theorem dX11_costOf_161 : decode cX11_costOf 161 = .ok (.getfield 104, 3) := by decide +kernel
theorem dX11_costOf_164 : decode cX11_costOf 164 = .ok (.aaload, 1) := by decide +kernel
theorem dX11_costOf_165 : decode cX11_costOf 165 = .ok (.aload_n 0, 1) := by decide +kernel
theorem dX11_costOf_166 : decode cX11_costOf 166 = .ok (.getfield 39, 3) := by decide +kernel
theorem dX11_costOf_169 : decode cX11_costOf 169 = .ok (.getfield 202, 3) := by decide +kernel
theorem dX11_costOf_172 : decode cX11_costOf 172 = .ok (.aload_n 0, 1) := by decide +kernel
theorem dX11_costOf_173 : decode cX11_costOf 173 = .ok (.getfield 104, 3) := by decide +kernel
theorem dX11_costOf_176 : decode cX11_costOf 176 = .ok (.iaload, 1) := by decide +kernel
theorem dX11_costOf_177 : decode cX11_costOf 177 = .ok (.invokevirtual 121, 3) := by decide +kernel
theorem dX11_costOf_180 : decode cX11_costOf 180 = .ok (.pop, 1) := by decide +kernel
theorem dX11_costOf_181 : decode cX11_costOf 181 = .ok (.iconst 0, 1) := by decide +kernel
theorem dX11_costOf_182 : decode cX11_costOf 182 = .ok (.bipush 9, 2) := by decide +kernel
theorem dX11_costOf_184 : decode cX11_costOf 184 = .ok (.aload_n 0, 1) := by decide +kernel
theorem dX11_costOf_185 : decode cX11_costOf 185 = .ok (.getfield 23, 3) := by decide +kernel
theorem dX11_costOf_188 : decode cX11_costOf 188 = .ok (.getfield 205, 3) := by decide +kernel
theorem dX11_costOf_191 : decode cX11_costOf 191 = .ok (.invokestatic 208, 3) := by decide +kernel
theorem dX11_costOf_194 : decode cX11_costOf 194 = .ok (.invokestatic 214, 3) := by decide +kernel
theorem dX11_costOf_197 : decode cX11_costOf 197 = .ok (.ireturn, 1) := by decide +kernel
theorem dX11_logLength_0 : decode cX11_logLength 0 = .ok (.aload_n 0, 1) := by decide +kernel
theorem dX11_logLength_1 : decode cX11_logLength 1 = .ok (.getfield 49, 3) := by decide +kernel
theorem dX11_logLength_4 : decode cX11_logLength 4 = .ok (.getfield 195, 3) := by decide +kernel
theorem dX11_logLength_7 : decode cX11_logLength 7 = .ok (.bipush 60, 2) := by decide +kernel
theorem dX11_logLength_9 : decode cX11_logLength 9 = .ok (.invokestatic 208, 3) := by decide +kernel
theorem dX11_logLength_12 : decode cX11_logLength 12 = .ok (.ireturn, 1) := by decide +kernel
theorem dX11_count_0 : decode cX11_count 0 = .ok (.iload_n 1, 1) := by decide +kernel
theorem dX11_count_1 : decode cX11_count 1 = .ok (.tableswitch 147 0 11 #[63, 71, 79, 87, 95, 100, 105, 113, 121, 126, 134, 139], 63) := by decide +kernel
theorem dX11_count_64 : decode cX11_count 64 = .ok (.aload_n 0, 1) := by decide +kernel
theorem dX11_count_65 : decode cX11_count 65 = .ok (.getfield 49, 3) := by decide +kernel
theorem dX11_count_68 : decode cX11_count 68 = .ok (.getfield 154, 3) := by decide +kernel
theorem dX11_count_71 : decode cX11_count 71 = .ok (.ireturn, 1) := by decide +kernel
theorem dX11_count_72 : decode cX11_count 72 = .ok (.aload_n 0, 1) := by decide +kernel
theorem dX11_count_73 : decode cX11_count 73 = .ok (.getfield 49, 3) := by decide +kernel
theorem dX11_count_76 : decode cX11_count 76 = .ok (.getfield 257, 3) := by decide +kernel
theorem dX11_count_79 : decode cX11_count 79 = .ok (.ireturn, 1) := by decide +kernel
theorem dX11_count_80 : decode cX11_count 80 = .ok (.aload_n 0, 1) := by decide +kernel
theorem dX11_count_81 : decode cX11_count 81 = .ok (.getfield 39, 3) := by decide +kernel
theorem dX11_count_84 : decode cX11_count 84 = .ok (.getfield 191, 3) := by decide +kernel
theorem dX11_count_87 : decode cX11_count 87 = .ok (.ireturn, 1) := by decide +kernel
theorem dX11_count_88 : decode cX11_count 88 = .ok (.aload_n 0, 1) := by decide +kernel
theorem dX11_count_89 : decode cX11_count 89 = .ok (.getfield 43, 3) := by decide +kernel
theorem dX11_count_92 : decode cX11_count 92 = .ok (.getfield 191, 3) := by decide +kernel
theorem dX11_count_95 : decode cX11_count 95 = .ok (.ireturn, 1) := by decide +kernel
theorem dX11_count_96 : decode cX11_count 96 = .ok (.aload_n 0, 1) := by decide +kernel
theorem dX11_count_97 : decode cX11_count 97 = .ok (.getfield 100, 3) := by decide +kernel
theorem dX11_count_100 : decode cX11_count 100 = .ok (.ireturn, 1) := by decide +kernel
theorem dX11_count_101 : decode cX11_count 101 = .ok (.aload_n 0, 1) := by decide +kernel
theorem dX11_count_102 : decode cX11_count 102 = .ok (.getfield 104, 3) := by decide +kernel
theorem dX11_count_105 : decode cX11_count 105 = .ok (.ireturn, 1) := by decide +kernel
theorem dX11_count_106 : decode cX11_count 106 = .ok (.aload_n 0, 1) := by decide +kernel
theorem dX11_count_107 : decode cX11_count 107 = .ok (.getfield 49, 3) := by decide +kernel
theorem dX11_count_110 : decode cX11_count 110 = .ok (.getfield 195, 3) := by decide +kernel
theorem dX11_count_113 : decode cX11_count 113 = .ok (.ireturn, 1) := by decide +kernel
theorem dX11_count_114 : decode cX11_count 114 = .ok (.aload_n 0, 1) := by decide +kernel
theorem dX11_count_115 : decode cX11_count 115 = .ok (.getfield 49, 3) := by decide +kernel
theorem dX11_count_118 : decode cX11_count 118 = .ok (.getfield 235, 3) := by decide +kernel
theorem dX11_count_121 : decode cX11_count 121 = .ok (.ireturn, 1) := by decide +kernel
theorem dX11_count_122 : decode cX11_count 122 = .ok (.aload_n 0, 1) := by decide +kernel
theorem dX11_count_123 : decode cX11_count 123 = .ok (.getfield 107, 3) := by decide +kernel
theorem dX11_count_126 : decode cX11_count 126 = .ok (.ireturn, 1) := by decide +kernel
theorem dX11_count_127 : decode cX11_count 127 = .ok (.aload_n 0, 1) := by decide +kernel
theorem dX11_count_128 : decode cX11_count 128 = .ok (.getfield 76, 3) := by decide +kernel
theorem dX11_count_131 : decode cX11_count 131 = .ok (.getfield 153, 3) := by decide +kernel
theorem dX11_count_134 : decode cX11_count 134 = .ok (.ireturn, 1) := by decide +kernel
theorem dX11_count_135 : decode cX11_count 135 = .ok (.aload_n 0, 1) := by decide +kernel
theorem dX11_count_136 : decode cX11_count 136 = .ok (.invokevirtual 289, 3) := by decide +kernel
theorem dX11_count_139 : decode cX11_count 139 = .ok (.ireturn, 1) := by decide +kernel
theorem dX11_count_140 : decode cX11_count 140 = .ok (.aload_n 0, 1) := by decide +kernel
theorem dX11_count_141 : decode cX11_count 141 = .ok (.getfield 69, 3) := by decide +kernel
theorem dX11_count_144 : decode cX11_count 144 = .ok (.getfield 286, 3) := by decide +kernel
theorem dX11_count_147 : decode cX11_count 147 = .ok (.ireturn, 1) := by decide +kernel
theorem dX11_count_148 : decode cX11_count 148 = .ok (.ldc 220, 2) := by decide +kernel
theorem dX11_count_150 : decode cX11_count 150 = .ok (.ireturn, 1) := by decide +kernel
theorem dX11_crossAndLog_0 : decode cX11_crossAndLog 0 = .ok (.aload_n 0, 1) := by decide +kernel
theorem dX11_crossAndLog_1 : decode cX11_crossAndLog 1 = .ok (.getfield 49, 3) := by decide +kernel
theorem dX11_crossAndLog_4 : decode cX11_crossAndLog 4 = .ok (.iload_n 1, 1) := by decide +kernel
theorem dX11_crossAndLog_5 : decode cX11_crossAndLog 5 = .ok (.invokevirtual 244, 3) := by decide +kernel
theorem dX11_crossAndLog_8 : decode cX11_crossAndLog 8 = .ok (.aload_n 0, 1) := by decide +kernel
theorem dX11_crossAndLog_9 : decode cX11_crossAndLog 9 = .ok (.getfield 49, 3) := by decide +kernel
theorem dX11_crossAndLog_12 : decode cX11_crossAndLog 12 = .ok (.getfield 177, 3) := by decide +kernel
theorem dX11_crossAndLog_15 : decode cX11_crossAndLog 15 = .ok (.iload_n 1, 1) := by decide +kernel
theorem dX11_crossAndLog_16 : decode cX11_crossAndLog 16 = .ok (.dup2, 1) := by decide +kernel
theorem dX11_crossAndLog_17 : decode cX11_crossAndLog 17 = .ok (.iaload, 1) := by decide +kernel
theorem dX11_crossAndLog_18 : decode cX11_crossAndLog 18 = .ok (.iconst 1, 1) := by decide +kernel
theorem dX11_crossAndLog_19 : decode cX11_crossAndLog 19 = .ok (.iadd, 1) := by decide +kernel
theorem dX11_crossAndLog_20 : decode cX11_crossAndLog 20 = .ok (.iastore, 1) := by decide +kernel
theorem dX11_crossAndLog_21 : decode cX11_crossAndLog 21 = .ok (.aload_n 0, 1) := by decide +kernel
theorem dX11_crossAndLog_22 : decode cX11_crossAndLog 22 = .ok (.getfield 49, 3) := by decide +kernel
theorem dX11_crossAndLog_25 : decode cX11_crossAndLog 25 = .ok (.dup, 1) := by decide +kernel
theorem dX11_crossAndLog_26 : decode cX11_crossAndLog 26 = .ok (.getfield 195, 3) := by decide +kernel
theorem dX11_crossAndLog_29 : decode cX11_crossAndLog 29 = .ok (.iconst 1, 1) := by decide +kernel
theorem dX11_crossAndLog_30 : decode cX11_crossAndLog 30 = .ok (.iadd, 1) := by decide +kernel
theorem dX11_crossAndLog_31 : decode cX11_crossAndLog 31 = .ok (.putfield 195, 3) := by decide +kernel
theorem dX11_crossAndLog_34 : decode cX11_crossAndLog 34 = .ok (.aload_n 0, 1) := by decide +kernel
theorem dX11_crossAndLog_35 : decode cX11_crossAndLog 35 = .ok (.getfield 62, 3) := by decide +kernel
theorem dX11_crossAndLog_38 : decode cX11_crossAndLog 38 = .ok (.aload_n 0, 1) := by decide +kernel
theorem dX11_crossAndLog_39 : decode cX11_crossAndLog 39 = .ok (.getfield 49, 3) := by decide +kernel
theorem dX11_crossAndLog_42 : decode cX11_crossAndLog 42 = .ok (.getfield 195, 3) := by decide +kernel
theorem dX11_crossAndLog_45 : decode cX11_crossAndLog 45 = .ok (.iload_n 1, 1) := by decide +kernel
theorem dX11_crossAndLog_46 : decode cX11_crossAndLog 46 = .ok (.aload_n 0, 1) := by decide +kernel
theorem dX11_crossAndLog_47 : decode cX11_crossAndLog 47 = .ok (.getfield 49, 3) := by decide +kernel
theorem dX11_crossAndLog_50 : decode cX11_crossAndLog 50 = .ok (.invokevirtual 247, 3) := by decide +kernel
theorem dX11_crossAndLog_53 : decode cX11_crossAndLog 53 = .ok (.aload_n 0, 1) := by decide +kernel
theorem dX11_crossAndLog_54 : decode cX11_crossAndLog 54 = .ok (.getfield 49, 3) := by decide +kernel
theorem dX11_crossAndLog_57 : decode cX11_crossAndLog 57 = .ok (.invokevirtual 250, 3) := by decide +kernel
theorem dX11_crossAndLog_60 : decode cX11_crossAndLog 60 = .ok (.iconst (-1), 1) := by decide +kernel
theorem dX11_crossAndLog_61 : decode cX11_crossAndLog 61 = .ok (.if_icmp .ne 7, 3) := by decide +kernel
theorem dX11_crossAndLog_64 : decode cX11_crossAndLog 64 = .ok (.iconst 1, 1) := by decide +kernel
theorem dX11_crossAndLog_65 : decode cX11_crossAndLog 65 = .ok (.goto 4, 3) := by decide +kernel
theorem dX11_crossAndLog_68 : decode cX11_crossAndLog 68 = .ok (.iconst 0, 1) := by decide +kernel
theorem dX11_crossAndLog_69 : decode cX11_crossAndLog 69 = .ok (.invokevirtual 253, 3) := by decide +kernel
theorem dX11_crossAndLog_72 : decode cX11_crossAndLog 72 = .ok (.return_, 1) := by decide +kernel
theorem dX11_crossFor_0 : decode cX11_crossFor 0 = .ok (.aload_n 0, 1) := by decide +kernel
theorem dX11_crossFor_1 : decode cX11_crossFor 1 = .ok (.getfield 69, 3) := by decide +kernel
theorem dX11_crossFor_4 : decode cX11_crossFor 4 = .ok (.aload_n 0, 1) := by decide +kernel
theorem dX11_crossFor_5 : decode cX11_crossFor 5 = .ok (.getfield 49, 3) := by decide +kernel
theorem dX11_crossFor_8 : decode cX11_crossFor 8 = .ok (.invokevirtual 238, 3) := by decide +kernel
theorem dX11_crossFor_11 : decode cX11_crossFor 11 = .ok (.aload_n 0, 1) := by decide +kernel
theorem dX11_crossFor_12 : decode cX11_crossFor 12 = .ok (.getfield 49, 3) := by decide +kernel
theorem dX11_crossFor_15 : decode cX11_crossFor 15 = .ok (.dup, 1) := by decide +kernel
theorem dX11_crossFor_16 : decode cX11_crossFor 16 = .ok (.getfield 235, 3) := by decide +kernel
theorem dX11_crossFor_19 : decode cX11_crossFor 19 = .ok (.iload_n 2, 1) := by decide +kernel
theorem dX11_crossFor_20 : decode cX11_crossFor 20 = .ok (.isub, 1) := by decide +kernel
theorem dX11_crossFor_21 : decode cX11_crossFor 21 = .ok (.putfield 235, 3) := by decide +kernel
theorem dX11_crossFor_24 : decode cX11_crossFor 24 = .ok (.aload_n 0, 1) := by decide +kernel
theorem dX11_crossFor_25 : decode cX11_crossFor 25 = .ok (.iload_n 1, 1) := by decide +kernel
theorem dX11_crossFor_26 : decode cX11_crossFor 26 = .ok (.invokevirtual 241, 3) := by decide +kernel
theorem dX11_crossFor_29 : decode cX11_crossFor 29 = .ok (.return_, 1) := by decide +kernel
theorem dX11_hurdleOf_0 : decode cX11_hurdleOf 0 = .ok (.aload_n 0, 1) := by decide +kernel
theorem dX11_hurdleOf_1 : decode cX11_hurdleOf 1 = .ok (.getfield 49, 3) := by decide +kernel
theorem dX11_hurdleOf_4 : decode cX11_hurdleOf 4 = .ok (.iload_n 1, 1) := by decide +kernel
theorem dX11_hurdleOf_5 : decode cX11_hurdleOf 5 = .ok (.invokevirtual 157, 3) := by decide +kernel
theorem dX11_hurdleOf_8 : decode cX11_hurdleOf 8 = .ok (.ifCond .ne 5, 3) := by decide +kernel
theorem dX11_hurdleOf_11 : decode cX11_hurdleOf 11 = .ok (.iconst 0, 1) := by decide +kernel
theorem dX11_hurdleOf_12 : decode cX11_hurdleOf 12 = .ok (.ireturn, 1) := by decide +kernel
theorem dX11_hurdleOf_13 : decode cX11_hurdleOf 13 = .ok (.aload_n 0, 1) := by decide +kernel
theorem dX11_hurdleOf_14 : decode cX11_hurdleOf 14 = .ok (.getfield 49, 3) := by decide +kernel
theorem dX11_hurdleOf_17 : decode cX11_hurdleOf 17 = .ok (.iload_n 1, 1) := by decide +kernel
theorem dX11_hurdleOf_18 : decode cX11_hurdleOf 18 = .ok (.invokevirtual 174, 3) := by decide +kernel
theorem dX11_hurdleOf_21 : decode cX11_hurdleOf 21 = .ok (.ifCond .eq 5, 3) := by decide +kernel
theorem dX11_hurdleOf_24 : decode cX11_hurdleOf 24 = .ok (.iconst 2, 1) := by decide +kernel
theorem dX11_hurdleOf_25 : decode cX11_hurdleOf 25 = .ok (.ireturn, 1) := by decide +kernel
theorem dX11_hurdleOf_26 : decode cX11_hurdleOf 26 = .ok (.aload_n 0, 1) := by decide +kernel
theorem dX11_hurdleOf_27 : decode cX11_hurdleOf 27 = .ok (.getfield 49, 3) := by decide +kernel
theorem dX11_hurdleOf_30 : decode cX11_hurdleOf 30 = .ok (.iload_n 1, 1) := by decide +kernel
theorem dX11_hurdleOf_31 : decode cX11_hurdleOf 31 = .ok (.invokevirtual 232, 3) := by decide +kernel
theorem dX11_hurdleOf_34 : decode cX11_hurdleOf 34 = .ok (.ifCond .ne 5, 3) := by decide +kernel
theorem dX11_hurdleOf_37 : decode cX11_hurdleOf 37 = .ok (.iconst 3, 1) := by decide +kernel
theorem dX11_hurdleOf_38 : decode cX11_hurdleOf 38 = .ok (.ireturn, 1) := by decide +kernel
theorem dX11_hurdleOf_39 : decode cX11_hurdleOf 39 = .ok (.aload_n 0, 1) := by decide +kernel
theorem dX11_hurdleOf_40 : decode cX11_hurdleOf 40 = .ok (.getfield 49, 3) := by decide +kernel
theorem dX11_hurdleOf_43 : decode cX11_hurdleOf 43 = .ok (.getfield 235, 3) := by decide +kernel
theorem dX11_hurdleOf_46 : decode cX11_hurdleOf 46 = .ok (.iload_n 2, 1) := by decide +kernel
theorem dX11_hurdleOf_47 : decode cX11_hurdleOf 47 = .ok (.if_icmp .ge 5, 3) := by decide +kernel
theorem dX11_hurdleOf_50 : decode cX11_hurdleOf 50 = .ok (.iconst 4, 1) := by decide +kernel
theorem dX11_hurdleOf_51 : decode cX11_hurdleOf 51 = .ok (.ireturn, 1) := by decide +kernel
theorem dX11_hurdleOf_52 : decode cX11_hurdleOf 52 = .ok (.aload_n 0, 1) := by decide +kernel
theorem dX11_hurdleOf_53 : decode cX11_hurdleOf 53 = .ok (.getfield 49, 3) := by decide +kernel
theorem dX11_hurdleOf_56 : decode cX11_hurdleOf 56 = .ok (.getfield 195, 3) := by decide +kernel
theorem dX11_hurdleOf_59 : decode cX11_hurdleOf 59 = .ok (.sipush 9999, 3) := by decide +kernel
theorem dX11_hurdleOf_62 : decode cX11_hurdleOf 62 = .ok (.if_icmp .lt 7, 3) := by decide +kernel
theorem dX11_hurdleOf_65 : decode cX11_hurdleOf 65 = .ok (.iconst 5, 1) := by decide +kernel
theorem dX11_hurdleOf_66 : decode cX11_hurdleOf 66 = .ok (.goto 4, 3) := by decide +kernel
theorem dX11_hurdleOf_69 : decode cX11_hurdleOf 69 = .ok (.iconst (-1), 1) := by decide +kernel
