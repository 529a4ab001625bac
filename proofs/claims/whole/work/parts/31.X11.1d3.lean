theorem dX11_seen_19 : decode cX11_seen 19 = .ok (.ifCond .eq 8, 3) := by decide +kernel
theorem dX11_seen_22 : decode cX11_seen 22 = .ok (.iload_n 1, 1) := by decide +kernel
theorem dX11_seen_23 : decode cX11_seen 23 = .ok (.iload_n 2, 1) := by decide +kernel
theorem dX11_seen_24 : decode cX11_seen 24 = .ok (.if_icmp .ne 5, 3) := by decide +kernel
theorem dX11_seen_27 : decode cX11_seen 27 = .ok (.iconst (-1), 1) := by decide +kernel
theorem dX11_seen_28 : decode cX11_seen 28 = .ok (.ireturn, 1) := by decide +kernel
theorem dX11_seen_29 : decode cX11_seen 29 = .ok (.iload_n 3, 1) := by decide +kernel
theorem dX11_seen_30 : decode cX11_seen 30 = .ok (.iconst 1, 1) := by decide +kernel
theorem dX11_seen_31 : decode cX11_seen 31 = .ok (.if_icmp .lt 35, 3) := by decide +kernel
theorem dX11_seen_34 : decode cX11_seen 34 = .ok (.iload_n 3, 1) := by decide +kernel
theorem dX11_seen_35 : decode cX11_seen 35 = .ok (.bipush 9, 2) := by decide +kernel
theorem dX11_seen_37 : decode cX11_seen 37 = .ok (.if_icmp .gt 29, 3) := by decide +kernel
theorem dX11_seen_40 : decode cX11_seen 40 = .ok (.iload 4, 2) := by decide +kernel
theorem dX11_seen_42 : decode cX11_seen 42 = .ok (.bipush (-99), 2) := by decide +kernel
theorem dX11_seen_44 : decode cX11_seen 44 = .ok (.if_icmp .lt 22, 3) := by decide +kernel
theorem dX11_seen_47 : decode cX11_seen 47 = .ok (.iload 4, 2) := by decide +kernel
theorem dX11_seen_49 : decode cX11_seen 49 = .ok (.bipush 99, 2) := by decide +kernel
theorem dX11_seen_51 : decode cX11_seen 51 = .ok (.if_icmp .gt 15, 3) := by decide +kernel
theorem dX11_seen_54 : decode cX11_seen 54 = .ok (.aload_n 0, 1) := by decide +kernel
theorem dX11_seen_55 : decode cX11_seen 55 = .ok (.getfield 76, 3) := by decide +kernel
theorem dX11_seen_58 : decode cX11_seen 58 = .ok (.getfield 153, 3) := by decide +kernel
theorem dX11_seen_61 : decode cX11_seen 61 = .ok (.bipush 10, 2) := by decide +kernel
theorem dX11_seen_63 : decode cX11_seen 63 = .ok (.if_icmp .lt 5, 3) := by decide +kernel
theorem dX11_seen_66 : decode cX11_seen 66 = .ok (.iconst (-1), 1) := by decide +kernel
theorem dX11_seen_67 : decode cX11_seen 67 = .ok (.ireturn, 1) := by decide +kernel
theorem dX11_seen_68 : decode cX11_seen 68 = .ok (.aload_n 0, 1) := by decide +kernel
theorem dX11_seen_69 : decode cX11_seen 69 = .ok (.getfield 76, 3) := by decide +kernel
theorem dX11_seen_72 : decode cX11_seen 72 = .ok (.iload_n 1, 1) := by decide +kernel
theorem dX11_seen_73 : decode cX11_seen 73 = .ok (.iload_n 2, 1) := by decide +kernel
theorem dX11_seen_74 : decode cX11_seen 74 = .ok (.iload_n 3, 1) := by decide +kernel
theorem dX11_seen_75 : decode cX11_seen 75 = .ok (.iload 4, 2) := by decide +kernel
theorem dX11_seen_77 : decode cX11_seen 77 = .ok (.iload 5, 2) := by decide +kernel
theorem dX11_seen_79 : decode cX11_seen 79 = .ok (.invokevirtual 332, 3) := by decide +kernel
theorem dX11_seen_82 : decode cX11_seen 82 = .ok (.aload_n 0, 1) := by decide +kernel
theorem dX11_seen_83 : decode cX11_seen 83 = .ok (.getfield 76, 3) := by decide +kernel
theorem dX11_seen_86 : decode cX11_seen 86 = .ok (.getfield 153, 3) := by decide +kernel
theorem dX11_seen_89 : decode cX11_seen 89 = .ok (.ireturn, 1) := by decide +kernel
theorem dX11_settle_0 : decode cX11_settle 0 = .ok (.aload_n 0, 1) := by decide +kernel
theorem dX11_settle_1 : decode cX11_settle 1 = .ok (.getfield 53, 3) := by decide +kernel
theorem dX11_settle_4 : decode cX11_settle 4 = .ok (.aload_n 0, 1) := by decide +kernel
theorem dX11_settle_5 : decode cX11_settle 5 = .ok (.getfield 16, 3) := by decide +kernel
theorem dX11_settle_8 : decode cX11_settle 8 = .ok (.getfield 139, 3) := by decide +kernel
theorem dX11_settle_11 : decode cX11_settle 11 = .ok (.invokevirtual 142, 3) := by decide +kernel
theorem dX11_settle_14 : decode cX11_settle 14 = .ok (.aload_n 0, 1) := by decide +kernel
theorem dX11_settle_15 : decode cX11_settle 15 = .ok (.getfield 49, 3) := by decide +kernel
theorem dX11_settle_18 : decode cX11_settle 18 = .ok (.aload_n 0, 1) := by decide +kernel
theorem dX11_settle_19 : decode cX11_settle 19 = .ok (.getfield 53, 3) := by decide +kernel
theorem dX11_settle_22 : decode cX11_settle 22 = .ok (.invokevirtual 142, 3) := by decide +kernel
theorem dX11_settle_25 : decode cX11_settle 25 = .ok (.aload_n 0, 1) := by decide +kernel
theorem dX11_settle_26 : decode cX11_settle 26 = .ok (.getfield 69, 3) := by decide +kernel
theorem dX11_settle_29 : decode cX11_settle 29 = .ok (.invokevirtual 146, 3) := by decide +kernel
theorem dX11_settle_32 : decode cX11_settle 32 = .ok (.aload_n 0, 1) := by decide +kernel
theorem dX11_settle_33 : decode cX11_settle 33 = .ok (.getfield 69, 3) := by decide +kernel
theorem dX11_settle_36 : decode cX11_settle 36 = .ok (.iconst 0, 1) := by decide +kernel
theorem dX11_settle_37 : decode cX11_settle 37 = .ok (.putfield 149, 3) := by decide +kernel
theorem dX11_settle_40 : decode cX11_settle 40 = .ok (.aload_n 0, 1) := by decide +kernel
theorem dX11_settle_41 : decode cX11_settle 41 = .ok (.getfield 76, 3) := by decide +kernel
theorem dX11_settle_44 : decode cX11_settle 44 = .ok (.iconst 0, 1) := by decide +kernel
theorem dX11_settle_45 : decode cX11_settle 45 = .ok (.putfield 153, 3) := by decide +kernel
theorem dX11_settle_48 : decode cX11_settle 48 = .ok (.aload_n 0, 1) := by decide +kernel
theorem dX11_settle_49 : decode cX11_settle 49 = .ok (.getfield 49, 3) := by decide +kernel
theorem dX11_settle_52 : decode cX11_settle 52 = .ok (.getfield 154, 3) := by decide +kernel
theorem dX11_settle_55 : decode cX11_settle 55 = .ok (.ireturn, 1) := by decide +kernel
theorem dX11_shares_0 : decode cX11_shares 0 = .ok (.aload_n 0, 1) := by decide +kernel
theorem dX11_shares_1 : decode cX11_shares 1 = .ok (.getfield 49, 3) := by decide +kernel
theorem dX11_shares_4 : decode cX11_shares 4 = .ok (.iload_n 1, 1) := by decide +kernel
theorem dX11_shares_5 : decode cX11_shares 5 = .ok (.invokevirtual 157, 3) := by decide +kernel
theorem dX11_shares_8 : decode cX11_shares 8 = .ok (.ifCond .eq 14, 3) := by decide +kernel
theorem dX11_shares_11 : decode cX11_shares 11 = .ok (.iload_n 2, 1) := by decide +kernel
theorem dX11_shares_12 : decode cX11_shares 12 = .ok (.ifCond .lt 10, 3) := by decide +kernel
theorem dX11_shares_15 : decode cX11_shares 15 = .ok (.iload_n 2, 1) := by decide +kernel
theorem dX11_shares_16 : decode cX11_shares 16 = .ok (.sipush 999, 3) := by decide +kernel
theorem dX11_shares_19 : decode cX11_shares 19 = .ok (.if_icmp .le 5, 3) := by decide +kernel
theorem dX11_shares_22 : decode cX11_shares 22 = .ok (.iconst (-1), 1) := by decide +kernel
theorem dX11_shares_23 : decode cX11_shares 23 = .ok (.ireturn, 1) := by decide +kernel
theorem dX11_shares_24 : decode cX11_shares 24 = .ok (.aload_n 0, 1) := by decide +kernel
theorem dX11_shares_25 : decode cX11_shares 25 = .ok (.getfield 49, 3) := by decide +kernel
theorem dX11_shares_28 : decode cX11_shares 28 = .ok (.invokevirtual 247, 3) := by decide +kernel
theorem dX11_shares_31 : decode cX11_shares 31 = .ok (.istore_n 3, 1) := by decide +kernel
theorem dX11_shares_32 : decode cX11_shares 32 = .ok (.iload_n 3, 1) := by decide +kernel
theorem dX11_shares_33 : decode cX11_shares 33 = .ok (.ifCond .le 18, 3) := by decide +kernel
theorem dX11_shares_36 : decode cX11_shares 36 = .ok (.iload_n 2, 1) := by decide +kernel
theorem dX11_shares_37 : decode cX11_shares 37 = .ok (.aload_n 0, 1) := by decide +kernel
theorem dX11_shares_38 : decode cX11_shares 38 = .ok (.getfield 49, 3) := by decide +kernel
theorem dX11_shares_41 : decode cX11_shares 41 = .ok (.iload_n 1, 1) := by decide +kernel
theorem dX11_shares_42 : decode cX11_shares 42 = .ok (.invokevirtual 180, 3) := by decide +kernel
theorem dX11_shares_45 : decode cX11_shares 45 = .ok (.imul, 1) := by decide +kernel
theorem dX11_shares_46 : decode cX11_shares 46 = .ok (.iload_n 3, 1) := by decide +kernel
theorem dX11_shares_47 : decode cX11_shares 47 = .ok (.idiv, 1) := by decide +kernel
theorem dX11_shares_48 : decode cX11_shares 48 = .ok (.goto 4, 3) := by decide +kernel
theorem dX11_shares_51 : decode cX11_shares 51 = .ok (.iconst 0, 1) := by decide +kernel
theorem dX11_shares_52 : decode cX11_shares 52 = .ok (.ireturn, 1) := by decide +kernel
theorem dX11_sing_0 : decode cX11_sing 0 = .ok (.aload_n 0, 1) := by decide +kernel
theorem dX11_sing_1 : decode cX11_sing 1 = .ok (.getfield 43, 3) := by decide +kernel
theorem dX11_sing_4 : decode cX11_sing 4 = .ok (.iload_n 1, 1) := by decide +kernel
theorem dX11_sing_5 : decode cX11_sing 5 = .ok (.invokevirtual 221, 3) := by decide +kernel
theorem dX11_sing_8 : decode cX11_sing 8 = .ok (.ifCond .eq 13, 3) := by decide +kernel
theorem dX11_sing_11 : decode cX11_sing 11 = .ok (.aload_n 0, 1) := by decide +kernel
theorem dX11_sing_12 : decode cX11_sing 12 = .ok (.getfield 49, 3) := by decide +kernel
theorem dX11_sing_15 : decode cX11_sing 15 = .ok (.getfield 154, 3) := by decide +kernel
theorem dX11_sing_18 : decode cX11_sing 18 = .ok (.ifCond .ne 10, 3) := by decide +kernel
theorem dX11_sing_21 : decode cX11_sing 21 = .ok (.aload_n 0, 1) := by decide +kernel
theorem dX11_sing_22 : decode cX11_sing 22 = .ok (.iconst 0, 1) := by decide +kernel
theorem dX11_sing_23 : decode cX11_sing 23 = .ok (.iconst (-1), 1) := by decide +kernel
theorem dX11_sing_24 : decode cX11_sing 24 = .ok (.invokevirtual 225, 3) := by decide +kernel
theorem dX11_sing_27 : decode cX11_sing 27 = .ok (.ireturn, 1) := by decide +kernel
theorem dX11_sing_28 : decode cX11_sing 28 = .ok (.iconst 0, 1) := by decide +kernel
theorem dX11_sing_29 : decode cX11_sing 29 = .ok (.istore_n 2, 1) := by decide +kernel
theorem dX11_sing_30 : decode cX11_sing 30 = .ok (.iconst 0, 1) := by decide +kernel
theorem dX11_sing_31 : decode cX11_sing 31 = .ok (.istore_n 3, 1) := by decide +kernel
theorem dX11_sing_32 : decode cX11_sing 32 = .ok (.iload_n 3, 1) := by decide +kernel
theorem dX11_sing_33 : decode cX11_sing 33 = .ok (.aload_n 0, 1) := by decide +kernel
theorem dX11_sing_34 : decode cX11_sing 34 = .ok (.getfield 43, 3) := by decide +kernel
theorem dX11_sing_37 : decode cX11_sing 37 = .ok (.getfield 202, 3) := by decide +kernel
theorem dX11_sing_40 : decode cX11_sing 40 = .ok (.iload_n 1, 1) := by decide +kernel
theorem dX11_sing_41 : decode cX11_sing 41 = .ok (.iaload, 1) := by decide +kernel
theorem dX11_sing_42 : decode cX11_sing 42 = .ok (.if_icmp .ge 56, 3) := by decide +kernel
theorem dX11_sing_45 : decode cX11_sing 45 = .ok (.aload_n 0, 1) := by decide +kernel
theorem dX11_sing_46 : decode cX11_sing 46 = .ok (.getfield 43, 3) := by decide +kernel
theorem dX11_sing_49 : decode cX11_sing 49 = .ok (.getfield 198, 3) := by decide +kernel
theorem dX11_sing_52 : decode cX11_sing 52 = .ok (.iload_n 1, 1) := by decide +kernel
theorem dX11_sing_53 : decode cX11_sing 53 = .ok (.aaload, 1) := by decide +kernel
theorem dX11_sing_54 : decode cX11_sing 54 = .ok (.iload_n 3, 1) := by decide +kernel
theorem dX11_sing_55 : decode cX11_sing 55 = .ok (.iaload, 1) := by decide +kernel
theorem dX11_sing_56 : decode cX11_sing 56 = .ok (.istore 4, 2) := by decide +kernel
theorem dX11_sing_58 : decode cX11_sing 58 = .ok (.aload_n 0, 1) := by decide +kernel
theorem dX11_sing_59 : decode cX11_sing 59 = .ok (.iload 4, 2) := by decide +kernel
theorem dX11_sing_61 : decode cX11_sing 61 = .ok (.invokevirtual 186, 3) := by decide +kernel
theorem dX11_sing_64 : decode cX11_sing 64 = .ok (.istore 5, 2) := by decide +kernel
theorem dX11_sing_66 : decode cX11_sing 66 = .ok (.aload_n 0, 1) := by decide +kernel
theorem dX11_sing_67 : decode cX11_sing 67 = .ok (.iload 4, 2) := by decide +kernel
theorem dX11_sing_69 : decode cX11_sing 69 = .ok (.iload 5, 2) := by decide +kernel
theorem dX11_sing_71 : decode cX11_sing 71 = .ok (.invokevirtual 222, 3) := by decide +kernel
theorem dX11_sing_74 : decode cX11_sing 74 = .ok (.iconst (-1), 1) := by decide +kernel
theorem dX11_sing_75 : decode cX11_sing 75 = .ok (.if_icmp .eq 6, 3) := by decide +kernel
theorem dX11_sing_78 : decode cX11_sing 78 = .ok (.goto 20, 3) := by decide +kernel
theorem dX11_sing_81 : decode cX11_sing 81 = .ok (.aload_n 0, 1) := by decide +kernel
theorem dX11_sing_82 : decode cX11_sing 82 = .ok (.iload 4, 2) := by decide +kernel
theorem dX11_sing_84 : decode cX11_sing 84 = .ok (.iload 5, 2) := by decide +kernel
theorem dX11_sing_86 : decode cX11_sing 86 = .ok (.invokevirtual 228, 3) := by decide +kernel
theorem dX11_sing_89 : decode cX11_sing 89 = .ok (.iinc 2 1, 3) := by decide +kernel
theorem dX11_sing_92 : decode cX11_sing 92 = .ok (.iinc 3 1, 3) := by decide +kernel
theorem dX11_sing_95 : decode cX11_sing 95 = .ok (.goto (-63), 3) := by decide +kernel
theorem dX11_sing_98 : decode cX11_sing 98 = .ok (.iload_n 2, 1) := by decide +kernel
theorem dX11_sing_99 : decode cX11_sing 99 = .ok (.ireturn, 1) := by decide +kernel
theorem dX11_status_0 : decode cX11_status 0 = .ok (.iload_n 1, 1) := by decide +kernel
theorem dX11_status_1 : decode cX11_status 1 = .ok (.ifCond .lt 18, 3) := by decide +kernel
theorem dX11_status_4 : decode cX11_status 4 = .ok (.iload_n 1, 1) := by decide +kernel
theorem dX11_status_5 : decode cX11_status 5 = .ok (.bipush 6, 2) := by decide +kernel
theorem dX11_status_7 : decode cX11_status 7 = .ok (.if_icmp .ge 12, 3) := by decide +kernel
theorem dX11_status_10 : decode cX11_status 10 = .ok (.aload_n 0, 1) := by decide +kernel
theorem dX11_status_11 : decode cX11_status 11 = .ok (.getfield 94, 3) := by decide +kernel
theorem dX11_status_14 : decode cX11_status 14 = .ok (.iload_n 1, 1) := by decide +kernel
theorem dX11_status_15 : decode cX11_status 15 = .ok (.iaload, 1) := by decide +kernel
theorem dX11_status_16 : decode cX11_status 16 = .ok (.goto 4, 3) := by decide +kernel
theorem dX11_status_19 : decode cX11_status 19 = .ok (.iconst (-1), 1) := by decide +kernel
theorem dX11_status_20 : decode cX11_status 20 = .ok (.ireturn, 1) := by decide +kernel
theorem dX11_straight_0 : decode cX11_straight 0 = .ok (.aload_n 0, 1) := by decide +kernel
theorem dX11_straight_1 : decode cX11_straight 1 = .ok (.getfield 49, 3) := by decide +kernel
theorem dX11_straight_4 : decode cX11_straight 4 = .ok (.getfield 154, 3) := by decide +kernel
theorem dX11_straight_7 : decode cX11_straight 7 = .ok (.ifCond .eq 12, 3) := by decide +kernel
theorem dX11_straight_10 : decode cX11_straight 10 = .ok (.iload_n 1, 1) := by decide +kernel
theorem dX11_straight_11 : decode cX11_straight 11 = .ok (.ifCond .lt 8, 3) := by decide +kernel
theorem dX11_straight_14 : decode cX11_straight 14 = .ok (.iload_n 1, 1) := by decide +kernel
theorem dX11_straight_15 : decode cX11_straight 15 = .ok (.iconst 1, 1) := by decide +kernel
theorem dX11_straight_16 : decode cX11_straight 16 = .ok (.if_icmp .le 5, 3) := by decide +kernel
theorem dX11_straight_19 : decode cX11_straight 19 = .ok (.iconst (-1), 1) := by decide +kernel
theorem dX11_straight_20 : decode cX11_straight 20 = .ok (.ireturn, 1) := by decide +kernel
theorem dX11_straight_21 : decode cX11_straight 21 = .ok (.aload_n 0, 1) := by decide +kernel
theorem dX11_straight_22 : decode cX11_straight 22 = .ok (.getfield 83, 3) := by decide +kernel
theorem dX11_straight_25 : decode cX11_straight 25 = .ok (.aload_n 0, 1) := by decide +kernel
theorem dX11_straight_26 : decode cX11_straight 26 = .ok (.getfield 49, 3) := by decide +kernel
theorem dX11_straight_29 : decode cX11_straight 29 = .ok (.iconst 4, 1) := by decide +kernel
theorem dX11_straight_30 : decode cX11_straight 30 = .ok (.iconst 1, 1) := by decide +kernel
theorem dX11_straight_31 : decode cX11_straight 31 = .ok (.invokevirtual 314, 3) := by decide +kernel
theorem dX11_straight_34 : decode cX11_straight 34 = .ok (.aload_n 0, 1) := by decide +kernel
theorem dX11_straight_35 : decode cX11_straight 35 = .ok (.getfield 83, 3) := by decide +kernel
theorem dX11_straight_38 : decode cX11_straight 38 = .ok (.getfield 321, 3) := by decide +kernel
theorem dX11_straight_41 : decode cX11_straight 41 = .ok (.ifCond .eq 5, 3) := by decide +kernel
theorem dX11_straight_44 : decode cX11_straight 44 = .ok (.iconst (-1), 1) := by decide +kernel
theorem dX11_straight_45 : decode cX11_straight 45 = .ok (.ireturn, 1) := by decide +kernel
theorem dX11_straight_46 : decode cX11_straight 46 = .ok (.iload_n 1, 1) := by decide +kernel
theorem dX11_straight_47 : decode cX11_straight 47 = .ok (.ifCond .ne 13, 3) := by decide +kernel
theorem dX11_straight_50 : decode cX11_straight 50 = .ok (.aload_n 0, 1) := by decide +kernel
theorem dX11_straight_51 : decode cX11_straight 51 = .ok (.getfield 83, 3) := by decide +kernel
theorem dX11_straight_54 : decode cX11_straight 54 = .ok (.getfield 324, 3) := by decide +kernel
theorem dX11_straight_57 : decode cX11_straight 57 = .ok (.goto 10, 3) := by decide +kernel
theorem dX11_straight_60 : decode cX11_straight 60 = .ok (.aload_n 0, 1) := by decide +kernel
theorem dX11_straight_61 : decode cX11_straight 61 = .ok (.getfield 83, 3) := by decide +kernel
theorem dX11_straight_64 : decode cX11_straight 64 = .ok (.getfield 327, 3) := by decide +kernel
theorem dX11_straight_67 : decode cX11_straight 67 = .ok (.ireturn, 1) := by decide +kernel
theorem dX11_sung_0 : decode cX11_sung 0 = .ok (.aload_n 0, 1) := by decide +kernel
theorem dX11_sung_1 : decode cX11_sung 1 = .ok (.getfield 43, 3) := by decide +kernel
theorem dX11_sung_4 : decode cX11_sung 4 = .ok (.iload_n 1, 1) := by decide +kernel
theorem dX11_sung_5 : decode cX11_sung 5 = .ok (.invokevirtual 221, 3) := by decide +kernel
theorem dX11_sung_8 : decode cX11_sung 8 = .ok (.ifCond .ne 5, 3) := by decide +kernel
theorem dX11_sung_11 : decode cX11_sung 11 = .ok (.iconst (-1), 1) := by decide +kernel
theorem dX11_sung_12 : decode cX11_sung 12 = .ok (.ireturn, 1) := by decide +kernel
theorem dX11_sung_13 : decode cX11_sung 13 = .ok (.iload_n 2, 1) := by decide +kernel
theorem dX11_sung_14 : decode cX11_sung 14 = .ok (.iconst (-1), 1) := by decide +kernel
theorem dX11_sung_15 : decode cX11_sung 15 = .ok (.if_icmp .ne 13, 3) := by decide +kernel
theorem dX11_sung_18 : decode cX11_sung 18 = .ok (.aload_n 0, 1) := by decide +kernel
theorem dX11_sung_19 : decode cX11_sung 19 = .ok (.getfield 43, 3) := by decide +kernel
theorem dX11_sung_22 : decode cX11_sung 22 = .ok (.getfield 202, 3) := by decide +kernel
theorem dX11_sung_25 : decode cX11_sung 25 = .ok (.iload_n 1, 1) := by decide +kernel
theorem dX11_sung_26 : decode cX11_sung 26 = .ok (.iaload, 1) := by decide +kernel
theorem dX11_sung_27 : decode cX11_sung 27 = .ok (.ireturn, 1) := by decide +kernel
theorem dX11_sung_28 : decode cX11_sung 28 = .ok (.iload_n 2, 1) := by decide +kernel
theorem dX11_sung_29 : decode cX11_sung 29 = .ok (.ifCond .lt 30, 3) := by decide +kernel
theorem dX11_sung_32 : decode cX11_sung 32 = .ok (.iload_n 2, 1) := by decide +kernel
theorem dX11_sung_33 : decode cX11_sung 33 = .ok (.aload_n 0, 1) := by decide +kernel
theorem dX11_sung_34 : decode cX11_sung 34 = .ok (.getfield 43, 3) := by decide +kernel
theorem dX11_sung_37 : decode cX11_sung 37 = .ok (.getfield 202, 3) := by decide +kernel
theorem dX11_sung_40 : decode cX11_sung 40 = .ok (.iload_n 1, 1) := by decide +kernel
theorem dX11_sung_41 : decode cX11_sung 41 = .ok (.iaload, 1) := by decide +kernel
theorem dX11_sung_42 : decode cX11_sung 42 = .ok (.if_icmp .ge 17, 3) := by decide +kernel
theorem dX11_sung_45 : decode cX11_sung 45 = .ok (.aload_n 0, 1) := by decide +kernel
theorem dX11_sung_46 : decode cX11_sung 46 = .ok (.getfield 43, 3) := by decide +kernel
theorem dX11_sung_49 : decode cX11_sung 49 = .ok (.getfield 198, 3) := by decide +kernel
theorem dX11_sung_52 : decode cX11_sung 52 = .ok (.iload_n 1, 1) := by decide +kernel
theorem dX11_sung_53 : decode cX11_sung 53 = .ok (.aaload, 1) := by decide +kernel
theorem dX11_sung_54 : decode cX11_sung 54 = .ok (.iload_n 2, 1) := by decide +kernel
theorem dX11_sung_55 : decode cX11_sung 55 = .ok (.iaload, 1) := by decide +kernel
theorem dX11_sung_56 : decode cX11_sung 56 = .ok (.goto 4, 3) := by decide +kernel
theorem dX11_sung_59 : decode cX11_sung 59 = .ok (.iconst (-1), 1) := by decide +kernel
theorem dX11_sung_60 : decode cX11_sung 60 = .ok (.ireturn, 1) := by decide +kernel
theorem dX11_text_0 : decode cX11_text 0 = .ok (.aload_n 0, 1) := by decide +kernel
theorem dX11_text_1 : decode cX11_text 1 = .ok (.iload_n 1, 1) := by decide +kernel
theorem dX11_text_2 : decode cX11_text 2 = .ok (.invokevirtual 123, 3) := by decide +kernel
theorem dX11_text_5 : decode cX11_text 5 = .ok (.iconst (-1), 1) := by decide +kernel
theorem dX11_text_6 : decode cX11_text 6 = .ok (.if_icmp .eq 5, 3) := by decide +kernel
theorem dX11_text_9 : decode cX11_text 9 = .ok (.iconst (-1), 1) := by decide +kernel
theorem dX11_text_10 : decode cX11_text 10 = .ok (.ireturn, 1) := by decide +kernel
theorem dX11_text_11 : decode cX11_text 11 = .ok (.iload_n 1, 1) := by decide +kernel
theorem dX11_text_12 : decode cX11_text 12 = .ok (.lookupswitch 55 #[(0, 28), (1, 36)], 28) := by decide +kernel
theorem dX11_text_40 : decode cX11_text 40 = .ok (.aload_n 0, 1) := by decide +kernel
theorem dX11_text_41 : decode cX11_text 41 = .ok (.invokevirtual 126, 3) := by decide +kernel
theorem dX11_text_44 : decode cX11_text 44 = .ok (.istore_n 2, 1) := by decide +kernel
theorem dX11_text_45 : decode cX11_text 45 = .ok (.goto 44, 3) := by decide +kernel
theorem dX11_text_48 : decode cX11_text 48 = .ok (.aload_n 0, 1) := by decide +kernel
theorem dX11_text_49 : decode cX11_text 49 = .ok (.getfield 39, 3) := by decide +kernel
theorem dX11_text_52 : decode cX11_text 52 = .ok (.aload_n 0, 1) := by decide +kernel
theorem dX11_text_53 : decode cX11_text 53 = .ok (.getfield 9, 3) := by decide +kernel
theorem dX11_text_56 : decode cX11_text 56 = .ok (.aload_n 0, 1) := by decide +kernel
theorem dX11_text_57 : decode cX11_text 57 = .ok (.getfield 100, 3) := by decide +kernel
theorem dX11_text_60 : decode cX11_text 60 = .ok (.invokevirtual 130, 3) := by decide +kernel
theorem dX11_text_63 : decode cX11_text 63 = .ok (.istore_n 2, 1) := by decide +kernel
theorem dX11_text_64 : decode cX11_text 64 = .ok (.goto 25, 3) := by decide +kernel
theorem dX11_text_67 : decode cX11_text 67 = .ok (.aload_n 0, 1) := by decide +kernel
theorem dX11_text_68 : decode cX11_text 68 = .ok (.getfield 43, 3) := by decide +kernel
theorem dX11_text_71 : decode cX11_text 71 = .ok (.aload_n 0, 1) := by decide +kernel
theorem dX11_text_72 : decode cX11_text 72 = .ok (.getfield 30, 3) := by decide +kernel
theorem dX11_text_75 : decode cX11_text 75 = .ok (.getfield 133, 3) := by decide +kernel
theorem dX11_text_78 : decode cX11_text 78 = .ok (.aload_n 0, 1) := by decide +kernel
theorem dX11_text_79 : decode cX11_text 79 = .ok (.getfield 30, 3) := by decide +kernel
theorem dX11_text_82 : decode cX11_text 82 = .ok (.getfield 136, 3) := by decide +kernel
theorem dX11_text_85 : decode cX11_text 85 = .ok (.invokevirtual 130, 3) := by decide +kernel
theorem dX11_text_88 : decode cX11_text 88 = .ok (.istore_n 2, 1) := by decide +kernel
theorem dX11_text_89 : decode cX11_text 89 = .ok (.iload_n 2, 1) := by decide +kernel
theorem dX11_text_90 : decode cX11_text 90 = .ok (.iconst (-1), 1) := by decide +kernel
theorem dX11_text_91 : decode cX11_text 91 = .ok (.if_icmp .eq 8, 3) := by decide +kernel
theorem dX11_text_94 : decode cX11_text 94 = .ok (.aload_n 0, 1) := by decide +kernel
theorem dX11_text_95 : decode cX11_text 95 = .ok (.iconst 0, 1) := by decide +kernel
theorem dX11_text_96 : decode cX11_text 96 = .ok (.putfield 100, 3) := by decide +kernel
theorem dX11_text_99 : decode cX11_text 99 = .ok (.iload_n 2, 1) := by decide +kernel
theorem dX11_text_100 : decode cX11_text 100 = .ok (.ireturn, 1) := by decide +kernel
theorem dX11_undo_0 : decode cX11_undo 0 = .ok (.aload_n 0, 1) := by decide +kernel
theorem dX11_undo_1 : decode cX11_undo 1 = .ok (.getfield 69, 3) := by decide +kernel
theorem dX11_undo_4 : decode cX11_undo 4 = .ok (.aload_n 0, 1) := by decide +kernel
theorem dX11_undo_5 : decode cX11_undo 5 = .ok (.getfield 49, 3) := by decide +kernel
theorem dX11_undo_8 : decode cX11_undo 8 = .ok (.invokevirtual 282, 3) := by decide +kernel
theorem dX11_undo_11 : decode cX11_undo 11 = .ok (.ifCond .eq 13, 3) := by decide +kernel
theorem dX11_undo_14 : decode cX11_undo 14 = .ok (.aload_n 0, 1) := by decide +kernel
theorem dX11_undo_15 : decode cX11_undo 15 = .ok (.getfield 69, 3) := by decide +kernel
theorem dX11_undo_18 : decode cX11_undo 18 = .ok (.getfield 286, 3) := by decide +kernel
theorem dX11_undo_21 : decode cX11_undo 21 = .ok (.goto 4, 3) := by decide +kernel
theorem dX11_undo_24 : decode cX11_undo 24 = .ok (.iconst (-1), 1) := by decide +kernel
theorem dX11_undo_25 : decode cX11_undo 25 = .ok (.ireturn, 1) := by decide +kernel
theorem dX11_worthAfter_0 : decode cX11_worthAfter 0 = .ok (.aload_n 0, 1) := by decide +kernel
theorem dX11_worthAfter_1 : decode cX11_worthAfter 1 = .ok (.getfield 49, 3) := by decide +kernel
theorem dX11_worthAfter_4 : decode cX11_worthAfter 4 = .ok (.iload_n 3, 1) := by decide +kernel
theorem dX11_worthAfter_5 : decode cX11_worthAfter 5 = .ok (.invokevirtual 157, 3) := by decide +kernel
theorem dX11_worthAfter_8 : decode cX11_worthAfter 8 = .ok (.ifCond .eq 12, 3) := by decide +kernel
theorem dX11_worthAfter_11 : decode cX11_worthAfter 11 = .ok (.aload_n 0, 1) := by decide +kernel
theorem dX11_worthAfter_12 : decode cX11_worthAfter 12 = .ok (.iload_n 1, 1) := by decide +kernel
theorem dX11_worthAfter_13 : decode cX11_worthAfter 13 = .ok (.iload_n 2, 1) := by decide +kernel
theorem dX11_worthAfter_14 : decode cX11_worthAfter 14 = .ok (.invokevirtual 294, 3) := by decide +kernel
theorem dX11_worthAfter_17 : decode cX11_worthAfter 17 = .ok (.ifCond .ne 6, 3) := by decide +kernel
theorem dX11_worthAfter_20 : decode cX11_worthAfter 20 = .ok (.ldc 220, 2) := by decide +kernel
theorem dX11_worthAfter_22 : decode cX11_worthAfter 22 = .ok (.ireturn, 1) := by decide +kernel
theorem dX11_worthAfter_23 : decode cX11_worthAfter 23 = .ok (.aload_n 0, 1) := by decide +kernel
theorem dX11_worthAfter_24 : decode cX11_worthAfter 24 = .ok (.getfield 56, 3) := by decide +kernel
theorem dX11_worthAfter_27 : decode cX11_worthAfter 27 = .ok (.getfield 168, 3) := by decide +kernel
theorem dX11_worthAfter_30 : decode cX11_worthAfter 30 = .ok (.iload_n 3, 1) := by decide +kernel
theorem dX11_worthAfter_31 : decode cX11_worthAfter 31 = .ok (.iaload, 1) := by decide +kernel
theorem dX11_worthAfter_32 : decode cX11_worthAfter 32 = .ok (.ireturn, 1) := by decide +kernel
theorem dX11_years_0 : decode cX11_years 0 = .ok (.aload_n 0, 1) := by decide +kernel
theorem dX11_years_1 : decode cX11_years 1 = .ok (.getfield 49, 3) := by decide +kernel
theorem dX11_years_4 : decode cX11_years 4 = .ok (.getfield 154, 3) := by decide +kernel
theorem dX11_years_7 : decode cX11_years 7 = .ok (.ifCond .eq 29, 3) := by decide +kernel
theorem dX11_years_10 : decode cX11_years 10 = .ok (.iload_n 1, 1) := by decide +kernel
theorem dX11_years_11 : decode cX11_years 11 = .ok (.iconst 1, 1) := by decide +kernel
theorem dX11_years_12 : decode cX11_years 12 = .ok (.if_icmp .lt 24, 3) := by decide +kernel
theorem dX11_years_15 : decode cX11_years 15 = .ok (.iload_n 1, 1) := by decide +kernel
theorem dX11_years_16 : decode cX11_years 16 = .ok (.bipush 30, 2) := by decide +kernel
theorem dX11_years_18 : decode cX11_years 18 = .ok (.if_icmp .gt 18, 3) := by decide +kernel
theorem dX11_years_21 : decode cX11_years 21 = .ok (.aload_n 0, 1) := by decide +kernel
theorem dX11_years_22 : decode cX11_years 22 = .ok (.getfield 49, 3) := by decide +kernel
theorem dX11_years_25 : decode cX11_years 25 = .ok (.getfield 195, 3) := by decide +kernel
theorem dX11_years_28 : decode cX11_years 28 = .ok (.iload_n 1, 1) := by decide +kernel
theorem dX11_years_29 : decode cX11_years 29 = .ok (.iadd, 1) := by decide +kernel
theorem dX11_years_30 : decode cX11_years 30 = .ok (.sipush 9999, 3) := by decide +kernel
theorem dX11_years_33 : decode cX11_years 33 = .ok (.if_icmp .le 5, 3) := by decide +kernel
theorem dX11_years_36 : decode cX11_years 36 = .ok (.iconst (-1), 1) := by decide +kernel
theorem dX11_years_37 : decode cX11_years 37 = .ok (.ireturn, 1) := by decide +kernel
theorem dX11_years_38 : decode cX11_years 38 = .ok (.lload_n 2, 1) := by decide +kernel
theorem dX11_years_39 : decode cX11_years 39 = .ok (.lstore 4, 2) := by decide +kernel
theorem dX11_years_41 : decode cX11_years 41 = .ok (.iconst 0, 1) := by decide +kernel
theorem dX11_years_42 : decode cX11_years 42 = .ok (.istore 6, 2) := by decide +kernel
theorem dX11_years_44 : decode cX11_years 44 = .ok (.iload 6, 2) := by decide +kernel
theorem dX11_years_46 : decode cX11_years 46 = .ok (.iload_n 1, 1) := by decide +kernel
theorem dX11_years_47 : decode cX11_years 47 = .ok (.if_icmp .ge 17, 3) := by decide +kernel
theorem dX11_years_50 : decode cX11_years 50 = .ok (.aload_n 0, 1) := by decide +kernel
theorem dX11_years_51 : decode cX11_years 51 = .ok (.lload 4, 2) := by decide +kernel
theorem dX11_years_53 : decode cX11_years 53 = .ok (.invokevirtual 267, 3) := by decide +kernel
theorem dX11_years_56 : decode cX11_years 56 = .ok (.lstore 4, 2) := by decide +kernel
theorem dX11_years_58 : decode cX11_years 58 = .ok (.iinc 6 1, 3) := by decide +kernel
theorem dX11_years_61 : decode cX11_years 61 = .ok (.goto (-17), 3) := by decide +kernel
theorem dX11_years_64 : decode cX11_years 64 = .ok (.aload_n 0, 1) := by decide +kernel
theorem dX11_years_65 : decode cX11_years 65 = .ok (.getfield 49, 3) := by decide +kernel
theorem dX11_years_68 : decode cX11_years 68 = .ok (.getfield 195, 3) := by decide +kernel
theorem dX11_years_71 : decode cX11_years 71 = .ok (.ireturn, 1) := by decide +kernel
