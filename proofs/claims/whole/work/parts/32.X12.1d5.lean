theorem dX12_fewest_27 : decode cX12_fewest 27 = .ok (.lconst 1, 1) := by decide +kernel
theorem dX12_fewest_28 : decode cX12_fewest 28 = .ok (.invokestatic 232, 3) := by decide +kernel
theorem dX12_fewest_31 : decode cX12_fewest 31 = .ok (.ifCond .ne 5, 3) := by decide +kernel
theorem dX12_fewest_34 : decode cX12_fewest 34 = .ok (.iconst (-1), 1) := by decide +kernel
theorem dX12_fewest_35 : decode cX12_fewest 35 = .ok (.ireturn, 1) := by decide +kernel
theorem dX12_fewest_36 : decode cX12_fewest 36 = .ok (.aload_n 0, 1) := by decide +kernel
theorem dX12_fewest_37 : decode cX12_fewest 37 = .ok (.iconst 2, 1) := by decide +kernel
theorem dX12_fewest_38 : decode cX12_fewest 38 = .ok (.iload_n 1, 1) := by decide +kernel
theorem dX12_fewest_39 : decode cX12_fewest 39 = .ok (.invokevirtual 475, 3) := by decide +kernel
theorem dX12_fewest_42 : decode cX12_fewest 42 = .ok (.iload_n 2, 1) := by decide +kernel
theorem dX12_fewest_43 : decode cX12_fewest 43 = .ok (.ifCond .ne 10, 3) := by decide +kernel
theorem dX12_fewest_46 : decode cX12_fewest 46 = .ok (.aload_n 0, 1) := by decide +kernel
theorem dX12_fewest_47 : decode cX12_fewest 47 = .ok (.getfield 462, 3) := by decide +kernel
theorem dX12_fewest_50 : decode cX12_fewest 50 = .ok (.goto 7, 3) := by decide +kernel
theorem dX12_fewest_53 : decode cX12_fewest 53 = .ok (.aload_n 0, 1) := by decide +kernel
theorem dX12_fewest_54 : decode cX12_fewest 54 = .ok (.getfield 459, 3) := by decide +kernel
theorem dX12_fewest_57 : decode cX12_fewest 57 = .ok (.ireturn, 1) := by decide +kernel
theorem dX12_forgives_0 : decode cX12_forgives 0 = .ok (.aload_n 0, 1) := by decide +kernel
theorem dX12_forgives_1 : decode cX12_forgives 1 = .ok (.iconst 0, 1) := by decide +kernel
theorem dX12_forgives_2 : decode cX12_forgives 2 = .ok (.putfield 111, 3) := by decide +kernel
theorem dX12_forgives_5 : decode cX12_forgives 5 = .ok (.aload_n 0, 1) := by decide +kernel
theorem dX12_forgives_6 : decode cX12_forgives 6 = .ok (.iload_n 1, 1) := by decide +kernel
theorem dX12_forgives_7 : decode cX12_forgives 7 = .ok (.invokevirtual 335, 3) := by decide +kernel
theorem dX12_forgives_10 : decode cX12_forgives 10 = .ok (.ifCond .eq 11, 3) := by decide +kernel
theorem dX12_forgives_13 : decode cX12_forgives 13 = .ok (.aload_n 0, 1) := by decide +kernel
theorem dX12_forgives_14 : decode cX12_forgives 14 = .ok (.iload_n 2, 1) := by decide +kernel
theorem dX12_forgives_15 : decode cX12_forgives 15 = .ok (.invokevirtual 335, 3) := by decide +kernel
theorem dX12_forgives_18 : decode cX12_forgives 18 = .ok (.ifCond .ne 12, 3) := by decide +kernel
theorem dX12_forgives_21 : decode cX12_forgives 21 = .ok (.aload_n 0, 1) := by decide +kernel
theorem dX12_forgives_22 : decode cX12_forgives 22 = .ok (.iconst 0, 1) := by decide +kernel
theorem dX12_forgives_23 : decode cX12_forgives 23 = .ok (.ldc_w 380, 3) := by decide +kernel
theorem dX12_forgives_26 : decode cX12_forgives 26 = .ok (.invokevirtual 397, 3) := by decide +kernel
theorem dX12_forgives_29 : decode cX12_forgives 29 = .ok (.ireturn, 1) := by decide +kernel
theorem dX12_forgives_30 : decode cX12_forgives 30 = .ok (.iload_n 1, 1) := by decide +kernel
theorem dX12_forgives_31 : decode cX12_forgives 31 = .ok (.iload_n 2, 1) := by decide +kernel
theorem dX12_forgives_32 : decode cX12_forgives 32 = .ok (.if_icmp .ne 12, 3) := by decide +kernel
theorem dX12_forgives_35 : decode cX12_forgives 35 = .ok (.aload_n 0, 1) := by decide +kernel
theorem dX12_forgives_36 : decode cX12_forgives 36 = .ok (.iconst 1, 1) := by decide +kernel
theorem dX12_forgives_37 : decode cX12_forgives 37 = .ok (.ldc_w 380, 3) := by decide +kernel
theorem dX12_forgives_40 : decode cX12_forgives 40 = .ok (.invokevirtual 397, 3) := by decide +kernel
theorem dX12_forgives_43 : decode cX12_forgives 43 = .ok (.ireturn, 1) := by decide +kernel
theorem dX12_forgives_44 : decode cX12_forgives 44 = .ok (.aload_n 0, 1) := by decide +kernel
theorem dX12_forgives_45 : decode cX12_forgives 45 = .ok (.getfield 61, 3) := by decide +kernel
theorem dX12_forgives_48 : decode cX12_forgives 48 = .ok (.bipush 6, 2) := by decide +kernel
theorem dX12_forgives_50 : decode cX12_forgives 50 = .ok (.iload_n 1, 1) := by decide +kernel
theorem dX12_forgives_51 : decode cX12_forgives 51 = .ok (.imul, 1) := by decide +kernel
theorem dX12_forgives_52 : decode cX12_forgives 52 = .ok (.iload_n 2, 1) := by decide +kernel
theorem dX12_forgives_53 : decode cX12_forgives 53 = .ok (.iadd, 1) := by decide +kernel
theorem dX12_forgives_54 : decode cX12_forgives 54 = .ok (.iaload, 1) := by decide +kernel
theorem dX12_forgives_55 : decode cX12_forgives 55 = .ok (.istore_n 3, 1) := by decide +kernel
theorem dX12_forgives_56 : decode cX12_forgives 56 = .ok (.iload_n 3, 1) := by decide +kernel
theorem dX12_forgives_57 : decode cX12_forgives 57 = .ok (.ifCond .ne 12, 3) := by decide +kernel
theorem dX12_forgives_60 : decode cX12_forgives 60 = .ok (.aload_n 0, 1) := by decide +kernel
theorem dX12_forgives_61 : decode cX12_forgives 61 = .ok (.iconst 2, 1) := by decide +kernel
theorem dX12_forgives_62 : decode cX12_forgives 62 = .ok (.ldc_w 380, 3) := by decide +kernel
theorem dX12_forgives_65 : decode cX12_forgives 65 = .ok (.invokevirtual 397, 3) := by decide +kernel
theorem dX12_forgives_68 : decode cX12_forgives 68 = .ok (.ireturn, 1) := by decide +kernel
theorem dX12_forgives_69 : decode cX12_forgives 69 = .ok (.aload_n 0, 1) := by decide +kernel
theorem dX12_forgives_70 : decode cX12_forgives 70 = .ok (.invokevirtual 388, 3) := by decide +kernel
theorem dX12_forgives_73 : decode cX12_forgives 73 = .ok (.aload_n 0, 1) := by decide +kernel
theorem dX12_forgives_74 : decode cX12_forgives 74 = .ok (.getfield 61, 3) := by decide +kernel
theorem dX12_forgives_77 : decode cX12_forgives 77 = .ok (.iload_n 1, 1) := by decide +kernel
theorem dX12_forgives_78 : decode cX12_forgives 78 = .ok (.iload_n 2, 1) := by decide +kernel
theorem dX12_forgives_79 : decode cX12_forgives 79 = .ok (.invokestatic 407, 3) := by decide +kernel
theorem dX12_forgives_82 : decode cX12_forgives 82 = .ok (.iload_n 3, 1) := by decide +kernel
theorem dX12_forgives_83 : decode cX12_forgives 83 = .ok (.ireturn, 1) := by decide +kernel
theorem dX12_perhaps_0 : decode cX12_perhaps 0 = .ok (.aload_n 0, 1) := by decide +kernel
theorem dX12_perhaps_1 : decode cX12_perhaps 1 = .ok (.aload_n 1, 1) := by decide +kernel
theorem dX12_perhaps_2 : decode cX12_perhaps 2 = .ok (.iload_n 2, 1) := by decide +kernel
theorem dX12_perhaps_3 : decode cX12_perhaps 3 = .ok (.invokevirtual 403, 3) := by decide +kernel
theorem dX12_perhaps_6 : decode cX12_perhaps 6 = .ok (.ifCond .eq 9, 3) := by decide +kernel
theorem dX12_perhaps_9 : decode cX12_perhaps 9 = .ok (.aload_n 0, 1) := by decide +kernel
theorem dX12_perhaps_10 : decode cX12_perhaps 10 = .ok (.aload_n 1, 1) := by decide +kernel
theorem dX12_perhaps_11 : decode cX12_perhaps 11 = .ok (.iload_n 2, 1) := by decide +kernel
theorem dX12_perhaps_12 : decode cX12_perhaps 12 = .ok (.invokevirtual 391, 3) := by decide +kernel
theorem dX12_perhaps_15 : decode cX12_perhaps 15 = .ok (.return_, 1) := by decide +kernel
theorem dX12_gameOf_0 : decode cX12_gameOf 0 = .ok (.aload_n 0, 1) := by decide +kernel
theorem dX12_gameOf_1 : decode cX12_gameOf 1 = .ok (.getfield 61, 3) := by decide +kernel
theorem dX12_gameOf_4 : decode cX12_gameOf 4 = .ok (.aload_n 0, 1) := by decide +kernel
theorem dX12_gameOf_5 : decode cX12_gameOf 5 = .ok (.getfield 64, 3) := by decide +kernel
theorem dX12_gameOf_8 : decode cX12_gameOf 8 = .ok (.invokestatic 428, 3) := by decide +kernel
theorem dX12_gameOf_11 : decode cX12_gameOf 11 = .ok (.iload_n 3, 1) := by decide +kernel
theorem dX12_gameOf_12 : decode cX12_gameOf 12 = .ok (.iconst 1, 1) := by decide +kernel
theorem dX12_gameOf_13 : decode cX12_gameOf 13 = .ok (.if_icmp .ne 12, 3) := by decide +kernel
theorem dX12_gameOf_16 : decode cX12_gameOf 16 = .ok (.aload_n 0, 1) := by decide +kernel
theorem dX12_gameOf_17 : decode cX12_gameOf 17 = .ok (.aload_n 0, 1) := by decide +kernel
theorem dX12_gameOf_18 : decode cX12_gameOf 18 = .ok (.getfield 64, 3) := by decide +kernel
theorem dX12_gameOf_21 : decode cX12_gameOf 21 = .ok (.iload_n 1, 1) := by decide +kernel
theorem dX12_gameOf_22 : decode cX12_gameOf 22 = .ok (.invokevirtual 492, 3) := by decide +kernel
theorem dX12_gameOf_25 : decode cX12_gameOf 25 = .ok (.iload 4, 2) := by decide +kernel
theorem dX12_gameOf_27 : decode cX12_gameOf 27 = .ok (.iconst 1, 1) := by decide +kernel
theorem dX12_gameOf_28 : decode cX12_gameOf 28 = .ok (.if_icmp .ne 12, 3) := by decide +kernel
theorem dX12_gameOf_31 : decode cX12_gameOf 31 = .ok (.aload_n 0, 1) := by decide +kernel
theorem dX12_gameOf_32 : decode cX12_gameOf 32 = .ok (.aload_n 0, 1) := by decide +kernel
theorem dX12_gameOf_33 : decode cX12_gameOf 33 = .ok (.getfield 64, 3) := by decide +kernel
theorem dX12_gameOf_36 : decode cX12_gameOf 36 = .ok (.iload_n 2, 1) := by decide +kernel
theorem dX12_gameOf_37 : decode cX12_gameOf 37 = .ok (.invokevirtual 492, 3) := by decide +kernel
theorem dX12_gameOf_40 : decode cX12_gameOf 40 = .ok (.iload 5, 2) := by decide +kernel
theorem dX12_gameOf_42 : decode cX12_gameOf 42 = .ok (.ifCond .ne 7, 3) := by decide +kernel
theorem dX12_gameOf_45 : decode cX12_gameOf 45 = .ok (.iload_n 1, 1) := by decide +kernel
theorem dX12_gameOf_46 : decode cX12_gameOf 46 = .ok (.goto 4, 3) := by decide +kernel
theorem dX12_gameOf_49 : decode cX12_gameOf 49 = .ok (.iload_n 2, 1) := by decide +kernel
theorem dX12_gameOf_50 : decode cX12_gameOf 50 = .ok (.istore 6, 2) := by decide +kernel
theorem dX12_gameOf_52 : decode cX12_gameOf 52 = .ok (.aload_n 0, 1) := by decide +kernel
theorem dX12_gameOf_53 : decode cX12_gameOf 53 = .ok (.aload_n 0, 1) := by decide +kernel
theorem dX12_gameOf_54 : decode cX12_gameOf 54 = .ok (.getfield 64, 3) := by decide +kernel
theorem dX12_gameOf_57 : decode cX12_gameOf 57 = .ok (.iload 6, 2) := by decide +kernel
theorem dX12_gameOf_59 : decode cX12_gameOf 59 = .ok (.invokevirtual 370, 3) := by decide +kernel
theorem dX12_gameOf_62 : decode cX12_gameOf 62 = .ok (.aload_n 0, 1) := by decide +kernel
theorem dX12_gameOf_63 : decode cX12_gameOf 63 = .ok (.aload_n 0, 1) := by decide +kernel
theorem dX12_gameOf_64 : decode cX12_gameOf 64 = .ok (.getfield 64, 3) := by decide +kernel
theorem dX12_gameOf_67 : decode cX12_gameOf 67 = .ok (.iload 6, 2) := by decide +kernel
theorem dX12_gameOf_69 : decode cX12_gameOf 69 = .ok (.invokevirtual 353, 3) := by decide +kernel
theorem dX12_gameOf_72 : decode cX12_gameOf 72 = .ok (.isub, 1) := by decide +kernel
theorem dX12_gameOf_73 : decode cX12_gameOf 73 = .ok (.iload 5, 2) := by decide +kernel
theorem dX12_gameOf_75 : decode cX12_gameOf 75 = .ok (.ifCond .ne 7, 3) := by decide +kernel
theorem dX12_gameOf_78 : decode cX12_gameOf 78 = .ok (.iload_n 3, 1) := by decide +kernel
theorem dX12_gameOf_79 : decode cX12_gameOf 79 = .ok (.goto 5, 3) := by decide +kernel
theorem dX12_gameOf_82 : decode cX12_gameOf 82 = .ok (.iload 4, 2) := by decide +kernel
theorem dX12_gameOf_84 : decode cX12_gameOf 84 = .ok (.isub, 1) := by decide +kernel
theorem dX12_gameOf_85 : decode cX12_gameOf 85 = .ok (.ireturn, 1) := by decide +kernel
theorem dX12_game_0 : decode cX12_game 0 = .ok (.aload_n 0, 1) := by decide +kernel
theorem dX12_game_1 : decode cX12_game 1 = .ok (.iconst 0, 1) := by decide +kernel
theorem dX12_game_2 : decode cX12_game 2 = .ok (.putfield 111, 3) := by decide +kernel
theorem dX12_game_5 : decode cX12_game 5 = .ok (.aload_n 0, 1) := by decide +kernel
theorem dX12_game_6 : decode cX12_game 6 = .ok (.iload_n 1, 1) := by decide +kernel
theorem dX12_game_7 : decode cX12_game 7 = .ok (.iload_n 2, 1) := by decide +kernel
theorem dX12_game_8 : decode cX12_game 8 = .ok (.invokevirtual 495, 3) := by decide +kernel
theorem dX12_game_11 : decode cX12_game 11 = .ok (.ifCond .eq 49, 3) := by decide +kernel
theorem dX12_game_14 : decode cX12_game 14 = .ok (.iload_n 3, 1) := by decide +kernel
theorem dX12_game_15 : decode cX12_game 15 = .ok (.i2l, 1) := by decide +kernel
theorem dX12_game_16 : decode cX12_game 16 = .ok (.lconst 0, 1) := by decide +kernel
theorem dX12_game_17 : decode cX12_game 17 = .ok (.lconst 1, 1) := by decide +kernel
theorem dX12_game_18 : decode cX12_game 18 = .ok (.invokestatic 232, 3) := by decide +kernel
theorem dX12_game_21 : decode cX12_game 21 = .ok (.ifCond .eq 39, 3) := by decide +kernel
theorem dX12_game_24 : decode cX12_game 24 = .ok (.iload 4, 2) := by decide +kernel
theorem dX12_game_26 : decode cX12_game 26 = .ok (.i2l, 1) := by decide +kernel
theorem dX12_game_27 : decode cX12_game 27 = .ok (.lconst 0, 1) := by decide +kernel
theorem dX12_game_28 : decode cX12_game 28 = .ok (.lconst 1, 1) := by decide +kernel
theorem dX12_game_29 : decode cX12_game 29 = .ok (.invokestatic 232, 3) := by decide +kernel
theorem dX12_game_32 : decode cX12_game 32 = .ok (.ifCond .eq 28, 3) := by decide +kernel
theorem dX12_game_35 : decode cX12_game 35 = .ok (.iload 5, 2) := by decide +kernel
theorem dX12_game_37 : decode cX12_game 37 = .ok (.i2l, 1) := by decide +kernel
theorem dX12_game_38 : decode cX12_game 38 = .ok (.lconst 0, 1) := by decide +kernel
theorem dX12_game_39 : decode cX12_game 39 = .ok (.lconst 1, 1) := by decide +kernel
theorem dX12_game_40 : decode cX12_game 40 = .ok (.invokestatic 232, 3) := by decide +kernel
theorem dX12_game_43 : decode cX12_game 43 = .ok (.ifCond .eq 17, 3) := by decide +kernel
theorem dX12_game_46 : decode cX12_game 46 = .ok (.aload_n 0, 1) := by decide +kernel
theorem dX12_game_47 : decode cX12_game 47 = .ok (.iload_n 1, 1) := by decide +kernel
theorem dX12_game_48 : decode cX12_game 48 = .ok (.iload_n 2, 1) := by decide +kernel
theorem dX12_game_49 : decode cX12_game 49 = .ok (.iload_n 3, 1) := by decide +kernel
theorem dX12_game_50 : decode cX12_game 50 = .ok (.iload 4, 2) := by decide +kernel
theorem dX12_game_52 : decode cX12_game 52 = .ok (.iload 5, 2) := by decide +kernel
theorem dX12_game_54 : decode cX12_game 54 = .ok (.invokevirtual 498, 3) := by decide +kernel
theorem dX12_game_57 : decode cX12_game 57 = .ok (.goto 6, 3) := by decide +kernel
theorem dX12_game_60 : decode cX12_game 60 = .ok (.ldc_w 380, 3) := by decide +kernel
theorem dX12_game_63 : decode cX12_game 63 = .ok (.ireturn, 1) := by decide +kernel
theorem dX12_give_0 : decode cX12_give 0 = .ok (.aload_n 0, 1) := by decide +kernel
theorem dX12_give_1 : decode cX12_give 1 = .ok (.iconst 0, 1) := by decide +kernel
theorem dX12_give_2 : decode cX12_give 2 = .ok (.putfield 111, 3) := by decide +kernel
theorem dX12_give_5 : decode cX12_give 5 = .ok (.aload_n 0, 1) := by decide +kernel
theorem dX12_give_6 : decode cX12_give 6 = .ok (.getfield 307, 3) := by decide +kernel
theorem dX12_give_9 : decode cX12_give 9 = .ok (.ifCond .ne 10, 3) := by decide +kernel
theorem dX12_give_12 : decode cX12_give 12 = .ok (.aload_n 0, 1) := by decide +kernel
theorem dX12_give_13 : decode cX12_give 13 = .ok (.iconst 0, 1) := by decide +kernel
theorem dX12_give_14 : decode cX12_give 14 = .ok (.iconst (-1), 1) := by decide +kernel
theorem dX12_give_15 : decode cX12_give 15 = .ok (.invokevirtual 397, 3) := by decide +kernel
theorem dX12_give_18 : decode cX12_give 18 = .ok (.ireturn, 1) := by decide +kernel
theorem dX12_give_19 : decode cX12_give 19 = .ok (.iload_n 1, 1) := by decide +kernel
theorem dX12_give_20 : decode cX12_give 20 = .ok (.i2l, 1) := by decide +kernel
theorem dX12_give_21 : decode cX12_give 21 = .ok (.lconst 1, 1) := by decide +kernel
theorem dX12_give_22 : decode cX12_give 22 = .ok (.ldc2_w 411, 3) := by decide +kernel
theorem dX12_give_25 : decode cX12_give 25 = .ok (.invokestatic 232, 3) := by decide +kernel
theorem dX12_give_28 : decode cX12_give 28 = .ok (.ifCond .ne 10, 3) := by decide +kernel
theorem dX12_give_31 : decode cX12_give 31 = .ok (.aload_n 0, 1) := by decide +kernel
theorem dX12_give_32 : decode cX12_give 32 = .ok (.iconst 1, 1) := by decide +kernel
theorem dX12_give_33 : decode cX12_give 33 = .ok (.iconst (-1), 1) := by decide +kernel
theorem dX12_give_34 : decode cX12_give 34 = .ok (.invokevirtual 397, 3) := by decide +kernel
theorem dX12_give_37 : decode cX12_give 37 = .ok (.ireturn, 1) := by decide +kernel
theorem dX12_give_38 : decode cX12_give 38 = .ok (.aload_n 0, 1) := by decide +kernel
theorem dX12_give_39 : decode cX12_give 39 = .ok (.getfield 61, 3) := by decide +kernel
theorem dX12_give_42 : decode cX12_give 42 = .ok (.bipush 49, 2) := by decide +kernel
theorem dX12_give_44 : decode cX12_give 44 = .ok (.iaload, 1) := by decide +kernel
theorem dX12_give_45 : decode cX12_give 45 = .ok (.iload_n 1, 1) := by decide +kernel
theorem dX12_give_46 : decode cX12_give 46 = .ok (.iadd, 1) := by decide +kernel
theorem dX12_give_47 : decode cX12_give 47 = .ok (.sipush 999, 3) := by decide +kernel
theorem dX12_give_50 : decode cX12_give 50 = .ok (.if_icmp .le 10, 3) := by decide +kernel
theorem dX12_give_53 : decode cX12_give 53 = .ok (.aload_n 0, 1) := by decide +kernel
theorem dX12_give_54 : decode cX12_give 54 = .ok (.iconst 3, 1) := by decide +kernel
theorem dX12_give_55 : decode cX12_give 55 = .ok (.iconst (-1), 1) := by decide +kernel
theorem dX12_give_56 : decode cX12_give 56 = .ok (.invokevirtual 397, 3) := by decide +kernel
theorem dX12_give_59 : decode cX12_give 59 = .ok (.ireturn, 1) := by decide +kernel
theorem dX12_give_60 : decode cX12_give 60 = .ok (.aload_n 0, 1) := by decide +kernel
theorem dX12_give_61 : decode cX12_give 61 = .ok (.invokevirtual 388, 3) := by decide +kernel
theorem dX12_give_64 : decode cX12_give 64 = .ok (.aload_n 0, 1) := by decide +kernel
theorem dX12_give_65 : decode cX12_give 65 = .ok (.getfield 61, 3) := by decide +kernel
theorem dX12_give_68 : decode cX12_give 68 = .ok (.bipush 49, 2) := by decide +kernel
theorem dX12_give_70 : decode cX12_give 70 = .ok (.dup2, 1) := by decide +kernel
theorem dX12_give_71 : decode cX12_give 71 = .ok (.iaload, 1) := by decide +kernel
theorem dX12_give_72 : decode cX12_give 72 = .ok (.iload_n 1, 1) := by decide +kernel
theorem dX12_give_73 : decode cX12_give 73 = .ok (.iadd, 1) := by decide +kernel
theorem dX12_give_74 : decode cX12_give 74 = .ok (.iastore, 1) := by decide +kernel
theorem dX12_give_75 : decode cX12_give 75 = .ok (.aload_n 0, 1) := by decide +kernel
theorem dX12_give_76 : decode cX12_give 76 = .ok (.getfield 61, 3) := by decide +kernel
theorem dX12_give_79 : decode cX12_give 79 = .ok (.bipush 49, 2) := by decide +kernel
theorem dX12_give_81 : decode cX12_give 81 = .ok (.iaload, 1) := by decide +kernel
theorem dX12_give_82 : decode cX12_give 82 = .ok (.ireturn, 1) := by decide +kernel
theorem dX12_gives_0 : decode cX12_gives 0 = .ok (.aload_n 0, 1) := by decide +kernel
theorem dX12_gives_1 : decode cX12_gives 1 = .ok (.iconst 0, 1) := by decide +kernel
theorem dX12_gives_2 : decode cX12_gives 2 = .ok (.putfield 111, 3) := by decide +kernel
theorem dX12_gives_5 : decode cX12_gives 5 = .ok (.aload_n 0, 1) := by decide +kernel
theorem dX12_gives_6 : decode cX12_gives 6 = .ok (.iload_n 1, 1) := by decide +kernel
theorem dX12_gives_7 : decode cX12_gives 7 = .ok (.invokevirtual 335, 3) := by decide +kernel
theorem dX12_gives_10 : decode cX12_gives 10 = .ok (.ifCond .eq 11, 3) := by decide +kernel
theorem dX12_gives_13 : decode cX12_gives 13 = .ok (.aload_n 0, 1) := by decide +kernel
theorem dX12_gives_14 : decode cX12_gives 14 = .ok (.iload_n 2, 1) := by decide +kernel
theorem dX12_gives_15 : decode cX12_gives 15 = .ok (.invokevirtual 335, 3) := by decide +kernel
theorem dX12_gives_18 : decode cX12_gives 18 = .ok (.ifCond .ne 12, 3) := by decide +kernel
theorem dX12_gives_21 : decode cX12_gives 21 = .ok (.aload_n 0, 1) := by decide +kernel
theorem dX12_gives_22 : decode cX12_gives 22 = .ok (.iconst 0, 1) := by decide +kernel
theorem dX12_gives_23 : decode cX12_gives 23 = .ok (.ldc_w 380, 3) := by decide +kernel
theorem dX12_gives_26 : decode cX12_gives 26 = .ok (.invokevirtual 397, 3) := by decide +kernel
theorem dX12_gives_29 : decode cX12_gives 29 = .ok (.ireturn, 1) := by decide +kernel
theorem dX12_gives_30 : decode cX12_gives 30 = .ok (.iload_n 1, 1) := by decide +kernel
theorem dX12_gives_31 : decode cX12_gives 31 = .ok (.iload_n 2, 1) := by decide +kernel
theorem dX12_gives_32 : decode cX12_gives 32 = .ok (.if_icmp .eq 15, 3) := by decide +kernel
theorem dX12_gives_35 : decode cX12_gives 35 = .ok (.iload_n 3, 1) := by decide +kernel
theorem dX12_gives_36 : decode cX12_gives 36 = .ok (.i2l, 1) := by decide +kernel
theorem dX12_gives_37 : decode cX12_gives 37 = .ok (.lconst 1, 1) := by decide +kernel
theorem dX12_gives_38 : decode cX12_gives 38 = .ok (.ldc2_w 386, 3) := by decide +kernel
theorem dX12_gives_41 : decode cX12_gives 41 = .ok (.invokestatic 232, 3) := by decide +kernel
theorem dX12_gives_44 : decode cX12_gives 44 = .ok (.ifCond .ne 12, 3) := by decide +kernel
theorem dX12_gives_47 : decode cX12_gives 47 = .ok (.aload_n 0, 1) := by decide +kernel
theorem dX12_gives_48 : decode cX12_gives 48 = .ok (.iconst 1, 1) := by decide +kernel
theorem dX12_gives_49 : decode cX12_gives 49 = .ok (.ldc_w 380, 3) := by decide +kernel
theorem dX12_gives_52 : decode cX12_gives 52 = .ok (.invokevirtual 397, 3) := by decide +kernel
theorem dX12_gives_55 : decode cX12_gives 55 = .ok (.ireturn, 1) := by decide +kernel
theorem dX12_gives_56 : decode cX12_gives 56 = .ok (.aload_n 0, 1) := by decide +kernel
theorem dX12_gives_57 : decode cX12_gives 57 = .ok (.getfield 61, 3) := by decide +kernel
theorem dX12_gives_60 : decode cX12_gives 60 = .ok (.bipush 6, 2) := by decide +kernel
theorem dX12_gives_62 : decode cX12_gives 62 = .ok (.iload_n 1, 1) := by decide +kernel
theorem dX12_gives_63 : decode cX12_gives 63 = .ok (.imul, 1) := by decide +kernel
theorem dX12_gives_64 : decode cX12_gives 64 = .ok (.iload_n 2, 1) := by decide +kernel
theorem dX12_gives_65 : decode cX12_gives 65 = .ok (.iadd, 1) := by decide +kernel
theorem dX12_gives_66 : decode cX12_gives 66 = .ok (.iaload, 1) := by decide +kernel
theorem dX12_gives_67 : decode cX12_gives 67 = .ok (.iload_n 3, 1) := by decide +kernel
theorem dX12_gives_68 : decode cX12_gives 68 = .ok (.iadd, 1) := by decide +kernel
theorem dX12_gives_69 : decode cX12_gives 69 = .ok (.istore 4, 2) := by decide +kernel
theorem dX12_gives_71 : decode cX12_gives 71 = .ok (.iload 4, 2) := by decide +kernel
theorem dX12_gives_73 : decode cX12_gives 73 = .ok (.aload_n 0, 1) := by decide +kernel
theorem dX12_gives_74 : decode cX12_gives 74 = .ok (.getfield 37, 3) := by decide +kernel
theorem dX12_gives_77 : decode cX12_gives 77 = .ok (.iconst 1, 1) := by decide +kernel
theorem dX12_gives_78 : decode cX12_gives 78 = .ok (.iaload, 1) := by decide +kernel
theorem dX12_gives_79 : decode cX12_gives 79 = .ok (.if_icmp .le 12, 3) := by decide +kernel
theorem dX12_gives_82 : decode cX12_gives 82 = .ok (.aload_n 0, 1) := by decide +kernel
theorem dX12_gives_83 : decode cX12_gives 83 = .ok (.iconst 3, 1) := by decide +kernel
theorem dX12_gives_84 : decode cX12_gives 84 = .ok (.ldc_w 380, 3) := by decide +kernel
theorem dX12_gives_87 : decode cX12_gives 87 = .ok (.invokevirtual 397, 3) := by decide +kernel
theorem dX12_gives_90 : decode cX12_gives 90 = .ok (.ireturn, 1) := by decide +kernel
theorem dX12_gives_91 : decode cX12_gives 91 = .ok (.aload_n 0, 1) := by decide +kernel
theorem dX12_gives_92 : decode cX12_gives 92 = .ok (.invokevirtual 388, 3) := by decide +kernel
theorem dX12_gives_95 : decode cX12_gives 95 = .ok (.aload_n 0, 1) := by decide +kernel
theorem dX12_gives_96 : decode cX12_gives 96 = .ok (.getfield 61, 3) := by decide +kernel
theorem dX12_gives_99 : decode cX12_gives 99 = .ok (.bipush 6, 2) := by decide +kernel
theorem dX12_gives_101 : decode cX12_gives 101 = .ok (.iload_n 1, 1) := by decide +kernel
theorem dX12_gives_102 : decode cX12_gives 102 = .ok (.imul, 1) := by decide +kernel
theorem dX12_gives_103 : decode cX12_gives 103 = .ok (.iload_n 2, 1) := by decide +kernel
theorem dX12_gives_104 : decode cX12_gives 104 = .ok (.iadd, 1) := by decide +kernel
theorem dX12_gives_105 : decode cX12_gives 105 = .ok (.iload 4, 2) := by decide +kernel
theorem dX12_gives_107 : decode cX12_gives 107 = .ok (.iastore, 1) := by decide +kernel
theorem dX12_gives_108 : decode cX12_gives 108 = .ok (.aload_n 0, 1) := by decide +kernel
theorem dX12_gives_109 : decode cX12_gives 109 = .ok (.getfield 61, 3) := by decide +kernel
theorem dX12_gives_112 : decode cX12_gives 112 = .ok (.bipush 6, 2) := by decide +kernel
theorem dX12_gives_114 : decode cX12_gives 114 = .ok (.iload_n 2, 1) := by decide +kernel
theorem dX12_gives_115 : decode cX12_gives 115 = .ok (.imul, 1) := by decide +kernel
theorem dX12_gives_116 : decode cX12_gives 116 = .ok (.iload_n 1, 1) := by decide +kernel
theorem dX12_gives_117 : decode cX12_gives 117 = .ok (.iadd, 1) := by decide +kernel
theorem dX12_gives_118 : decode cX12_gives 118 = .ok (.iload 4, 2) := by decide +kernel
theorem dX12_gives_120 : decode cX12_gives 120 = .ok (.ineg, 1) := by decide +kernel
theorem dX12_gives_121 : decode cX12_gives 121 = .ok (.iastore, 1) := by decide +kernel
theorem dX12_gives_122 : decode cX12_gives 122 = .ok (.iload 4, 2) := by decide +kernel
theorem dX12_gives_124 : decode cX12_gives 124 = .ok (.ireturn, 1) := by decide +kernel
theorem dX12_grace_0 : decode cX12_grace 0 = .ok (.aload_n 0, 1) := by decide +kernel
theorem dX12_grace_1 : decode cX12_grace 1 = .ok (.iconst 0, 1) := by decide +kernel
theorem dX12_grace_2 : decode cX12_grace 2 = .ok (.putfield 111, 3) := by decide +kernel
theorem dX12_grace_5 : decode cX12_grace 5 = .ok (.iload_n 1, 1) := by decide +kernel
theorem dX12_grace_6 : decode cX12_grace 6 = .ok (.i2l, 1) := by decide +kernel
theorem dX12_grace_7 : decode cX12_grace 7 = .ok (.lconst 0, 1) := by decide +kernel
theorem dX12_grace_8 : decode cX12_grace 8 = .ok (.ldc2_w 386, 3) := by decide +kernel
theorem dX12_grace_11 : decode cX12_grace 11 = .ok (.invokestatic 232, 3) := by decide +kernel
theorem dX12_grace_14 : decode cX12_grace 14 = .ok (.ifCond .eq 11, 3) := by decide +kernel
theorem dX12_grace_17 : decode cX12_grace 17 = .ok (.iload_n 1, 1) := by decide +kernel
theorem dX12_grace_18 : decode cX12_grace 18 = .ok (.aload_n 0, 1) := by decide +kernel
theorem dX12_grace_19 : decode cX12_grace 19 = .ok (.getfield 74, 3) := by decide +kernel
theorem dX12_grace_22 : decode cX12_grace 22 = .ok (.if_icmp .ne 5, 3) := by decide +kernel
theorem dX12_grace_25 : decode cX12_grace 25 = .ok (.iconst 0, 1) := by decide +kernel
theorem dX12_grace_26 : decode cX12_grace 26 = .ok (.ireturn, 1) := by decide +kernel
theorem dX12_grace_27 : decode cX12_grace 27 = .ok (.aload_n 0, 1) := by decide +kernel
theorem dX12_grace_28 : decode cX12_grace 28 = .ok (.iload_n 1, 1) := by decide +kernel
theorem dX12_grace_29 : decode cX12_grace 29 = .ok (.putfield 74, 3) := by decide +kernel
theorem dX12_grace_32 : decode cX12_grace 32 = .ok (.iconst 1, 1) := by decide +kernel
theorem dX12_grace_33 : decode cX12_grace 33 = .ok (.ireturn, 1) := by decide +kernel
theorem dX12_house_0 : decode cX12_house 0 = .ok (.aload_n 0, 1) := by decide +kernel
theorem dX12_house_1 : decode cX12_house 1 = .ok (.aload_n 0, 1) := by decide +kernel
theorem dX12_house_2 : decode cX12_house 2 = .ok (.iload_n 1, 1) := by decide +kernel
theorem dX12_house_3 : decode cX12_house 3 = .ok (.invokevirtual 335, 3) := by decide +kernel
theorem dX12_house_6 : decode cX12_house 6 = .ok (.ifCond .eq 19, 3) := by decide +kernel
theorem dX12_house_9 : decode cX12_house 9 = .ok (.iload_n 2, 1) := by decide +kernel
theorem dX12_house_10 : decode cX12_house 10 = .ok (.i2l, 1) := by decide +kernel
theorem dX12_house_11 : decode cX12_house 11 = .ok (.lconst 0, 1) := by decide +kernel
theorem dX12_house_12 : decode cX12_house 12 = .ok (.ldc2_w 375, 3) := by decide +kernel
theorem dX12_house_15 : decode cX12_house 15 = .ok (.invokestatic 232, 3) := by decide +kernel
theorem dX12_house_18 : decode cX12_house 18 = .ok (.ifCond .eq 7, 3) := by decide +kernel
theorem dX12_house_21 : decode cX12_house 21 = .ok (.iconst 0, 1) := by decide +kernel
theorem dX12_house_22 : decode cX12_house 22 = .ok (.goto 4, 3) := by decide +kernel
theorem dX12_house_25 : decode cX12_house 25 = .ok (.iconst 1, 1) := by decide +kernel
theorem dX12_house_26 : decode cX12_house 26 = .ok (.putfield 111, 3) := by decide +kernel
theorem dX12_house_29 : decode cX12_house 29 = .ok (.aload_n 0, 1) := by decide +kernel
theorem dX12_house_30 : decode cX12_house 30 = .ok (.getfield 111, 3) := by decide +kernel
theorem dX12_house_33 : decode cX12_house 33 = .ok (.ifCond .le 5, 3) := by decide +kernel
theorem dX12_house_36 : decode cX12_house 36 = .ok (.iconst 0, 1) := by decide +kernel
theorem dX12_house_37 : decode cX12_house 37 = .ok (.ireturn, 1) := by decide +kernel
theorem dX12_house_38 : decode cX12_house 38 = .ok (.iload_n 2, 1) := by decide +kernel
theorem dX12_house_39 : decode cX12_house 39 = .ok (.tableswitch 100 0 5 #[37, 47, 58, 70, 80, 90], 37) := by decide +kernel
theorem dX12_house_76 : decode cX12_house 76 = .ok (.aload_n 0, 1) := by decide +kernel
theorem dX12_house_77 : decode cX12_house 77 = .ok (.getfield 61, 3) := by decide +kernel
theorem dX12_house_80 : decode cX12_house 80 = .ok (.bipush 36, 2) := by decide +kernel
theorem dX12_house_82 : decode cX12_house 82 = .ok (.iload_n 1, 1) := by decide +kernel
theorem dX12_house_83 : decode cX12_house 83 = .ok (.iadd, 1) := by decide +kernel
theorem dX12_house_84 : decode cX12_house 84 = .ok (.iaload, 1) := by decide +kernel
theorem dX12_house_85 : decode cX12_house 85 = .ok (.ireturn, 1) := by decide +kernel
theorem dX12_house_86 : decode cX12_house 86 = .ok (.aload_n 0, 1) := by decide +kernel
theorem dX12_house_87 : decode cX12_house 87 = .ok (.getfield 43, 3) := by decide +kernel
theorem dX12_house_90 : decode cX12_house 90 = .ok (.iconst 3, 1) := by decide +kernel
theorem dX12_house_91 : decode cX12_house 91 = .ok (.iload_n 1, 1) := by decide +kernel
theorem dX12_house_92 : decode cX12_house 92 = .ok (.imul, 1) := by decide +kernel
theorem dX12_house_93 : decode cX12_house 93 = .ok (.iconst 1, 1) := by decide +kernel
theorem dX12_house_94 : decode cX12_house 94 = .ok (.iadd, 1) := by decide +kernel
theorem dX12_house_95 : decode cX12_house 95 = .ok (.iaload, 1) := by decide +kernel
theorem dX12_house_96 : decode cX12_house 96 = .ok (.ireturn, 1) := by decide +kernel
theorem dX12_house_97 : decode cX12_house 97 = .ok (.aload_n 0, 1) := by decide +kernel
theorem dX12_house_98 : decode cX12_house 98 = .ok (.getfield 61, 3) := by decide +kernel
theorem dX12_house_101 : decode cX12_house 101 = .ok (.bipush 48, 2) := by decide +kernel
theorem dX12_house_103 : decode cX12_house 103 = .ok (.iaload, 1) := by decide +kernel
theorem dX12_house_104 : decode cX12_house 104 = .ok (.iload_n 1, 1) := by decide +kernel
theorem dX12_house_105 : decode cX12_house 105 = .ok (.ishr, 1) := by decide +kernel
theorem dX12_house_106 : decode cX12_house 106 = .ok (.iconst 1, 1) := by decide +kernel
theorem dX12_house_107 : decode cX12_house 107 = .ok (.iand, 1) := by decide +kernel
theorem dX12_house_108 : decode cX12_house 108 = .ok (.ireturn, 1) := by decide +kernel
theorem dX12_house_109 : decode cX12_house 109 = .ok (.aload_n 0, 1) := by decide +kernel
theorem dX12_house_110 : decode cX12_house 110 = .ok (.getfield 61, 3) := by decide +kernel
theorem dX12_house_113 : decode cX12_house 113 = .ok (.bipush 42, 2) := by decide +kernel
theorem dX12_house_115 : decode cX12_house 115 = .ok (.iload_n 1, 1) := by decide +kernel
theorem dX12_house_116 : decode cX12_house 116 = .ok (.iadd, 1) := by decide +kernel
theorem dX12_house_117 : decode cX12_house 117 = .ok (.iaload, 1) := by decide +kernel
theorem dX12_house_118 : decode cX12_house 118 = .ok (.ireturn, 1) := by decide +kernel
theorem dX12_house_119 : decode cX12_house 119 = .ok (.aload_n 0, 1) := by decide +kernel
theorem dX12_house_120 : decode cX12_house 120 = .ok (.aload_n 0, 1) := by decide +kernel
theorem dX12_house_121 : decode cX12_house 121 = .ok (.getfield 61, 3) := by decide +kernel
theorem dX12_house_124 : decode cX12_house 124 = .ok (.iload_n 1, 1) := by decide +kernel
theorem dX12_house_125 : decode cX12_house 125 = .ok (.invokevirtual 370, 3) := by decide +kernel
theorem dX12_house_128 : decode cX12_house 128 = .ok (.ireturn, 1) := by decide +kernel
theorem dX12_house_129 : decode cX12_house 129 = .ok (.aload_n 0, 1) := by decide +kernel
theorem dX12_house_130 : decode cX12_house 130 = .ok (.aload_n 0, 1) := by decide +kernel
theorem dX12_house_131 : decode cX12_house 131 = .ok (.getfield 61, 3) := by decide +kernel
theorem dX12_house_134 : decode cX12_house 134 = .ok (.iload_n 1, 1) := by decide +kernel
theorem dX12_house_135 : decode cX12_house 135 = .ok (.invokevirtual 353, 3) := by decide +kernel
theorem dX12_house_138 : decode cX12_house 138 = .ok (.ireturn, 1) := by decide +kernel
theorem dX12_house_139 : decode cX12_house 139 = .ok (.aload_n 0, 1) := by decide +kernel
theorem dX12_house_140 : decode cX12_house 140 = .ok (.iload_n 1, 1) := by decide +kernel
theorem dX12_house_141 : decode cX12_house 141 = .ok (.invokevirtual 377, 3) := by decide +kernel
theorem dX12_house_144 : decode cX12_house 144 = .ok (.ireturn, 1) := by decide +kernel
theorem dX12_image_0 : decode cX12_image 0 = .ok (.aload_n 0, 1) := by decide +kernel
theorem dX12_image_1 : decode cX12_image 1 = .ok (.iconst 0, 1) := by decide +kernel
theorem dX12_image_2 : decode cX12_image 2 = .ok (.putfield 111, 3) := by decide +kernel
theorem dX12_image_5 : decode cX12_image 5 = .ok (.aload_n 0, 1) := by decide +kernel
theorem dX12_image_6 : decode cX12_image 6 = .ok (.getfield 307, 3) := by decide +kernel
theorem dX12_image_9 : decode cX12_image 9 = .ok (.ifCond .ne 5, 3) := by decide +kernel
theorem dX12_image_12 : decode cX12_image 12 = .ok (.iconst (-1), 1) := by decide +kernel
theorem dX12_image_13 : decode cX12_image 13 = .ok (.ireturn, 1) := by decide +kernel
theorem dX12_image_14 : decode cX12_image 14 = .ok (.iconst 0, 1) := by decide +kernel
theorem dX12_image_15 : decode cX12_image 15 = .ok (.istore_n 1, 1) := by decide +kernel
theorem dX12_image_16 : decode cX12_image 16 = .ok (.iload_n 1, 1) := by decide +kernel
theorem dX12_image_17 : decode cX12_image 17 = .ok (.sipush 232, 3) := by decide +kernel
theorem dX12_image_20 : decode cX12_image 20 = .ok (.if_icmp .ge 21, 3) := by decide +kernel
theorem dX12_image_23 : decode cX12_image 23 = .ok (.aload_n 0, 1) := by decide +kernel
theorem dX12_image_24 : decode cX12_image 24 = .ok (.getfield 108, 3) := by decide +kernel
theorem dX12_image_27 : decode cX12_image 27 = .ok (.iload_n 1, 1) := by decide +kernel
theorem dX12_image_28 : decode cX12_image 28 = .ok (.aload_n 0, 1) := by decide +kernel
theorem dX12_image_29 : decode cX12_image 29 = .ok (.getfield 61, 3) := by decide +kernel
theorem dX12_image_32 : decode cX12_image 32 = .ok (.iload_n 1, 1) := by decide +kernel
theorem dX12_image_33 : decode cX12_image 33 = .ok (.iaload, 1) := by decide +kernel
theorem dX12_image_34 : decode cX12_image 34 = .ok (.iastore, 1) := by decide +kernel
theorem dX12_image_35 : decode cX12_image 35 = .ok (.iinc 1 1, 3) := by decide +kernel
theorem dX12_image_38 : decode cX12_image 38 = .ok (.goto (-22), 3) := by decide +kernel
theorem dX12_image_41 : decode cX12_image 41 = .ok (.aload_n 0, 1) := by decide +kernel
theorem dX12_image_42 : decode cX12_image 42 = .ok (.iconst 1, 1) := by decide +kernel
theorem dX12_image_43 : decode cX12_image 43 = .ok (.putfield 323, 3) := by decide +kernel
theorem dX12_image_46 : decode cX12_image 46 = .ok (.aload_n 0, 1) := by decide +kernel
theorem dX12_image_47 : decode cX12_image 47 = .ok (.getfield 61, 3) := by decide +kernel
theorem dX12_image_50 : decode cX12_image 50 = .ok (.bipush 50, 2) := by decide +kernel
theorem dX12_image_52 : decode cX12_image 52 = .ok (.iaload, 1) := by decide +kernel
theorem dX12_image_53 : decode cX12_image 53 = .ok (.ireturn, 1) := by decide +kernel
theorem dX12_init_0 : decode cX12_init 0 = .ok (.aload_n 0, 1) := by decide +kernel
theorem dX12_init_1 : decode cX12_init 1 = .ok (.invokespecial 3, 3) := by decide +kernel
theorem dX12_init_4 : decode cX12_init 4 = .ok (.aload_n 0, 1) := by decide +kernel
theorem dX12_init_5 : decode cX12_init 5 = .ok (.sipush 240, 3) := by decide +kernel
theorem dX12_init_8 : decode cX12_init 8 = .ok (.newarray .byte, 2) := by decide +kernel
theorem dX12_init_10 : decode cX12_init 10 = .ok (.putfield 9, 3) := by decide +kernel
theorem dX12_init_13 : decode cX12_init 13 = .ok (.aload_n 0, 1) := by decide +kernel
theorem dX12_init_14 : decode cX12_init 14 = .ok (.sipush 960, 3) := by decide +kernel
theorem dX12_init_17 : decode cX12_init 17 = .ok (.newarray .byte, 2) := by decide +kernel
theorem dX12_init_19 : decode cX12_init 19 = .ok (.putfield 13, 3) := by decide +kernel
theorem dX12_init_22 : decode cX12_init 22 = .ok (.aload_n 0, 1) := by decide +kernel
theorem dX12_init_23 : decode cX12_init 23 = .ok (.iconst 4, 1) := by decide +kernel
theorem dX12_init_24 : decode cX12_init 24 = .ok (.newarray .int, 2) := by decide +kernel
theorem dX12_init_26 : decode cX12_init 26 = .ok (.putfield 16, 3) := by decide +kernel
theorem dX12_init_29 : decode cX12_init 29 = .ok (.aload_n 0, 1) := by decide +kernel
theorem dX12_init_30 : decode cX12_init 30 = .ok (.sipush 128, 3) := by decide +kernel
theorem dX12_init_33 : decode cX12_init 33 = .ok (.newarray .int, 2) := by decide +kernel
theorem dX12_init_35 : decode cX12_init 35 = .ok (.putfield 20, 3) := by decide +kernel
theorem dX12_init_38 : decode cX12_init 38 = .ok (.aload_n 0, 1) := by decide +kernel
theorem dX12_init_39 : decode cX12_init 39 = .ok (.aload_n 0, 1) := by decide +kernel
theorem dX12_init_40 : decode cX12_init 40 = .ok (.getfield 9, 3) := by decide +kernel
theorem dX12_init_43 : decode cX12_init 43 = .ok (.putfield 23, 3) := by decide +kernel
theorem dX12_init_46 : decode cX12_init 46 = .ok (.aload_n 0, 1) := by decide +kernel
theorem dX12_init_47 : decode cX12_init 47 = .ok (.ldc 26, 2) := by decide +kernel
theorem dX12_init_49 : decode cX12_init 49 = .ok (.putfield 28, 3) := by decide +kernel
theorem dX12_init_52 : decode cX12_init 52 = .ok (.aload_n 0, 1) := by decide +kernel
theorem dX12_init_53 : decode cX12_init 53 = .ok (.ldc 32, 2) := by decide +kernel
theorem dX12_init_55 : decode cX12_init 55 = .ok (.putfield 34, 3) := by decide +kernel
theorem dX12_init_58 : decode cX12_init 58 = .ok (.aload_n 0, 1) := by decide +kernel
theorem dX12_init_59 : decode cX12_init 59 = .ok (.iconst 2, 1) := by decide +kernel
theorem dX12_init_60 : decode cX12_init 60 = .ok (.newarray .int, 2) := by decide +kernel
theorem dX12_init_62 : decode cX12_init 62 = .ok (.putfield 37, 3) := by decide +kernel
theorem dX12_init_65 : decode cX12_init 65 = .ok (.aload_n 0, 1) := by decide +kernel
theorem dX12_init_66 : decode cX12_init 66 = .ok (.iconst 2, 1) := by decide +kernel
theorem dX12_init_67 : decode cX12_init 67 = .ok (.newarray .int, 2) := by decide +kernel
theorem dX12_init_69 : decode cX12_init 69 = .ok (.putfield 40, 3) := by decide +kernel
theorem dX12_init_72 : decode cX12_init 72 = .ok (.aload_n 0, 1) := by decide +kernel
theorem dX12_init_73 : decode cX12_init 73 = .ok (.bipush 18, 2) := by decide +kernel
theorem dX12_init_75 : decode cX12_init 75 = .ok (.newarray .int, 2) := by decide +kernel
theorem dX12_init_77 : decode cX12_init 77 = .ok (.putfield 43, 3) := by decide +kernel
theorem dX12_init_80 : decode cX12_init 80 = .ok (.aload_n 0, 1) := by decide +kernel
theorem dX12_init_81 : decode cX12_init 81 = .ok (.bipush 18, 2) := by decide +kernel
theorem dX12_init_83 : decode cX12_init 83 = .ok (.newarray .int, 2) := by decide +kernel
theorem dX12_init_85 : decode cX12_init 85 = .ok (.putfield 46, 3) := by decide +kernel
theorem dX12_init_88 : decode cX12_init 88 = .ok (.aload_n 0, 1) := by decide +kernel
theorem dX12_init_89 : decode cX12_init 89 = .ok (.bipush 36, 2) := by decide +kernel
theorem dX12_init_91 : decode cX12_init 91 = .ok (.newarray .int, 2) := by decide +kernel
theorem dX12_init_93 : decode cX12_init 93 = .ok (.putfield 49, 3) := by decide +kernel
theorem dX12_init_96 : decode cX12_init 96 = .ok (.aload_n 0, 1) := by decide +kernel
theorem dX12_init_97 : decode cX12_init 97 = .ok (.bipush 36, 2) := by decide +kernel
theorem dX12_init_99 : decode cX12_init 99 = .ok (.newarray .int, 2) := by decide +kernel
theorem dX12_init_101 : decode cX12_init 101 = .ok (.putfield 52, 3) := by decide +kernel
theorem dX12_init_104 : decode cX12_init 104 = .ok (.aload_n 0, 1) := by decide +kernel
theorem dX12_init_105 : decode cX12_init 105 = .ok (.bipush 80, 2) := by decide +kernel
theorem dX12_init_107 : decode cX12_init 107 = .ok (.newarray .int, 2) := by decide +kernel
theorem dX12_init_109 : decode cX12_init 109 = .ok (.putfield 55, 3) := by decide +kernel
theorem dX12_init_112 : decode cX12_init 112 = .ok (.aload_n 0, 1) := by decide +kernel
theorem dX12_init_113 : decode cX12_init 113 = .ok (.iconst 5, 1) := by decide +kernel
theorem dX12_init_114 : decode cX12_init 114 = .ok (.newarray .int, 2) := by decide +kernel
theorem dX12_init_116 : decode cX12_init 116 = .ok (.putfield 58, 3) := by decide +kernel
theorem dX12_init_119 : decode cX12_init 119 = .ok (.aload_n 0, 1) := by decide +kernel
theorem dX12_init_120 : decode cX12_init 120 = .ok (.sipush 232, 3) := by decide +kernel
theorem dX12_init_123 : decode cX12_init 123 = .ok (.newarray .int, 2) := by decide +kernel
theorem dX12_init_125 : decode cX12_init 125 = .ok (.putfield 61, 3) := by decide +kernel
theorem dX12_init_128 : decode cX12_init 128 = .ok (.aload_n 0, 1) := by decide +kernel
theorem dX12_init_129 : decode cX12_init 129 = .ok (.bipush 51, 2) := by decide +kernel
theorem dX12_init_131 : decode cX12_init 131 = .ok (.newarray .int, 2) := by decide +kernel
theorem dX12_init_133 : decode cX12_init 133 = .ok (.putfield 64, 3) := by decide +kernel
theorem dX12_init_136 : decode cX12_init 136 = .ok (.aload_n 0, 1) := by decide +kernel
theorem dX12_init_137 : decode cX12_init 137 = .ok (.bipush 6, 2) := by decide +kernel
theorem dX12_init_139 : decode cX12_init 139 = .ok (.newarray .int, 2) := by decide +kernel
theorem dX12_init_141 : decode cX12_init 141 = .ok (.putfield 67, 3) := by decide +kernel
theorem dX12_init_144 : decode cX12_init 144 = .ok (.aload_n 0, 1) := by decide +kernel
theorem dX12_init_145 : decode cX12_init 145 = .ok (.iconst (-1), 1) := by decide +kernel
theorem dX12_init_146 : decode cX12_init 146 = .ok (.putfield 70, 3) := by decide +kernel
theorem dX12_init_149 : decode cX12_init 149 = .ok (.aload_n 0, 1) := by decide +kernel
theorem dX12_init_150 : decode cX12_init 150 = .ok (.iconst 2, 1) := by decide +kernel
theorem dX12_init_151 : decode cX12_init 151 = .ok (.putfield 74, 3) := by decide +kernel
theorem dX12_init_154 : decode cX12_init 154 = .ok (.aload_n 0, 1) := by decide +kernel
theorem dX12_init_155 : decode cX12_init 155 = .ok (.bipush 36, 2) := by decide +kernel
theorem dX12_init_157 : decode cX12_init 157 = .ok (.newarray .int, 2) := by decide +kernel
theorem dX12_init_159 : decode cX12_init 159 = .ok (.putfield 77, 3) := by decide +kernel
theorem dX12_init_162 : decode cX12_init 162 = .ok (.aload_n 0, 1) := by decide +kernel
theorem dX12_init_163 : decode cX12_init 163 = .ok (.bipush 6, 2) := by decide +kernel
theorem dX12_init_165 : decode cX12_init 165 = .ok (.newarray .int, 2) := by decide +kernel
theorem dX12_init_167 : decode cX12_init 167 = .ok (.putfield 80, 3) := by decide +kernel
theorem dX12_init_170 : decode cX12_init 170 = .ok (.aload_n 0, 1) := by decide +kernel
theorem dX12_init_171 : decode cX12_init 171 = .ok (.sipush 9280, 3) := by decide +kernel
theorem dX12_init_174 : decode cX12_init 174 = .ok (.newarray .int, 2) := by decide +kernel
theorem dX12_init_176 : decode cX12_init 176 = .ok (.putfield 83, 3) := by decide +kernel
theorem dX12_init_179 : decode cX12_init 179 = .ok (.aload_n 0, 1) := by decide +kernel
theorem dX12_init_180 : decode cX12_init 180 = .ok (.bipush 6, 2) := by decide +kernel
theorem dX12_init_182 : decode cX12_init 182 = .ok (.newarray .int, 2) := by decide +kernel
theorem dX12_init_184 : decode cX12_init 184 = .ok (.putfield 86, 3) := by decide +kernel
theorem dX12_init_187 : decode cX12_init 187 = .ok (.aload_n 0, 1) := by decide +kernel
theorem dX12_init_188 : decode cX12_init 188 = .ok (.ldc 89, 2) := by decide +kernel
theorem dX12_init_190 : decode cX12_init 190 = .ok (.newarray .int, 2) := by decide +kernel
theorem dX12_init_192 : decode cX12_init 192 = .ok (.putfield 90, 3) := by decide +kernel
theorem dX12_init_195 : decode cX12_init 195 = .ok (.aload_n 0, 1) := by decide +kernel
theorem dX12_init_196 : decode cX12_init 196 = .ok (.sipush 255, 3) := by decide +kernel
theorem dX12_init_199 : decode cX12_init 199 = .ok (.newarray .int, 2) := by decide +kernel
theorem dX12_init_201 : decode cX12_init 201 = .ok (.putfield 93, 3) := by decide +kernel
theorem dX12_init_204 : decode cX12_init 204 = .ok (.aload_n 0, 1) := by decide +kernel
theorem dX12_init_205 : decode cX12_init 205 = .ok (.bipush 50, 2) := by decide +kernel
theorem dX12_init_207 : decode cX12_init 207 = .ok (.newarray .int, 2) := by decide +kernel
theorem dX12_init_209 : decode cX12_init 209 = .ok (.putfield 96, 3) := by decide +kernel
theorem dX12_init_212 : decode cX12_init 212 = .ok (.aload_n 0, 1) := by decide +kernel
theorem dX12_init_213 : decode cX12_init 213 = .ok (.iconst 4, 1) := by decide +kernel
theorem dX12_init_214 : decode cX12_init 214 = .ok (.newarray .int, 2) := by decide +kernel
theorem dX12_init_216 : decode cX12_init 216 = .ok (.putfield 99, 3) := by decide +kernel
theorem dX12_init_219 : decode cX12_init 219 = .ok (.aload_n 0, 1) := by decide +kernel
theorem dX12_init_220 : decode cX12_init 220 = .ok (.sipush 459, 3) := by decide +kernel
theorem dX12_init_223 : decode cX12_init 223 = .ok (.newarray .int, 2) := by decide +kernel
theorem dX12_init_225 : decode cX12_init 225 = .ok (.putfield 102, 3) := by decide +kernel
theorem dX12_init_228 : decode cX12_init 228 = .ok (.aload_n 0, 1) := by decide +kernel
theorem dX12_init_229 : decode cX12_init 229 = .ok (.bipush 6, 2) := by decide +kernel
theorem dX12_init_231 : decode cX12_init 231 = .ok (.newarray .int, 2) := by decide +kernel
theorem dX12_init_233 : decode cX12_init 233 = .ok (.putfield 105, 3) := by decide +kernel
theorem dX12_init_236 : decode cX12_init 236 = .ok (.aload_n 0, 1) := by decide +kernel
theorem dX12_init_237 : decode cX12_init 237 = .ok (.sipush 232, 3) := by decide +kernel
theorem dX12_init_240 : decode cX12_init 240 = .ok (.newarray .int, 2) := by decide +kernel
theorem dX12_init_242 : decode cX12_init 242 = .ok (.putfield 108, 3) := by decide +kernel
theorem dX12_init_245 : decode cX12_init 245 = .ok (.return_, 1) := by decide +kernel
theorem dX12_isLike_0 : decode cX12_isLike 0 = .ok (.iload_n 1, 1) := by decide +kernel
theorem dX12_isLike_1 : decode cX12_isLike 1 = .ok (.aload_n 0, 1) := by decide +kernel
theorem dX12_isLike_2 : decode cX12_isLike 2 = .ok (.getfield 307, 3) := by decide +kernel
theorem dX12_isLike_5 : decode cX12_isLike 5 = .ok (.if_icmp .ne 5, 3) := by decide +kernel
theorem dX12_isLike_8 : decode cX12_isLike 8 = .ok (.iconst 1, 1) := by decide +kernel
theorem dX12_isLike_9 : decode cX12_isLike 9 = .ok (.ireturn, 1) := by decide +kernel
theorem dX12_isLike_10 : decode cX12_isLike 10 = .ok (.iconst 0, 1) := by decide +kernel
theorem dX12_isLike_11 : decode cX12_isLike 11 = .ok (.istore_n 3, 1) := by decide +kernel
theorem dX12_isLike_12 : decode cX12_isLike 12 = .ok (.iload_n 3, 1) := by decide +kernel
theorem dX12_isLike_13 : decode cX12_isLike 13 = .ok (.aload_n 0, 1) := by decide +kernel
theorem dX12_isLike_14 : decode cX12_isLike 14 = .ok (.getfield 307, 3) := by decide +kernel
theorem dX12_isLike_17 : decode cX12_isLike 17 = .ok (.if_icmp .ge 111, 3) := by decide +kernel
theorem dX12_isLike_20 : decode cX12_isLike 20 = .ok (.iload_n 2, 1) := by decide +kernel
theorem dX12_isLike_21 : decode cX12_isLike 21 = .ok (.iload_n 3, 1) := by decide +kernel
theorem dX12_isLike_22 : decode cX12_isLike 22 = .ok (.invokestatic 244, 3) := by decide +kernel
theorem dX12_isLike_25 : decode cX12_isLike 25 = .ok (.ifCond .eq 6, 3) := by decide +kernel
theorem dX12_isLike_28 : decode cX12_isLike 28 = .ok (.goto 94, 3) := by decide +kernel
theorem dX12_isLike_31 : decode cX12_isLike 31 = .ok (.aload_n 0, 1) := by decide +kernel
theorem dX12_isLike_32 : decode cX12_isLike 32 = .ok (.getfield 86, 3) := by decide +kernel
theorem dX12_isLike_35 : decode cX12_isLike 35 = .ok (.iload_n 1, 1) := by decide +kernel
theorem dX12_isLike_36 : decode cX12_isLike 36 = .ok (.iload_n 3, 1) := by decide +kernel
theorem dX12_isLike_37 : decode cX12_isLike 37 = .ok (.iastore, 1) := by decide +kernel
theorem dX12_isLike_38 : decode cX12_isLike 38 = .ok (.iconst 1, 1) := by decide +kernel
theorem dX12_isLike_39 : decode cX12_isLike 39 = .ok (.istore 4, 2) := by decide +kernel
theorem dX12_isLike_41 : decode cX12_isLike 41 = .ok (.iconst 0, 1) := by decide +kernel
theorem dX12_isLike_42 : decode cX12_isLike 42 = .ok (.istore 5, 2) := by decide +kernel
theorem dX12_isLike_44 : decode cX12_isLike 44 = .ok (.iload 5, 2) := by decide +kernel
theorem dX12_isLike_46 : decode cX12_isLike 46 = .ok (.iload_n 1, 1) := by decide +kernel
theorem dX12_isLike_47 : decode cX12_isLike 47 = .ok (.if_icmp .ge 53, 3) := by decide +kernel
theorem dX12_isLike_50 : decode cX12_isLike 50 = .ok (.iload 4, 2) := by decide +kernel
theorem dX12_isLike_52 : decode cX12_isLike 52 = .ok (.ifCond .eq 39, 3) := by decide +kernel
theorem dX12_isLike_55 : decode cX12_isLike 55 = .ok (.aload_n 0, 1) := by decide +kernel
theorem dX12_isLike_56 : decode cX12_isLike 56 = .ok (.getfield 64, 3) := by decide +kernel
theorem dX12_isLike_59 : decode cX12_isLike 59 = .ok (.bipush 6, 2) := by decide +kernel
theorem dX12_isLike_61 : decode cX12_isLike 61 = .ok (.iload_n 3, 1) := by decide +kernel
theorem dX12_isLike_62 : decode cX12_isLike 62 = .ok (.imul, 1) := by decide +kernel
theorem dX12_isLike_63 : decode cX12_isLike 63 = .ok (.aload_n 0, 1) := by decide +kernel
theorem dX12_isLike_64 : decode cX12_isLike 64 = .ok (.getfield 86, 3) := by decide +kernel
theorem dX12_isLike_67 : decode cX12_isLike 67 = .ok (.iload 5, 2) := by decide +kernel
theorem dX12_isLike_69 : decode cX12_isLike 69 = .ok (.iaload, 1) := by decide +kernel
theorem dX12_isLike_70 : decode cX12_isLike 70 = .ok (.iadd, 1) := by decide +kernel
theorem dX12_isLike_71 : decode cX12_isLike 71 = .ok (.iaload, 1) := by decide +kernel
theorem dX12_isLike_72 : decode cX12_isLike 72 = .ok (.aload_n 0, 1) := by decide +kernel
theorem dX12_isLike_73 : decode cX12_isLike 73 = .ok (.getfield 61, 3) := by decide +kernel
theorem dX12_isLike_76 : decode cX12_isLike 76 = .ok (.bipush 6, 2) := by decide +kernel
theorem dX12_isLike_78 : decode cX12_isLike 78 = .ok (.iload_n 1, 1) := by decide +kernel
theorem dX12_isLike_79 : decode cX12_isLike 79 = .ok (.imul, 1) := by decide +kernel
theorem dX12_isLike_80 : decode cX12_isLike 80 = .ok (.iload 5, 2) := by decide +kernel
theorem dX12_isLike_82 : decode cX12_isLike 82 = .ok (.iadd, 1) := by decide +kernel
theorem dX12_isLike_83 : decode cX12_isLike 83 = .ok (.iaload, 1) := by decide +kernel
theorem dX12_isLike_84 : decode cX12_isLike 84 = .ok (.if_icmp .ne 7, 3) := by decide +kernel
theorem dX12_isLike_87 : decode cX12_isLike 87 = .ok (.iconst 1, 1) := by decide +kernel
theorem dX12_isLike_88 : decode cX12_isLike 88 = .ok (.goto 4, 3) := by decide +kernel
theorem dX12_isLike_91 : decode cX12_isLike 91 = .ok (.iconst 0, 1) := by decide +kernel
theorem dX12_isLike_92 : decode cX12_isLike 92 = .ok (.istore 4, 2) := by decide +kernel
theorem dX12_isLike_94 : decode cX12_isLike 94 = .ok (.iinc 5 1, 3) := by decide +kernel
theorem dX12_isLike_97 : decode cX12_isLike 97 = .ok (.goto (-53), 3) := by decide +kernel
theorem dX12_isLike_100 : decode cX12_isLike 100 = .ok (.iload 4, 2) := by decide +kernel
theorem dX12_isLike_102 : decode cX12_isLike 102 = .ok (.ifCond .eq 20, 3) := by decide +kernel
theorem dX12_isLike_105 : decode cX12_isLike 105 = .ok (.aload_n 0, 1) := by decide +kernel
theorem dX12_isLike_106 : decode cX12_isLike 106 = .ok (.iload_n 1, 1) := by decide +kernel
theorem dX12_isLike_107 : decode cX12_isLike 107 = .ok (.iconst 1, 1) := by decide +kernel
theorem dX12_isLike_108 : decode cX12_isLike 108 = .ok (.iadd, 1) := by decide +kernel
theorem dX12_isLike_109 : decode cX12_isLike 109 = .ok (.iload_n 2, 1) := by decide +kernel
theorem dX12_isLike_110 : decode cX12_isLike 110 = .ok (.iconst 1, 1) := by decide +kernel
theorem dX12_isLike_111 : decode cX12_isLike 111 = .ok (.iload_n 3, 1) := by decide +kernel
theorem dX12_isLike_112 : decode cX12_isLike 112 = .ok (.ishl, 1) := by decide +kernel
theorem dX12_isLike_113 : decode cX12_isLike 113 = .ok (.ior, 1) := by decide +kernel
theorem dX12_isLike_114 : decode cX12_isLike 114 = .ok (.invokevirtual 444, 3) := by decide +kernel
theorem dX12_isLike_117 : decode cX12_isLike 117 = .ok (.ifCond .eq 5, 3) := by decide +kernel
theorem dX12_isLike_120 : decode cX12_isLike 120 = .ok (.iconst 1, 1) := by decide +kernel
theorem dX12_isLike_121 : decode cX12_isLike 121 = .ok (.ireturn, 1) := by decide +kernel
theorem dX12_isLike_122 : decode cX12_isLike 122 = .ok (.iinc 3 1, 3) := by decide +kernel
theorem dX12_isLike_125 : decode cX12_isLike 125 = .ok (.goto (-113), 3) := by decide +kernel
theorem dX12_isLike_128 : decode cX12_isLike 128 = .ok (.iconst 0, 1) := by decide +kernel
theorem dX12_isLike_129 : decode cX12_isLike 129 = .ok (.ireturn, 1) := by decide +kernel
theorem dX12_keep_0 : decode cX12_keep 0 = .ok (.aload_n 0, 1) := by decide +kernel
theorem dX12_keep_1 : decode cX12_keep 1 = .ok (.iconst 0, 1) := by decide +kernel
theorem dX12_keep_2 : decode cX12_keep 2 = .ok (.putfield 111, 3) := by decide +kernel
theorem dX12_keep_5 : decode cX12_keep 5 = .ok (.aload_n 0, 1) := by decide +kernel
theorem dX12_keep_6 : decode cX12_keep 6 = .ok (.iload_n 1, 1) := by decide +kernel
theorem dX12_keep_7 : decode cX12_keep 7 = .ok (.invokevirtual 335, 3) := by decide +kernel
theorem dX12_keep_10 : decode cX12_keep 10 = .ok (.ifCond .ne 10, 3) := by decide +kernel
theorem dX12_keep_13 : decode cX12_keep 13 = .ok (.aload_n 0, 1) := by decide +kernel
theorem dX12_keep_14 : decode cX12_keep 14 = .ok (.iconst 0, 1) := by decide +kernel
theorem dX12_keep_15 : decode cX12_keep 15 = .ok (.iconst (-1), 1) := by decide +kernel
theorem dX12_keep_16 : decode cX12_keep 16 = .ok (.invokevirtual 397, 3) := by decide +kernel
theorem dX12_keep_19 : decode cX12_keep 19 = .ok (.ireturn, 1) := by decide +kernel
theorem dX12_keep_20 : decode cX12_keep 20 = .ok (.aload_n 0, 1) := by decide +kernel
theorem dX12_keep_21 : decode cX12_keep 21 = .ok (.invokevirtual 388, 3) := by decide +kernel
theorem dX12_keep_24 : decode cX12_keep 24 = .ok (.aload_n 0, 1) := by decide +kernel
theorem dX12_keep_25 : decode cX12_keep 25 = .ok (.getfield 61, 3) := by decide +kernel
theorem dX12_keep_28 : decode cX12_keep 28 = .ok (.bipush 48, 2) := by decide +kernel
theorem dX12_keep_30 : decode cX12_keep 30 = .ok (.dup2, 1) := by decide +kernel
theorem dX12_keep_31 : decode cX12_keep 31 = .ok (.iaload, 1) := by decide +kernel
theorem dX12_keep_32 : decode cX12_keep 32 = .ok (.iconst 1, 1) := by decide +kernel
theorem dX12_keep_33 : decode cX12_keep 33 = .ok (.iload_n 1, 1) := by decide +kernel
theorem dX12_keep_34 : decode cX12_keep 34 = .ok (.ishl, 1) := by decide +kernel
theorem dX12_keep_35 : decode cX12_keep 35 = .ok (.ixor, 1) := by decide +kernel
theorem dX12_keep_36 : decode cX12_keep 36 = .ok (.iastore, 1) := by decide +kernel
theorem dX12_keep_37 : decode cX12_keep 37 = .ok (.aload_n 0, 1) := by decide +kernel
theorem dX12_keep_38 : decode cX12_keep 38 = .ok (.getfield 61, 3) := by decide +kernel
theorem dX12_keep_41 : decode cX12_keep 41 = .ok (.bipush 48, 2) := by decide +kernel
theorem dX12_keep_43 : decode cX12_keep 43 = .ok (.iaload, 1) := by decide +kernel
theorem dX12_keep_44 : decode cX12_keep 44 = .ok (.iload_n 1, 1) := by decide +kernel
theorem dX12_keep_45 : decode cX12_keep 45 = .ok (.ishr, 1) := by decide +kernel
theorem dX12_keep_46 : decode cX12_keep 46 = .ok (.iconst 1, 1) := by decide +kernel
theorem dX12_keep_47 : decode cX12_keep 47 = .ok (.iand, 1) := by decide +kernel
theorem dX12_keep_48 : decode cX12_keep 48 = .ok (.ireturn, 1) := by decide +kernel
theorem dX12_law_0 : decode cX12_law 0 = .ok (.aload_n 0, 1) := by decide +kernel
theorem dX12_law_1 : decode cX12_law 1 = .ok (.iconst 0, 1) := by decide +kernel
theorem dX12_law_2 : decode cX12_law 2 = .ok (.putfield 111, 3) := by decide +kernel
theorem dX12_law_5 : decode cX12_law 5 = .ok (.iload_n 1, 1) := by decide +kernel
theorem dX12_law_6 : decode cX12_law 6 = .ok (.iconst (-1), 1) := by decide +kernel
theorem dX12_law_7 : decode cX12_law 7 = .ok (.if_icmp .eq 21, 3) := by decide +kernel
theorem dX12_law_10 : decode cX12_law 10 = .ok (.iload_n 1, 1) := by decide +kernel
theorem dX12_law_11 : decode cX12_law 11 = .ok (.i2l, 1) := by decide +kernel
theorem dX12_law_12 : decode cX12_law 12 = .ok (.lconst 0, 1) := by decide +kernel
theorem dX12_law_13 : decode cX12_law 13 = .ok (.aload_n 0, 1) := by decide +kernel
theorem dX12_law_14 : decode cX12_law 14 = .ok (.getfield 299, 3) := by decide +kernel
theorem dX12_law_17 : decode cX12_law 17 = .ok (.iconst 1, 1) := by decide +kernel
theorem dX12_law_18 : decode cX12_law 18 = .ok (.isub, 1) := by decide +kernel
theorem dX12_law_19 : decode cX12_law 19 = .ok (.i2l, 1) := by decide +kernel
theorem dX12_law_20 : decode cX12_law 20 = .ok (.invokestatic 232, 3) := by decide +kernel
theorem dX12_law_23 : decode cX12_law 23 = .ok (.ifCond .ne 5, 3) := by decide +kernel
theorem dX12_law_26 : decode cX12_law 26 = .ok (.iconst 0, 1) := by decide +kernel
theorem dX12_law_27 : decode cX12_law 27 = .ok (.ireturn, 1) := by decide +kernel
theorem dX12_law_28 : decode cX12_law 28 = .ok (.aload_n 0, 1) := by decide +kernel
theorem dX12_law_29 : decode cX12_law 29 = .ok (.iload_n 1, 1) := by decide +kernel
theorem dX12_law_30 : decode cX12_law 30 = .ok (.putfield 70, 3) := by decide +kernel
theorem dX12_law_33 : decode cX12_law 33 = .ok (.iconst 1, 1) := by decide +kernel
theorem dX12_law_34 : decode cX12_law 34 = .ok (.ireturn, 1) := by decide +kernel
theorem dX12_like_0 : decode cX12_like 0 = .ok (.aload_n 0, 1) := by decide +kernel
theorem dX12_like_1 : decode cX12_like 1 = .ok (.iconst 0, 1) := by decide +kernel
theorem dX12_like_2 : decode cX12_like 2 = .ok (.putfield 111, 3) := by decide +kernel
theorem dX12_like_5 : decode cX12_like 5 = .ok (.aload_n 0, 1) := by decide +kernel
theorem dX12_like_6 : decode cX12_like 6 = .ok (.iload_n 1, 1) := by decide +kernel
theorem dX12_like_7 : decode cX12_like 7 = .ok (.invokevirtual 381, 3) := by decide +kernel
theorem dX12_like_10 : decode cX12_like 10 = .ok (.ifCond .eq 19, 3) := by decide +kernel
theorem dX12_like_13 : decode cX12_like 13 = .ok (.aload_n 0, 1) := by decide +kernel
theorem dX12_like_14 : decode cX12_like 14 = .ok (.getfield 307, 3) := by decide +kernel
theorem dX12_like_17 : decode cX12_like 17 = .ok (.ifCond .eq 12, 3) := by decide +kernel
theorem dX12_like_20 : decode cX12_like 20 = .ok (.aload_n 0, 1) := by decide +kernel
theorem dX12_like_21 : decode cX12_like 21 = .ok (.iload_n 1, 1) := by decide +kernel
theorem dX12_like_22 : decode cX12_like 22 = .ok (.iconst 1, 1) := by decide +kernel
theorem dX12_like_23 : decode cX12_like 23 = .ok (.invokevirtual 437, 3) := by decide +kernel
theorem dX12_like_26 : decode cX12_like 26 = .ok (.ifCond .ne 5, 3) := by decide +kernel
theorem dX12_like_29 : decode cX12_like 29 = .ok (.iconst (-1), 1) := by decide +kernel
theorem dX12_like_30 : decode cX12_like 30 = .ok (.ireturn, 1) := by decide +kernel
theorem dX12_like_31 : decode cX12_like 31 = .ok (.aload_n 0, 1) := by decide +kernel
theorem dX12_like_32 : decode cX12_like 32 = .ok (.iconst 0, 1) := by decide +kernel
theorem dX12_like_33 : decode cX12_like 33 = .ok (.iconst 0, 1) := by decide +kernel
theorem dX12_like_34 : decode cX12_like 34 = .ok (.invokevirtual 444, 3) := by decide +kernel
theorem dX12_like_37 : decode cX12_like 37 = .ok (.ifCond .eq 7, 3) := by decide +kernel
theorem dX12_like_40 : decode cX12_like 40 = .ok (.iconst 1, 1) := by decide +kernel
theorem dX12_like_41 : decode cX12_like 41 = .ok (.goto 4, 3) := by decide +kernel
theorem dX12_like_44 : decode cX12_like 44 = .ok (.iconst 0, 1) := by decide +kernel
theorem dX12_like_45 : decode cX12_like 45 = .ok (.ireturn, 1) := by decide +kernel
theorem dX12_log_0 : decode cX12_log 0 = .ok (.aload_n 0, 1) := by decide +kernel
theorem dX12_log_1 : decode cX12_log 1 = .ok (.iconst 0, 1) := by decide +kernel
theorem dX12_log_2 : decode cX12_log 2 = .ok (.putfield 111, 3) := by decide +kernel
theorem dX12_log_5 : decode cX12_log 5 = .ok (.iload_n 1, 1) := by decide +kernel
theorem dX12_log_6 : decode cX12_log 6 = .ok (.i2l, 1) := by decide +kernel
theorem dX12_log_7 : decode cX12_log 7 = .ok (.lconst 0, 1) := by decide +kernel
theorem dX12_log_8 : decode cX12_log 8 = .ok (.aload_n 0, 1) := by decide +kernel
theorem dX12_log_9 : decode cX12_log 9 = .ok (.getfield 61, 3) := by decide +kernel
theorem dX12_log_12 : decode cX12_log 12 = .ok (.bipush 51, 2) := by decide +kernel
theorem dX12_log_14 : decode cX12_log 14 = .ok (.iaload, 1) := by decide +kernel
theorem dX12_log_15 : decode cX12_log 15 = .ok (.iconst 1, 1) := by decide +kernel
theorem dX12_log_16 : decode cX12_log 16 = .ok (.isub, 1) := by decide +kernel
theorem dX12_log_17 : decode cX12_log 17 = .ok (.i2l, 1) := by decide +kernel
theorem dX12_log_18 : decode cX12_log 18 = .ok (.invokestatic 232, 3) := by decide +kernel
theorem dX12_log_21 : decode cX12_log 21 = .ok (.ifCond .eq 41, 3) := by decide +kernel
theorem dX12_log_24 : decode cX12_log 24 = .ok (.iload_n 2, 1) := by decide +kernel
theorem dX12_log_25 : decode cX12_log 25 = .ok (.i2l, 1) := by decide +kernel
theorem dX12_log_26 : decode cX12_log 26 = .ok (.lconst 0, 1) := by decide +kernel
theorem dX12_log_27 : decode cX12_log 27 = .ok (.ldc2_w 288, 3) := by decide +kernel
theorem dX12_log_30 : decode cX12_log 30 = .ok (.invokestatic 232, 3) := by decide +kernel
theorem dX12_log_33 : decode cX12_log 33 = .ok (.ifCond .eq 29, 3) := by decide +kernel
theorem dX12_log_36 : decode cX12_log 36 = .ok (.aload_n 0, 1) := by decide +kernel
theorem dX12_log_37 : decode cX12_log 37 = .ok (.getfield 61, 3) := by decide +kernel
theorem dX12_log_40 : decode cX12_log 40 = .ok (.bipush 52, 2) := by decide +kernel
theorem dX12_log_42 : decode cX12_log 42 = .ok (.iconst 3, 1) := by decide +kernel
theorem dX12_log_43 : decode cX12_log 43 = .ok (.aload_n 0, 1) := by decide +kernel
theorem dX12_log_44 : decode cX12_log 44 = .ok (.getfield 61, 3) := by decide +kernel
theorem dX12_log_47 : decode cX12_log 47 = .ok (.bipush 51, 2) := by decide +kernel
theorem dX12_log_49 : decode cX12_log 49 = .ok (.iaload, 1) := by decide +kernel
theorem dX12_log_50 : decode cX12_log 50 = .ok (.iconst 1, 1) := by decide +kernel
theorem dX12_log_51 : decode cX12_log 51 = .ok (.isub, 1) := by decide +kernel
theorem dX12_log_52 : decode cX12_log 52 = .ok (.iload_n 1, 1) := by decide +kernel
theorem dX12_log_53 : decode cX12_log 53 = .ok (.isub, 1) := by decide +kernel
theorem dX12_log_54 : decode cX12_log 54 = .ok (.imul, 1) := by decide +kernel
theorem dX12_log_55 : decode cX12_log 55 = .ok (.iadd, 1) := by decide +kernel
theorem dX12_log_56 : decode cX12_log 56 = .ok (.iload_n 2, 1) := by decide +kernel
theorem dX12_log_57 : decode cX12_log 57 = .ok (.iadd, 1) := by decide +kernel
theorem dX12_log_58 : decode cX12_log 58 = .ok (.iaload, 1) := by decide +kernel
theorem dX12_log_59 : decode cX12_log 59 = .ok (.goto 4, 3) := by decide +kernel
theorem dX12_log_62 : decode cX12_log 62 = .ok (.iconst (-1), 1) := by decide +kernel
theorem dX12_log_63 : decode cX12_log 63 = .ok (.ireturn, 1) := by decide +kernel
theorem dX12_oddsFrom_0 : decode cX12_oddsFrom 0 = .ok (.iload_n 2, 1) := by decide +kernel
theorem dX12_oddsFrom_1 : decode cX12_oddsFrom 1 = .ok (.aload_n 0, 1) := by decide +kernel
theorem dX12_oddsFrom_2 : decode cX12_oddsFrom 2 = .ok (.getfield 58, 3) := by decide +kernel
theorem dX12_oddsFrom_5 : decode cX12_oddsFrom 5 = .ok (.iload_n 1, 1) := by decide +kernel
theorem dX12_oddsFrom_6 : decode cX12_oddsFrom 6 = .ok (.iaload, 1) := by decide +kernel
theorem dX12_oddsFrom_7 : decode cX12_oddsFrom 7 = .ok (.if_icmp .ne 21, 3) := by decide +kernel
theorem dX12_oddsFrom_10 : decode cX12_oddsFrom 10 = .ok (.aload_n 0, 1) := by decide +kernel
theorem dX12_oddsFrom_11 : decode cX12_oddsFrom 11 = .ok (.aload_n 0, 1) := by decide +kernel
theorem dX12_oddsFrom_12 : decode cX12_oddsFrom 12 = .ok (.getfield 64, 3) := by decide +kernel
theorem dX12_oddsFrom_15 : decode cX12_oddsFrom 15 = .ok (.invokevirtual 366, 3) := by decide +kernel
theorem dX12_oddsFrom_18 : decode cX12_oddsFrom 18 = .ok (.ifCond .eq 7, 3) := by decide +kernel
theorem dX12_oddsFrom_21 : decode cX12_oddsFrom 21 = .ok (.iconst 0, 1) := by decide +kernel
theorem dX12_oddsFrom_22 : decode cX12_oddsFrom 22 = .ok (.goto 5, 3) := by decide +kernel
theorem dX12_oddsFrom_25 : decode cX12_oddsFrom 25 = .ok (.iload 4, 2) := by decide +kernel
theorem dX12_oddsFrom_27 : decode cX12_oddsFrom 27 = .ok (.ireturn, 1) := by decide +kernel
theorem dX12_oddsFrom_28 : decode cX12_oddsFrom 28 = .ok (.aload_n 0, 1) := by decide +kernel
theorem dX12_oddsFrom_29 : decode cX12_oddsFrom 29 = .ok (.getfield 55, 3) := by decide +kernel
theorem dX12_oddsFrom_32 : decode cX12_oddsFrom 32 = .ok (.bipush 16, 2) := by decide +kernel
theorem dX12_oddsFrom_34 : decode cX12_oddsFrom 34 = .ok (.iload_n 1, 1) := by decide +kernel
theorem dX12_oddsFrom_35 : decode cX12_oddsFrom 35 = .ok (.imul, 1) := by decide +kernel
theorem dX12_oddsFrom_36 : decode cX12_oddsFrom 36 = .ok (.iload_n 2, 1) := by decide +kernel
theorem dX12_oddsFrom_37 : decode cX12_oddsFrom 37 = .ok (.iadd, 1) := by decide +kernel
theorem dX12_oddsFrom_38 : decode cX12_oddsFrom 38 = .ok (.iaload, 1) := by decide +kernel
theorem dX12_oddsFrom_39 : decode cX12_oddsFrom 39 = .ok (.istore 5, 2) := by decide +kernel
theorem dX12_oddsFrom_41 : decode cX12_oddsFrom 41 = .ok (.iconst 0, 1) := by decide +kernel
theorem dX12_oddsFrom_42 : decode cX12_oddsFrom 42 = .ok (.istore 6, 2) := by decide +kernel
theorem dX12_oddsFrom_44 : decode cX12_oddsFrom 44 = .ok (.iload 6, 2) := by decide +kernel
theorem dX12_oddsFrom_46 : decode cX12_oddsFrom 46 = .ok (.bipush 51, 2) := by decide +kernel
theorem dX12_oddsFrom_48 : decode cX12_oddsFrom 48 = .ok (.if_icmp .ge 28, 3) := by decide +kernel
theorem dX12_oddsFrom_51 : decode cX12_oddsFrom 51 = .ok (.aload_n 0, 1) := by decide +kernel
theorem dX12_oddsFrom_52 : decode cX12_oddsFrom 52 = .ok (.getfield 102, 3) := by decide +kernel
theorem dX12_oddsFrom_55 : decode cX12_oddsFrom 55 = .ok (.bipush 51, 2) := by decide +kernel
theorem dX12_oddsFrom_57 : decode cX12_oddsFrom 57 = .ok (.iload_n 2, 1) := by decide +kernel
theorem dX12_oddsFrom_58 : decode cX12_oddsFrom 58 = .ok (.imul, 1) := by decide +kernel
theorem dX12_oddsFrom_59 : decode cX12_oddsFrom 59 = .ok (.iload 6, 2) := by decide +kernel
theorem dX12_oddsFrom_61 : decode cX12_oddsFrom 61 = .ok (.iadd, 1) := by decide +kernel
theorem dX12_oddsFrom_62 : decode cX12_oddsFrom 62 = .ok (.aload_n 0, 1) := by decide +kernel
theorem dX12_oddsFrom_63 : decode cX12_oddsFrom 63 = .ok (.getfield 64, 3) := by decide +kernel
theorem dX12_oddsFrom_66 : decode cX12_oddsFrom 66 = .ok (.iload 6, 2) := by decide +kernel
theorem dX12_oddsFrom_68 : decode cX12_oddsFrom 68 = .ok (.iaload, 1) := by decide +kernel
theorem dX12_oddsFrom_69 : decode cX12_oddsFrom 69 = .ok (.iastore, 1) := by decide +kernel
theorem dX12_oddsFrom_70 : decode cX12_oddsFrom 70 = .ok (.iinc 6 1, 3) := by decide +kernel
theorem dX12_oddsFrom_73 : decode cX12_oddsFrom 73 = .ok (.goto (-29), 3) := by decide +kernel
theorem dX12_oddsFrom_76 : decode cX12_oddsFrom 76 = .ok (.iload 4, 2) := by decide +kernel
theorem dX12_oddsFrom_78 : decode cX12_oddsFrom 78 = .ok (.i2l, 1) := by decide +kernel
theorem dX12_oddsFrom_79 : decode cX12_oddsFrom 79 = .ok (.iload_n 3, 1) := by decide +kernel
theorem dX12_oddsFrom_80 : decode cX12_oddsFrom 80 = .ok (.i2l, 1) := by decide +kernel
theorem dX12_oddsFrom_81 : decode cX12_oddsFrom 81 = .ok (.lmul, 1) := by decide +kernel
theorem dX12_oddsFrom_82 : decode cX12_oddsFrom 82 = .ok (.ldc2_w 502, 3) := by decide +kernel
theorem dX12_oddsFrom_85 : decode cX12_oddsFrom 85 = .ok (.ldiv, 1) := by decide +kernel
theorem dX12_oddsFrom_86 : decode cX12_oddsFrom 86 = .ok (.l2i, 1) := by decide +kernel
theorem dX12_oddsFrom_87 : decode cX12_oddsFrom 87 = .ok (.istore 6, 2) := by decide +kernel
theorem dX12_oddsFrom_89 : decode cX12_oddsFrom 89 = .ok (.iconst 0, 1) := by decide +kernel
theorem dX12_oddsFrom_90 : decode cX12_oddsFrom 90 = .ok (.istore 7, 2) := by decide +kernel
theorem dX12_oddsFrom_92 : decode cX12_oddsFrom 92 = .ok (.iconst 0, 1) := by decide +kernel
theorem dX12_oddsFrom_93 : decode cX12_oddsFrom 93 = .ok (.istore 8, 2) := by decide +kernel
theorem dX12_oddsFrom_95 : decode cX12_oddsFrom 95 = .ok (.iload 8, 2) := by decide +kernel
theorem dX12_oddsFrom_97 : decode cX12_oddsFrom 97 = .ok (.iconst 2, 1) := by decide +kernel
theorem dX12_oddsFrom_98 : decode cX12_oddsFrom 98 = .ok (.if_icmp .ge 111, 3) := by decide +kernel
theorem dX12_oddsFrom_101 : decode cX12_oddsFrom 101 = .ok (.iconst 0, 1) := by decide +kernel
theorem dX12_oddsFrom_102 : decode cX12_oddsFrom 102 = .ok (.istore 9, 2) := by decide +kernel
theorem dX12_oddsFrom_104 : decode cX12_oddsFrom 104 = .ok (.iload 9, 2) := by decide +kernel
theorem dX12_oddsFrom_106 : decode cX12_oddsFrom 106 = .ok (.bipush 51, 2) := by decide +kernel
theorem dX12_oddsFrom_108 : decode cX12_oddsFrom 108 = .ok (.if_icmp .ge 28, 3) := by decide +kernel
theorem dX12_oddsFrom_111 : decode cX12_oddsFrom 111 = .ok (.aload_n 0, 1) := by decide +kernel
theorem dX12_oddsFrom_112 : decode cX12_oddsFrom 112 = .ok (.getfield 64, 3) := by decide +kernel
theorem dX12_oddsFrom_115 : decode cX12_oddsFrom 115 = .ok (.iload 9, 2) := by decide +kernel
theorem dX12_oddsFrom_117 : decode cX12_oddsFrom 117 = .ok (.aload_n 0, 1) := by decide +kernel
theorem dX12_oddsFrom_118 : decode cX12_oddsFrom 118 = .ok (.getfield 102, 3) := by decide +kernel
theorem dX12_oddsFrom_121 : decode cX12_oddsFrom 121 = .ok (.bipush 51, 2) := by decide +kernel
theorem dX12_oddsFrom_123 : decode cX12_oddsFrom 123 = .ok (.iload_n 2, 1) := by decide +kernel
theorem dX12_oddsFrom_124 : decode cX12_oddsFrom 124 = .ok (.imul, 1) := by decide +kernel
theorem dX12_oddsFrom_125 : decode cX12_oddsFrom 125 = .ok (.iload 9, 2) := by decide +kernel
theorem dX12_oddsFrom_127 : decode cX12_oddsFrom 127 = .ok (.iadd, 1) := by decide +kernel
theorem dX12_oddsFrom_128 : decode cX12_oddsFrom 128 = .ok (.iaload, 1) := by decide +kernel
theorem dX12_oddsFrom_129 : decode cX12_oddsFrom 129 = .ok (.iastore, 1) := by decide +kernel
theorem dX12_oddsFrom_130 : decode cX12_oddsFrom 130 = .ok (.iinc 9 1, 3) := by decide +kernel
theorem dX12_oddsFrom_133 : decode cX12_oddsFrom 133 = .ok (.goto (-29), 3) := by decide +kernel
theorem dX12_oddsFrom_136 : decode cX12_oddsFrom 136 = .ok (.aload_n 0, 1) := by decide +kernel
theorem dX12_oddsFrom_137 : decode cX12_oddsFrom 137 = .ok (.iload 5, 2) := by decide +kernel
theorem dX12_oddsFrom_139 : decode cX12_oddsFrom 139 = .ok (.invokevirtual 335, 3) := by decide +kernel
theorem dX12_oddsFrom_142 : decode cX12_oddsFrom 142 = .ok (.ifCond .eq 31, 3) := by decide +kernel
theorem dX12_oddsFrom_145 : decode cX12_oddsFrom 145 = .ok (.aload_n 0, 1) := by decide +kernel
theorem dX12_oddsFrom_146 : decode cX12_oddsFrom 146 = .ok (.aload_n 0, 1) := by decide +kernel
theorem dX12_oddsFrom_147 : decode cX12_oddsFrom 147 = .ok (.getfield 64, 3) := by decide +kernel
theorem dX12_oddsFrom_150 : decode cX12_oddsFrom 150 = .ok (.iload 8, 2) := by decide +kernel
theorem dX12_oddsFrom_152 : decode cX12_oddsFrom 152 = .ok (.iconst 1, 1) := by decide +kernel
theorem dX12_oddsFrom_153 : decode cX12_oddsFrom 153 = .ok (.if_icmp .ne 15, 3) := by decide +kernel
theorem dX12_oddsFrom_156 : decode cX12_oddsFrom 156 = .ok (.iload 5, 2) := by decide +kernel
theorem dX12_oddsFrom_158 : decode cX12_oddsFrom 158 = .ok (.iconst 1, 1) := by decide +kernel
theorem dX12_oddsFrom_159 : decode cX12_oddsFrom 159 = .ok (.iadd, 1) := by decide +kernel
theorem dX12_oddsFrom_160 : decode cX12_oddsFrom 160 = .ok (.aload_n 0, 1) := by decide +kernel
theorem dX12_oddsFrom_161 : decode cX12_oddsFrom 161 = .ok (.getfield 307, 3) := by decide +kernel
theorem dX12_oddsFrom_164 : decode cX12_oddsFrom 164 = .ok (.irem, 1) := by decide +kernel
theorem dX12_oddsFrom_165 : decode cX12_oddsFrom 165 = .ok (.goto 5, 3) := by decide +kernel
theorem dX12_oddsFrom_168 : decode cX12_oddsFrom 168 = .ok (.iload 5, 2) := by decide +kernel
theorem dX12_oddsFrom_170 : decode cX12_oddsFrom 170 = .ok (.invokevirtual 492, 3) := by decide +kernel
theorem dX12_oddsFrom_173 : decode cX12_oddsFrom 173 = .ok (.iload 7, 2) := by decide +kernel
theorem dX12_oddsFrom_175 : decode cX12_oddsFrom 175 = .ok (.aload_n 0, 1) := by decide +kernel
theorem dX12_oddsFrom_176 : decode cX12_oddsFrom 176 = .ok (.iload_n 1, 1) := by decide +kernel
theorem dX12_oddsFrom_177 : decode cX12_oddsFrom 177 = .ok (.iload_n 2, 1) := by decide +kernel
theorem dX12_oddsFrom_178 : decode cX12_oddsFrom 178 = .ok (.iconst 1, 1) := by decide +kernel
theorem dX12_oddsFrom_179 : decode cX12_oddsFrom 179 = .ok (.iadd, 1) := by decide +kernel
theorem dX12_oddsFrom_180 : decode cX12_oddsFrom 180 = .ok (.iload_n 3, 1) := by decide +kernel
theorem dX12_oddsFrom_181 : decode cX12_oddsFrom 181 = .ok (.iload 8, 2) := by decide +kernel
theorem dX12_oddsFrom_183 : decode cX12_oddsFrom 183 = .ok (.iconst 1, 1) := by decide +kernel
theorem dX12_oddsFrom_184 : decode cX12_oddsFrom 184 = .ok (.if_icmp .ne 8, 3) := by decide +kernel
theorem dX12_oddsFrom_187 : decode cX12_oddsFrom 187 = .ok (.iload 6, 2) := by decide +kernel
theorem dX12_oddsFrom_189 : decode cX12_oddsFrom 189 = .ok (.goto 8, 3) := by decide +kernel
theorem dX12_oddsFrom_192 : decode cX12_oddsFrom 192 = .ok (.iload 4, 2) := by decide +kernel
theorem dX12_oddsFrom_194 : decode cX12_oddsFrom 194 = .ok (.iload 6, 2) := by decide +kernel
theorem dX12_oddsFrom_196 : decode cX12_oddsFrom 196 = .ok (.isub, 1) := by decide +kernel
theorem dX12_oddsFrom_197 : decode cX12_oddsFrom 197 = .ok (.invokevirtual 504, 3) := by decide +kernel
theorem dX12_oddsFrom_200 : decode cX12_oddsFrom 200 = .ok (.iadd, 1) := by decide +kernel
theorem dX12_oddsFrom_201 : decode cX12_oddsFrom 201 = .ok (.istore 7, 2) := by decide +kernel
theorem dX12_oddsFrom_203 : decode cX12_oddsFrom 203 = .ok (.iinc 8 1, 3) := by decide +kernel
theorem dX12_oddsFrom_206 : decode cX12_oddsFrom 206 = .ok (.goto (-111), 3) := by decide +kernel
theorem dX12_oddsFrom_209 : decode cX12_oddsFrom 209 = .ok (.iload 7, 2) := by decide +kernel
theorem dX12_oddsFrom_211 : decode cX12_oddsFrom 211 = .ok (.ireturn, 1) := by decide +kernel
theorem dX12_odds_0 : decode cX12_odds 0 = .ok (.aload_n 0, 1) := by decide +kernel
theorem dX12_odds_1 : decode cX12_odds 1 = .ok (.iconst 0, 1) := by decide +kernel
theorem dX12_odds_2 : decode cX12_odds 2 = .ok (.putfield 111, 3) := by decide +kernel
theorem dX12_odds_5 : decode cX12_odds 5 = .ok (.aload_n 0, 1) := by decide +kernel
theorem dX12_odds_6 : decode cX12_odds 6 = .ok (.iload_n 1, 1) := by decide +kernel
theorem dX12_odds_7 : decode cX12_odds 7 = .ok (.invokevirtual 381, 3) := by decide +kernel
theorem dX12_odds_10 : decode cX12_odds 10 = .ok (.ifCond .eq 33, 3) := by decide +kernel
theorem dX12_odds_13 : decode cX12_odds 13 = .ok (.aload_n 0, 1) := by decide +kernel
theorem dX12_odds_14 : decode cX12_odds 14 = .ok (.getfield 307, 3) := by decide +kernel
theorem dX12_odds_17 : decode cX12_odds 17 = .ok (.ifCond .eq 26, 3) := by decide +kernel
theorem dX12_odds_20 : decode cX12_odds 20 = .ok (.aload_n 0, 1) := by decide +kernel
theorem dX12_odds_21 : decode cX12_odds 21 = .ok (.getfield 58, 3) := by decide +kernel
theorem dX12_odds_24 : decode cX12_odds 24 = .ok (.iload_n 1, 1) := by decide +kernel
theorem dX12_odds_25 : decode cX12_odds 25 = .ok (.iaload, 1) := by decide +kernel
theorem dX12_odds_26 : decode cX12_odds 26 = .ok (.bipush 8, 2) := by decide +kernel
theorem dX12_odds_28 : decode cX12_odds 28 = .ok (.if_icmp .gt 15, 3) := by decide +kernel
theorem dX12_odds_31 : decode cX12_odds 31 = .ok (.iload_n 2, 1) := by decide +kernel
theorem dX12_odds_32 : decode cX12_odds 32 = .ok (.i2l, 1) := by decide +kernel
theorem dX12_odds_33 : decode cX12_odds 33 = .ok (.lconst 0, 1) := by decide +kernel
theorem dX12_odds_34 : decode cX12_odds 34 = .ok (.ldc2_w 502, 3) := by decide +kernel
theorem dX12_odds_37 : decode cX12_odds 37 = .ok (.invokestatic 232, 3) := by decide +kernel
theorem dX12_odds_40 : decode cX12_odds 40 = .ok (.ifCond .ne 5, 3) := by decide +kernel
theorem dX12_odds_43 : decode cX12_odds 43 = .ok (.iconst (-1), 1) := by decide +kernel
theorem dX12_odds_44 : decode cX12_odds 44 = .ok (.ireturn, 1) := by decide +kernel
theorem dX12_odds_45 : decode cX12_odds 45 = .ok (.aload_n 0, 1) := by decide +kernel
theorem dX12_odds_46 : decode cX12_odds 46 = .ok (.getfield 61, 3) := by decide +kernel
theorem dX12_odds_49 : decode cX12_odds 49 = .ok (.aload_n 0, 1) := by decide +kernel
theorem dX12_odds_50 : decode cX12_odds 50 = .ok (.getfield 64, 3) := by decide +kernel
theorem dX12_odds_53 : decode cX12_odds 53 = .ok (.invokestatic 428, 3) := by decide +kernel
theorem dX12_odds_56 : decode cX12_odds 56 = .ok (.aload_n 0, 1) := by decide +kernel
theorem dX12_odds_57 : decode cX12_odds 57 = .ok (.iload_n 1, 1) := by decide +kernel
theorem dX12_odds_58 : decode cX12_odds 58 = .ok (.iconst 0, 1) := by decide +kernel
theorem dX12_odds_59 : decode cX12_odds 59 = .ok (.iload_n 2, 1) := by decide +kernel
theorem dX12_odds_60 : decode cX12_odds 60 = .ok (.ldc_w 507, 3) := by decide +kernel
theorem dX12_odds_63 : decode cX12_odds 63 = .ok (.invokevirtual 504, 3) := by decide +kernel
theorem dX12_odds_66 : decode cX12_odds 66 = .ok (.ireturn, 1) := by decide +kernel
theorem dX12_owes_0 : decode cX12_owes 0 = .ok (.aload_n 0, 1) := by decide +kernel
theorem dX12_owes_1 : decode cX12_owes 1 = .ok (.iconst 0, 1) := by decide +kernel
theorem dX12_owes_2 : decode cX12_owes 2 = .ok (.putfield 111, 3) := by decide +kernel
theorem dX12_owes_5 : decode cX12_owes 5 = .ok (.aload_n 0, 1) := by decide +kernel
theorem dX12_owes_6 : decode cX12_owes 6 = .ok (.iload_n 1, 1) := by decide +kernel
theorem dX12_owes_7 : decode cX12_owes 7 = .ok (.invokevirtual 335, 3) := by decide +kernel
theorem dX12_owes_10 : decode cX12_owes 10 = .ok (.ifCond .eq 25, 3) := by decide +kernel
theorem dX12_owes_13 : decode cX12_owes 13 = .ok (.aload_n 0, 1) := by decide +kernel
theorem dX12_owes_14 : decode cX12_owes 14 = .ok (.iload_n 2, 1) := by decide +kernel
theorem dX12_owes_15 : decode cX12_owes 15 = .ok (.invokevirtual 335, 3) := by decide +kernel
theorem dX12_owes_18 : decode cX12_owes 18 = .ok (.ifCond .eq 17, 3) := by decide +kernel
theorem dX12_owes_21 : decode cX12_owes 21 = .ok (.aload_n 0, 1) := by decide +kernel
theorem dX12_owes_22 : decode cX12_owes 22 = .ok (.getfield 61, 3) := by decide +kernel
theorem dX12_owes_25 : decode cX12_owes 25 = .ok (.bipush 6, 2) := by decide +kernel
theorem dX12_owes_27 : decode cX12_owes 27 = .ok (.iload_n 1, 1) := by decide +kernel
theorem dX12_owes_28 : decode cX12_owes 28 = .ok (.imul, 1) := by decide +kernel
theorem dX12_owes_29 : decode cX12_owes 29 = .ok (.iload_n 2, 1) := by decide +kernel
theorem dX12_owes_30 : decode cX12_owes 30 = .ok (.iadd, 1) := by decide +kernel
theorem dX12_owes_31 : decode cX12_owes 31 = .ok (.iaload, 1) := by decide +kernel
theorem dX12_owes_32 : decode cX12_owes 32 = .ok (.goto 6, 3) := by decide +kernel
