theorem dX0_become_0 : decode cX0_become 0 = .ok (.aload_n 1, 1) := by decide +kernel
theorem dX0_become_1 : decode cX0_become 1 = .ok (.getfield 9, 3) := by decide +kernel
theorem dX0_become_4 : decode cX0_become 4 = .ok (.iconst 0, 1) := by decide +kernel
theorem dX0_become_5 : decode cX0_become 5 = .ok (.aload_n 0, 1) := by decide +kernel
theorem dX0_become_6 : decode cX0_become 6 = .ok (.getfield 9, 3) := by decide +kernel
theorem dX0_become_9 : decode cX0_become 9 = .ok (.iconst 0, 1) := by decide +kernel
theorem dX0_become_10 : decode cX0_become 10 = .ok (.aload_n 0, 1) := by decide +kernel
theorem dX0_become_11 : decode cX0_become 11 = .ok (.getfield 9, 3) := by decide +kernel
theorem dX0_become_14 : decode cX0_become 14 = .ok (.arraylength, 1) := by decide +kernel
theorem dX0_become_15 : decode cX0_become 15 = .ok (.invokestatic 40, 3) := by decide +kernel
theorem dX0_become_18 : decode cX0_become 18 = .ok (.aload_n 1, 1) := by decide +kernel
theorem dX0_become_19 : decode cX0_become 19 = .ok (.getfield 15, 3) := by decide +kernel
theorem dX0_become_22 : decode cX0_become 22 = .ok (.iconst 0, 1) := by decide +kernel
theorem dX0_become_23 : decode cX0_become 23 = .ok (.aload_n 0, 1) := by decide +kernel
theorem dX0_become_24 : decode cX0_become 24 = .ok (.getfield 15, 3) := by decide +kernel
theorem dX0_become_27 : decode cX0_become 27 = .ok (.iconst 0, 1) := by decide +kernel
theorem dX0_become_28 : decode cX0_become 28 = .ok (.bipush 6, 2) := by decide +kernel
theorem dX0_become_30 : decode cX0_become 30 = .ok (.invokestatic 40, 3) := by decide +kernel
theorem dX0_become_33 : decode cX0_become 33 = .ok (.aload_n 1, 1) := by decide +kernel
theorem dX0_become_34 : decode cX0_become 34 = .ok (.getfield 18, 3) := by decide +kernel
theorem dX0_become_37 : decode cX0_become 37 = .ok (.iconst 0, 1) := by decide +kernel
theorem dX0_become_38 : decode cX0_become 38 = .ok (.aload_n 0, 1) := by decide +kernel
theorem dX0_become_39 : decode cX0_become 39 = .ok (.getfield 18, 3) := by decide +kernel
theorem dX0_become_42 : decode cX0_become 42 = .ok (.iconst 0, 1) := by decide +kernel
theorem dX0_become_43 : decode cX0_become 43 = .ok (.bipush 6, 2) := by decide +kernel
theorem dX0_become_45 : decode cX0_become 45 = .ok (.invokestatic 40, 3) := by decide +kernel
theorem dX0_become_48 : decode cX0_become 48 = .ok (.aload_n 1, 1) := by decide +kernel
theorem dX0_become_49 : decode cX0_become 49 = .ok (.getfield 21, 3) := by decide +kernel
theorem dX0_become_52 : decode cX0_become 52 = .ok (.iconst 0, 1) := by decide +kernel
theorem dX0_become_53 : decode cX0_become 53 = .ok (.aload_n 0, 1) := by decide +kernel
theorem dX0_become_54 : decode cX0_become 54 = .ok (.getfield 21, 3) := by decide +kernel
theorem dX0_become_57 : decode cX0_become 57 = .ok (.iconst 0, 1) := by decide +kernel
theorem dX0_become_58 : decode cX0_become 58 = .ok (.bipush 6, 2) := by decide +kernel
theorem dX0_become_60 : decode cX0_become 60 = .ok (.invokestatic 40, 3) := by decide +kernel
theorem dX0_become_63 : decode cX0_become 63 = .ok (.aload_n 0, 1) := by decide +kernel
theorem dX0_become_64 : decode cX0_become 64 = .ok (.aload_n 1, 1) := by decide +kernel
theorem dX0_become_65 : decode cX0_become 65 = .ok (.getfield 24, 3) := by decide +kernel
theorem dX0_become_68 : decode cX0_become 68 = .ok (.putfield 24, 3) := by decide +kernel
theorem dX0_become_71 : decode cX0_become 71 = .ok (.aload_n 0, 1) := by decide +kernel
theorem dX0_become_72 : decode cX0_become 72 = .ok (.aload_n 1, 1) := by decide +kernel
theorem dX0_become_73 : decode cX0_become 73 = .ok (.getfield 28, 3) := by decide +kernel
theorem dX0_become_76 : decode cX0_become 76 = .ok (.putfield 28, 3) := by decide +kernel
theorem dX0_become_79 : decode cX0_become 79 = .ok (.aload_n 0, 1) := by decide +kernel
theorem dX0_become_80 : decode cX0_become 80 = .ok (.aload_n 1, 1) := by decide +kernel
theorem dX0_become_81 : decode cX0_become 81 = .ok (.getfield 31, 3) := by decide +kernel
theorem dX0_become_84 : decode cX0_become 84 = .ok (.putfield 31, 3) := by decide +kernel
theorem dX0_become_87 : decode cX0_become 87 = .ok (.aload_n 0, 1) := by decide +kernel
theorem dX0_become_88 : decode cX0_become 88 = .ok (.aload_n 1, 1) := by decide +kernel
theorem dX0_become_89 : decode cX0_become 89 = .ok (.getfield 34, 3) := by decide +kernel
theorem dX0_become_92 : decode cX0_become 92 = .ok (.putfield 34, 3) := by decide +kernel
theorem dX0_become_95 : decode cX0_become 95 = .ok (.aload_n 0, 1) := by decide +kernel
theorem dX0_become_96 : decode cX0_become 96 = .ok (.aload_n 1, 1) := by decide +kernel
theorem dX0_become_97 : decode cX0_become 97 = .ok (.getfield 37, 3) := by decide +kernel
theorem dX0_become_100 : decode cX0_become 100 = .ok (.putfield 37, 3) := by decide +kernel
theorem dX0_become_103 : decode cX0_become 103 = .ok (.return_, 1) := by decide +kernel
theorem dX0_has_0 : decode cX0_has 0 = .ok (.iload_n 1, 1) := by decide +kernel
theorem dX0_has_1 : decode cX0_has 1 = .ok (.ifCond .lt 15, 3) := by decide +kernel
theorem dX0_has_4 : decode cX0_has 4 = .ok (.iload_n 1, 1) := by decide +kernel
theorem dX0_has_5 : decode cX0_has 5 = .ok (.aload_n 0, 1) := by decide +kernel
theorem dX0_has_6 : decode cX0_has 6 = .ok (.getfield 24, 3) := by decide +kernel
theorem dX0_has_9 : decode cX0_has 9 = .ok (.if_icmp .ge 7, 3) := by decide +kernel
theorem dX0_has_12 : decode cX0_has 12 = .ok (.iconst 1, 1) := by decide +kernel
theorem dX0_has_13 : decode cX0_has 13 = .ok (.goto 4, 3) := by decide +kernel
theorem dX0_has_16 : decode cX0_has 16 = .ok (.iconst 0, 1) := by decide +kernel
theorem dX0_has_17 : decode cX0_has 17 = .ok (.ireturn, 1) := by decide +kernel
theorem dX0_debt_0 : decode cX0_debt 0 = .ok (.aload_n 0, 1) := by decide +kernel
theorem dX0_debt_1 : decode cX0_debt 1 = .ok (.getfield 9, 3) := by decide +kernel
theorem dX0_debt_4 : decode cX0_debt 4 = .ok (.bipush 6, 2) := by decide +kernel
theorem dX0_debt_6 : decode cX0_debt 6 = .ok (.iload_n 1, 1) := by decide +kernel
theorem dX0_debt_7 : decode cX0_debt 7 = .ok (.imul, 1) := by decide +kernel
theorem dX0_debt_8 : decode cX0_debt 8 = .ok (.iload_n 2, 1) := by decide +kernel
theorem dX0_debt_9 : decode cX0_debt 9 = .ok (.iadd, 1) := by decide +kernel
theorem dX0_debt_10 : decode cX0_debt 10 = .ok (.iaload, 1) := by decide +kernel
theorem dX0_debt_11 : decode cX0_debt 11 = .ok (.ireturn, 1) := by decide +kernel
theorem dX0_isFull_0 : decode cX0_isFull 0 = .ok (.iconst 0, 1) := by decide +kernel
theorem dX0_isFull_1 : decode cX0_isFull 1 = .ok (.istore_n 2, 1) := by decide +kernel
theorem dX0_isFull_2 : decode cX0_isFull 2 = .ok (.iload_n 2, 1) := by decide +kernel
theorem dX0_isFull_3 : decode cX0_isFull 3 = .ok (.aload_n 0, 1) := by decide +kernel
theorem dX0_isFull_4 : decode cX0_isFull 4 = .ok (.getfield 24, 3) := by decide +kernel
theorem dX0_isFull_7 : decode cX0_isFull 7 = .ok (.if_icmp .ge 79, 3) := by decide +kernel
theorem dX0_isFull_10 : decode cX0_isFull 10 = .ok (.aload_n 0, 1) := by decide +kernel
theorem dX0_isFull_11 : decode cX0_isFull 11 = .ok (.iload_n 2, 1) := by decide +kernel
theorem dX0_isFull_12 : decode cX0_isFull 12 = .ok (.iload_n 1, 1) := by decide +kernel
theorem dX0_isFull_13 : decode cX0_isFull 13 = .ok (.invokevirtual 46, 3) := by decide +kernel
theorem dX0_isFull_16 : decode cX0_isFull 16 = .ok (.istore_n 3, 1) := by decide +kernel
theorem dX0_isFull_17 : decode cX0_isFull 17 = .ok (.iload_n 3, 1) := by decide +kernel
theorem dX0_isFull_18 : decode cX0_isFull 18 = .ok (.ifCond .gt 6, 3) := by decide +kernel
theorem dX0_isFull_21 : decode cX0_isFull 21 = .ok (.goto 59, 3) := by decide +kernel
theorem dX0_isFull_24 : decode cX0_isFull 24 = .ok (.iconst 0, 1) := by decide +kernel
theorem dX0_isFull_25 : decode cX0_isFull 25 = .ok (.istore 4, 2) := by decide +kernel
theorem dX0_isFull_27 : decode cX0_isFull 27 = .ok (.iload 4, 2) := by decide +kernel
theorem dX0_isFull_29 : decode cX0_isFull 29 = .ok (.aload_n 0, 1) := by decide +kernel
theorem dX0_isFull_30 : decode cX0_isFull 30 = .ok (.getfield 24, 3) := by decide +kernel
theorem dX0_isFull_33 : decode cX0_isFull 33 = .ok (.if_icmp .ge 47, 3) := by decide +kernel
theorem dX0_isFull_36 : decode cX0_isFull 36 = .ok (.aload_n 0, 1) := by decide +kernel
theorem dX0_isFull_37 : decode cX0_isFull 37 = .ok (.iload_n 1, 1) := by decide +kernel
theorem dX0_isFull_38 : decode cX0_isFull 38 = .ok (.iload 4, 2) := by decide +kernel
theorem dX0_isFull_40 : decode cX0_isFull 40 = .ok (.invokevirtual 46, 3) := by decide +kernel
theorem dX0_isFull_43 : decode cX0_isFull 43 = .ok (.istore 5, 2) := by decide +kernel
theorem dX0_isFull_45 : decode cX0_isFull 45 = .ok (.iload 5, 2) := by decide +kernel
theorem dX0_isFull_47 : decode cX0_isFull 47 = .ok (.ifCond .le 27, 3) := by decide +kernel
theorem dX0_isFull_50 : decode cX0_isFull 50 = .ok (.aload_n 0, 1) := by decide +kernel
theorem dX0_isFull_51 : decode cX0_isFull 51 = .ok (.iload_n 2, 1) := by decide +kernel
theorem dX0_isFull_52 : decode cX0_isFull 52 = .ok (.iload 4, 2) := by decide +kernel
theorem dX0_isFull_54 : decode cX0_isFull 54 = .ok (.invokevirtual 46, 3) := by decide +kernel
theorem dX0_isFull_57 : decode cX0_isFull 57 = .ok (.iload_n 3, 1) := by decide +kernel
theorem dX0_isFull_58 : decode cX0_isFull 58 = .ok (.iload 5, 2) := by decide +kernel
theorem dX0_isFull_60 : decode cX0_isFull 60 = .ok (.imul, 1) := by decide +kernel
theorem dX0_isFull_61 : decode cX0_isFull 61 = .ok (.iadd, 1) := by decide +kernel
theorem dX0_isFull_62 : decode cX0_isFull 62 = .ok (.invokestatic 65, 3) := by decide +kernel
theorem dX0_isFull_65 : decode cX0_isFull 65 = .ok (.aload_n 0, 1) := by decide +kernel
theorem dX0_isFull_66 : decode cX0_isFull 66 = .ok (.getfield 28, 3) := by decide +kernel
theorem dX0_isFull_69 : decode cX0_isFull 69 = .ok (.if_icmp .le 5, 3) := by decide +kernel
theorem dX0_isFull_72 : decode cX0_isFull 72 = .ok (.iconst 1, 1) := by decide +kernel
theorem dX0_isFull_73 : decode cX0_isFull 73 = .ok (.ireturn, 1) := by decide +kernel
theorem dX0_isFull_74 : decode cX0_isFull 74 = .ok (.iinc 4 1, 3) := by decide +kernel
theorem dX0_isFull_77 : decode cX0_isFull 77 = .ok (.goto (-50), 3) := by decide +kernel
theorem dX0_isFull_80 : decode cX0_isFull 80 = .ok (.iinc 2 1, 3) := by decide +kernel
theorem dX0_isFull_83 : decode cX0_isFull 83 = .ok (.goto (-81), 3) := by decide +kernel
theorem dX0_isFull_86 : decode cX0_isFull 86 = .ok (.iconst 0, 1) := by decide +kernel
theorem dX0_isFull_87 : decode cX0_isFull 87 = .ok (.ireturn, 1) := by decide +kernel
theorem dX0_isKept_0 : decode cX0_isKept 0 = .ok (.aload_n 0, 1) := by decide +kernel
theorem dX0_isKept_1 : decode cX0_isKept 1 = .ok (.getfield 31, 3) := by decide +kernel
theorem dX0_isKept_4 : decode cX0_isKept 4 = .ok (.iload_n 1, 1) := by decide +kernel
theorem dX0_isKept_5 : decode cX0_isKept 5 = .ok (.ishr, 1) := by decide +kernel
theorem dX0_isKept_6 : decode cX0_isKept 6 = .ok (.iconst 1, 1) := by decide +kernel
theorem dX0_isKept_7 : decode cX0_isKept 7 = .ok (.iand, 1) := by decide +kernel
theorem dX0_isKept_8 : decode cX0_isKept 8 = .ok (.iconst 1, 1) := by decide +kernel
theorem dX0_isKept_9 : decode cX0_isKept 9 = .ok (.if_icmp .ne 7, 3) := by decide +kernel
theorem dX0_isKept_12 : decode cX0_isKept 12 = .ok (.iconst 1, 1) := by decide +kernel
theorem dX0_isKept_13 : decode cX0_isKept 13 = .ok (.goto 4, 3) := by decide +kernel
theorem dX0_isKept_16 : decode cX0_isKept 16 = .ok (.iconst 0, 1) := by decide +kernel
theorem dX0_isKept_17 : decode cX0_isKept 17 = .ok (.ireturn, 1) := by decide +kernel
theorem dX0_canTurn_0 : decode cX0_canTurn 0 = .ok (.aload_n 0, 1) := by decide +kernel
theorem dX0_canTurn_1 : decode cX0_canTurn 1 = .ok (.iload_n 1, 1) := by decide +kernel
theorem dX0_canTurn_2 : decode cX0_canTurn 2 = .ok (.invokevirtual 55, 3) := by decide +kernel
theorem dX0_canTurn_5 : decode cX0_canTurn 5 = .ok (.ifCond .eq 32, 3) := by decide +kernel
theorem dX0_canTurn_8 : decode cX0_canTurn 8 = .ok (.aload_n 0, 1) := by decide +kernel
theorem dX0_canTurn_9 : decode cX0_canTurn 9 = .ok (.iload_n 1, 1) := by decide +kernel
theorem dX0_canTurn_10 : decode cX0_canTurn 10 = .ok (.invokevirtual 59, 3) := by decide +kernel
theorem dX0_canTurn_13 : decode cX0_canTurn 13 = .ok (.ifCond .ne 24, 3) := by decide +kernel
theorem dX0_canTurn_16 : decode cX0_canTurn 16 = .ok (.aload_n 0, 1) := by decide +kernel
theorem dX0_canTurn_17 : decode cX0_canTurn 17 = .ok (.getfield 15, 3) := by decide +kernel
theorem dX0_canTurn_20 : decode cX0_canTurn 20 = .ok (.iload_n 1, 1) := by decide +kernel
theorem dX0_canTurn_21 : decode cX0_canTurn 21 = .ok (.iaload, 1) := by decide +kernel
theorem dX0_canTurn_22 : decode cX0_canTurn 22 = .ok (.ifCond .eq 15, 3) := by decide +kernel
theorem dX0_canTurn_25 : decode cX0_canTurn 25 = .ok (.aload_n 0, 1) := by decide +kernel
theorem dX0_canTurn_26 : decode cX0_canTurn 26 = .ok (.iload_n 1, 1) := by decide +kernel
theorem dX0_canTurn_27 : decode cX0_canTurn 27 = .ok (.invokevirtual 62, 3) := by decide +kernel
theorem dX0_canTurn_30 : decode cX0_canTurn 30 = .ok (.ifCond .ne 7, 3) := by decide +kernel
theorem dX0_canTurn_33 : decode cX0_canTurn 33 = .ok (.iconst 1, 1) := by decide +kernel
theorem dX0_canTurn_34 : decode cX0_canTurn 34 = .ok (.goto 4, 3) := by decide +kernel
theorem dX0_canTurn_37 : decode cX0_canTurn 37 = .ok (.iconst 0, 1) := by decide +kernel
theorem dX0_canTurn_38 : decode cX0_canTurn 38 = .ok (.ireturn, 1) := by decide +kernel
theorem dX0_clear_0 : decode cX0_clear 0 = .ok (.iconst 0, 1) := by decide +kernel
theorem dX0_clear_1 : decode cX0_clear 1 = .ok (.istore_n 1, 1) := by decide +kernel
theorem dX0_clear_2 : decode cX0_clear 2 = .ok (.iload_n 1, 1) := by decide +kernel
theorem dX0_clear_3 : decode cX0_clear 3 = .ok (.aload_n 0, 1) := by decide +kernel
theorem dX0_clear_4 : decode cX0_clear 4 = .ok (.getfield 9, 3) := by decide +kernel
theorem dX0_clear_7 : decode cX0_clear 7 = .ok (.arraylength, 1) := by decide +kernel
theorem dX0_clear_8 : decode cX0_clear 8 = .ok (.if_icmp .ge 16, 3) := by decide +kernel
theorem dX0_clear_11 : decode cX0_clear 11 = .ok (.aload_n 0, 1) := by decide +kernel
theorem dX0_clear_12 : decode cX0_clear 12 = .ok (.getfield 9, 3) := by decide +kernel
theorem dX0_clear_15 : decode cX0_clear 15 = .ok (.iload_n 1, 1) := by decide +kernel
theorem dX0_clear_16 : decode cX0_clear 16 = .ok (.iconst 0, 1) := by decide +kernel
theorem dX0_clear_17 : decode cX0_clear 17 = .ok (.iastore, 1) := by decide +kernel
theorem dX0_clear_18 : decode cX0_clear 18 = .ok (.iinc 1 1, 3) := by decide +kernel
theorem dX0_clear_21 : decode cX0_clear 21 = .ok (.goto (-19), 3) := by decide +kernel
theorem dX0_clear_24 : decode cX0_clear 24 = .ok (.iconst 0, 1) := by decide +kernel
theorem dX0_clear_25 : decode cX0_clear 25 = .ok (.istore_n 1, 1) := by decide +kernel
theorem dX0_clear_26 : decode cX0_clear 26 = .ok (.iload_n 1, 1) := by decide +kernel
theorem dX0_clear_27 : decode cX0_clear 27 = .ok (.bipush 6, 2) := by decide +kernel
theorem dX0_clear_29 : decode cX0_clear 29 = .ok (.if_icmp .ge 30, 3) := by decide +kernel
theorem dX0_clear_32 : decode cX0_clear 32 = .ok (.aload_n 0, 1) := by decide +kernel
theorem dX0_clear_33 : decode cX0_clear 33 = .ok (.getfield 15, 3) := by decide +kernel
theorem dX0_clear_36 : decode cX0_clear 36 = .ok (.iload_n 1, 1) := by decide +kernel
theorem dX0_clear_37 : decode cX0_clear 37 = .ok (.iconst 0, 1) := by decide +kernel
theorem dX0_clear_38 : decode cX0_clear 38 = .ok (.iastore, 1) := by decide +kernel
theorem dX0_clear_39 : decode cX0_clear 39 = .ok (.aload_n 0, 1) := by decide +kernel
theorem dX0_clear_40 : decode cX0_clear 40 = .ok (.getfield 18, 3) := by decide +kernel
theorem dX0_clear_43 : decode cX0_clear 43 = .ok (.iload_n 1, 1) := by decide +kernel
theorem dX0_clear_44 : decode cX0_clear 44 = .ok (.iconst 0, 1) := by decide +kernel
theorem dX0_clear_45 : decode cX0_clear 45 = .ok (.iastore, 1) := by decide +kernel
theorem dX0_clear_46 : decode cX0_clear 46 = .ok (.aload_n 0, 1) := by decide +kernel
theorem dX0_clear_47 : decode cX0_clear 47 = .ok (.getfield 21, 3) := by decide +kernel
theorem dX0_clear_50 : decode cX0_clear 50 = .ok (.iload_n 1, 1) := by decide +kernel
theorem dX0_clear_51 : decode cX0_clear 51 = .ok (.iconst 0, 1) := by decide +kernel
theorem dX0_clear_52 : decode cX0_clear 52 = .ok (.iastore, 1) := by decide +kernel
theorem dX0_clear_53 : decode cX0_clear 53 = .ok (.iinc 1 1, 3) := by decide +kernel
theorem dX0_clear_56 : decode cX0_clear 56 = .ok (.goto (-30), 3) := by decide +kernel
theorem dX0_clear_59 : decode cX0_clear 59 = .ok (.aload_n 0, 1) := by decide +kernel
theorem dX0_clear_60 : decode cX0_clear 60 = .ok (.iconst 0, 1) := by decide +kernel
theorem dX0_clear_61 : decode cX0_clear 61 = .ok (.putfield 24, 3) := by decide +kernel
theorem dX0_clear_64 : decode cX0_clear 64 = .ok (.aload_n 0, 1) := by decide +kernel
theorem dX0_clear_65 : decode cX0_clear 65 = .ok (.iconst 0, 1) := by decide +kernel
theorem dX0_clear_66 : decode cX0_clear 66 = .ok (.putfield 28, 3) := by decide +kernel
theorem dX0_clear_69 : decode cX0_clear 69 = .ok (.aload_n 0, 1) := by decide +kernel
theorem dX0_clear_70 : decode cX0_clear 70 = .ok (.iconst 0, 1) := by decide +kernel
theorem dX0_clear_71 : decode cX0_clear 71 = .ok (.putfield 31, 3) := by decide +kernel
theorem dX0_clear_74 : decode cX0_clear 74 = .ok (.aload_n 0, 1) := by decide +kernel
theorem dX0_clear_75 : decode cX0_clear 75 = .ok (.iconst 0, 1) := by decide +kernel
theorem dX0_clear_76 : decode cX0_clear 76 = .ok (.putfield 34, 3) := by decide +kernel
theorem dX0_clear_79 : decode cX0_clear 79 = .ok (.aload_n 0, 1) := by decide +kernel
theorem dX0_clear_80 : decode cX0_clear 80 = .ok (.iconst 0, 1) := by decide +kernel
theorem dX0_clear_81 : decode cX0_clear 81 = .ok (.putfield 37, 3) := by decide +kernel
theorem dX0_clear_84 : decode cX0_clear 84 = .ok (.return_, 1) := by decide +kernel
theorem dX0_favours_0 : decode cX0_favours 0 = .ok (.iconst 0, 1) := by decide +kernel
theorem dX0_favours_1 : decode cX0_favours 1 = .ok (.istore_n 1, 1) := by decide +kernel
theorem dX0_favours_2 : decode cX0_favours 2 = .ok (.iconst 0, 1) := by decide +kernel
theorem dX0_favours_3 : decode cX0_favours 3 = .ok (.istore_n 2, 1) := by decide +kernel
theorem dX0_favours_4 : decode cX0_favours 4 = .ok (.iload_n 2, 1) := by decide +kernel
theorem dX0_favours_5 : decode cX0_favours 5 = .ok (.aload_n 0, 1) := by decide +kernel
theorem dX0_favours_6 : decode cX0_favours 6 = .ok (.getfield 9, 3) := by decide +kernel
theorem dX0_favours_9 : decode cX0_favours 9 = .ok (.arraylength, 1) := by decide +kernel
theorem dX0_favours_10 : decode cX0_favours 10 = .ok (.if_icmp .ge 22, 3) := by decide +kernel
theorem dX0_favours_13 : decode cX0_favours 13 = .ok (.iload_n 1, 1) := by decide +kernel
theorem dX0_favours_14 : decode cX0_favours 14 = .ok (.iconst 0, 1) := by decide +kernel
theorem dX0_favours_15 : decode cX0_favours 15 = .ok (.aload_n 0, 1) := by decide +kernel
theorem dX0_favours_16 : decode cX0_favours 16 = .ok (.getfield 9, 3) := by decide +kernel
theorem dX0_favours_19 : decode cX0_favours 19 = .ok (.iload_n 2, 1) := by decide +kernel
theorem dX0_favours_20 : decode cX0_favours 20 = .ok (.iaload, 1) := by decide +kernel
theorem dX0_favours_21 : decode cX0_favours 21 = .ok (.invokestatic 50, 3) := by decide +kernel
theorem dX0_favours_24 : decode cX0_favours 24 = .ok (.iadd, 1) := by decide +kernel
theorem dX0_favours_25 : decode cX0_favours 25 = .ok (.istore_n 1, 1) := by decide +kernel
theorem dX0_favours_26 : decode cX0_favours 26 = .ok (.iinc 2 1, 3) := by decide +kernel
theorem dX0_favours_29 : decode cX0_favours 29 = .ok (.goto (-25), 3) := by decide +kernel
theorem dX0_favours_32 : decode cX0_favours 32 = .ok (.iload_n 1, 1) := by decide +kernel
theorem dX0_favours_33 : decode cX0_favours 33 = .ok (.ireturn, 1) := by decide +kernel
theorem dX0_inverse_0 : decode cX0_inverse 0 = .ok (.ldc2_w 84, 3) := by decide +kernel
theorem dX0_inverse_3 : decode cX0_inverse 3 = .ok (.lstore_n 1, 1) := by decide +kernel
theorem dX0_inverse_4 : decode cX0_inverse 4 = .ok (.iload_n 0, 1) := by decide +kernel
theorem dX0_inverse_5 : decode cX0_inverse 5 = .ok (.i2l, 1) := by decide +kernel
theorem dX0_inverse_6 : decode cX0_inverse 6 = .ok (.lstore_n 3, 1) := by decide +kernel
theorem dX0_inverse_7 : decode cX0_inverse 7 = .ok (.lconst 0, 1) := by decide +kernel
theorem dX0_inverse_8 : decode cX0_inverse 8 = .ok (.lstore 5, 2) := by decide +kernel
theorem dX0_inverse_10 : decode cX0_inverse 10 = .ok (.lconst 1, 1) := by decide +kernel
theorem dX0_inverse_11 : decode cX0_inverse 11 = .ok (.lstore 7, 2) := by decide +kernel
theorem dX0_inverse_13 : decode cX0_inverse 13 = .ok (.iconst 0, 1) := by decide +kernel
theorem dX0_inverse_14 : decode cX0_inverse 14 = .ok (.istore 9, 2) := by decide +kernel
theorem dX0_inverse_16 : decode cX0_inverse 16 = .ok (.iload 9, 2) := by decide +kernel
theorem dX0_inverse_18 : decode cX0_inverse 18 = .ok (.bipush 64, 2) := by decide +kernel
theorem dX0_inverse_20 : decode cX0_inverse 20 = .ok (.if_icmp .ge 48, 3) := by decide +kernel
theorem dX0_inverse_23 : decode cX0_inverse 23 = .ok (.lload_n 3, 1) := by decide +kernel
theorem dX0_inverse_24 : decode cX0_inverse 24 = .ok (.lconst 1, 1) := by decide +kernel
theorem dX0_inverse_25 : decode cX0_inverse 25 = .ok (.lcmp, 1) := by decide +kernel
theorem dX0_inverse_26 : decode cX0_inverse 26 = .ok (.ifCond .le 42, 3) := by decide +kernel
theorem dX0_inverse_29 : decode cX0_inverse 29 = .ok (.lload_n 1, 1) := by decide +kernel
theorem dX0_inverse_30 : decode cX0_inverse 30 = .ok (.lload_n 3, 1) := by decide +kernel
theorem dX0_inverse_31 : decode cX0_inverse 31 = .ok (.ldiv, 1) := by decide +kernel
theorem dX0_inverse_32 : decode cX0_inverse 32 = .ok (.lstore 10, 2) := by decide +kernel
theorem dX0_inverse_34 : decode cX0_inverse 34 = .ok (.lload_n 1, 1) := by decide +kernel
theorem dX0_inverse_35 : decode cX0_inverse 35 = .ok (.lload_n 3, 1) := by decide +kernel
theorem dX0_inverse_36 : decode cX0_inverse 36 = .ok (.lrem, 1) := by decide +kernel
theorem dX0_inverse_37 : decode cX0_inverse 37 = .ok (.lstore 12, 2) := by decide +kernel
theorem dX0_inverse_39 : decode cX0_inverse 39 = .ok (.lload_n 3, 1) := by decide +kernel
theorem dX0_inverse_40 : decode cX0_inverse 40 = .ok (.lstore_n 1, 1) := by decide +kernel
theorem dX0_inverse_41 : decode cX0_inverse 41 = .ok (.lload 12, 2) := by decide +kernel
theorem dX0_inverse_43 : decode cX0_inverse 43 = .ok (.lstore_n 3, 1) := by decide +kernel
theorem dX0_inverse_44 : decode cX0_inverse 44 = .ok (.lload 5, 2) := by decide +kernel
theorem dX0_inverse_46 : decode cX0_inverse 46 = .ok (.lload 10, 2) := by decide +kernel
theorem dX0_inverse_48 : decode cX0_inverse 48 = .ok (.lload 7, 2) := by decide +kernel
theorem dX0_inverse_50 : decode cX0_inverse 50 = .ok (.lmul, 1) := by decide +kernel
theorem dX0_inverse_51 : decode cX0_inverse 51 = .ok (.lsub, 1) := by decide +kernel
theorem dX0_inverse_52 : decode cX0_inverse 52 = .ok (.lstore 14, 2) := by decide +kernel
theorem dX0_inverse_54 : decode cX0_inverse 54 = .ok (.lload 7, 2) := by decide +kernel
theorem dX0_inverse_56 : decode cX0_inverse 56 = .ok (.lstore 5, 2) := by decide +kernel
theorem dX0_inverse_58 : decode cX0_inverse 58 = .ok (.lload 14, 2) := by decide +kernel
theorem dX0_inverse_60 : decode cX0_inverse 60 = .ok (.lstore 7, 2) := by decide +kernel
theorem dX0_inverse_62 : decode cX0_inverse 62 = .ok (.iinc 9 1, 3) := by decide +kernel
theorem dX0_inverse_65 : decode cX0_inverse 65 = .ok (.goto (-49), 3) := by decide +kernel
theorem dX0_inverse_68 : decode cX0_inverse 68 = .ok (.lload 7, 2) := by decide +kernel
theorem dX0_inverse_70 : decode cX0_inverse 70 = .ok (.ldc2_w 84, 3) := by decide +kernel
theorem dX0_inverse_73 : decode cX0_inverse 73 = .ok (.lrem, 1) := by decide +kernel
theorem dX0_inverse_74 : decode cX0_inverse 74 = .ok (.ldc2_w 84, 3) := by decide +kernel
theorem dX0_inverse_77 : decode cX0_inverse 77 = .ok (.ladd, 1) := by decide +kernel
theorem dX0_inverse_78 : decode cX0_inverse 78 = .ok (.ldc2_w 84, 3) := by decide +kernel
theorem dX0_inverse_81 : decode cX0_inverse 81 = .ok (.lrem, 1) := by decide +kernel
theorem dX0_inverse_82 : decode cX0_inverse 82 = .ok (.lreturn, 1) := by decide +kernel
theorem dX0_power_0 : decode cX0_power 0 = .ok (.lconst 1, 1) := by decide +kernel
theorem dX0_power_1 : decode cX0_power 1 = .ok (.lstore_n 2, 1) := by decide +kernel
theorem dX0_power_2 : decode cX0_power 2 = .ok (.iload_n 0, 1) := by decide +kernel
theorem dX0_power_3 : decode cX0_power 3 = .ok (.i2l, 1) := by decide +kernel
theorem dX0_power_4 : decode cX0_power 4 = .ok (.lstore 4, 2) := by decide +kernel
theorem dX0_power_6 : decode cX0_power 6 = .ok (.iload_n 1, 1) := by decide +kernel
theorem dX0_power_7 : decode cX0_power 7 = .ok (.istore 6, 2) := by decide +kernel
theorem dX0_power_9 : decode cX0_power 9 = .ok (.iload 6, 2) := by decide +kernel
theorem dX0_power_11 : decode cX0_power 11 = .ok (.ifCond .le 40, 3) := by decide +kernel
theorem dX0_power_14 : decode cX0_power 14 = .ok (.iload 6, 2) := by decide +kernel
theorem dX0_power_16 : decode cX0_power 16 = .ok (.iconst 1, 1) := by decide +kernel
theorem dX0_power_17 : decode cX0_power 17 = .ok (.iand, 1) := by decide +kernel
theorem dX0_power_18 : decode cX0_power 18 = .ok (.iconst 1, 1) := by decide +kernel
theorem dX0_power_19 : decode cX0_power 19 = .ok (.if_icmp .ne 12, 3) := by decide +kernel
theorem dX0_power_22 : decode cX0_power 22 = .ok (.lload_n 2, 1) := by decide +kernel
theorem dX0_power_23 : decode cX0_power 23 = .ok (.lload 4, 2) := by decide +kernel
theorem dX0_power_25 : decode cX0_power 25 = .ok (.lmul, 1) := by decide +kernel
theorem dX0_power_26 : decode cX0_power 26 = .ok (.ldc2_w 84, 3) := by decide +kernel
theorem dX0_power_29 : decode cX0_power 29 = .ok (.lrem, 1) := by decide +kernel
theorem dX0_power_30 : decode cX0_power 30 = .ok (.lstore_n 2, 1) := by decide +kernel
theorem dX0_power_31 : decode cX0_power 31 = .ok (.lload 4, 2) := by decide +kernel
theorem dX0_power_33 : decode cX0_power 33 = .ok (.lload 4, 2) := by decide +kernel
theorem dX0_power_35 : decode cX0_power 35 = .ok (.lmul, 1) := by decide +kernel
theorem dX0_power_36 : decode cX0_power 36 = .ok (.ldc2_w 84, 3) := by decide +kernel
theorem dX0_power_39 : decode cX0_power 39 = .ok (.lrem, 1) := by decide +kernel
theorem dX0_power_40 : decode cX0_power 40 = .ok (.lstore 4, 2) := by decide +kernel
theorem dX0_power_42 : decode cX0_power 42 = .ok (.iload 6, 2) := by decide +kernel
theorem dX0_power_44 : decode cX0_power 44 = .ok (.iconst 1, 1) := by decide +kernel
theorem dX0_power_45 : decode cX0_power 45 = .ok (.ishr, 1) := by decide +kernel
theorem dX0_power_46 : decode cX0_power 46 = .ok (.istore 6, 2) := by decide +kernel
theorem dX0_power_48 : decode cX0_power 48 = .ok (.goto (-39), 3) := by decide +kernel
theorem dX0_power_51 : decode cX0_power 51 = .ok (.lload_n 2, 1) := by decide +kernel
theorem dX0_power_52 : decode cX0_power 52 = .ok (.lreturn, 1) := by decide +kernel
theorem dX0_renewWorth_0 : decode cX0_renewWorth 0 = .ok (.lconst 1, 1) := by decide +kernel
theorem dX0_renewWorth_1 : decode cX0_renewWorth 1 = .ok (.lstore_n 2, 1) := by decide +kernel
theorem dX0_renewWorth_2 : decode cX0_renewWorth 2 = .ok (.lconst 1, 1) := by decide +kernel
theorem dX0_renewWorth_3 : decode cX0_renewWorth 3 = .ok (.lstore 4, 2) := by decide +kernel
theorem dX0_renewWorth_5 : decode cX0_renewWorth 5 = .ok (.iconst 0, 1) := by decide +kernel
theorem dX0_renewWorth_6 : decode cX0_renewWorth 6 = .ok (.istore 6, 2) := by decide +kernel
theorem dX0_renewWorth_8 : decode cX0_renewWorth 8 = .ok (.iload 6, 2) := by decide +kernel
theorem dX0_renewWorth_10 : decode cX0_renewWorth 10 = .ok (.aload_n 0, 1) := by decide +kernel
theorem dX0_renewWorth_11 : decode cX0_renewWorth 11 = .ok (.getfield 24, 3) := by decide +kernel
theorem dX0_renewWorth_14 : decode cX0_renewWorth 14 = .ok (.if_icmp .ge 72, 3) := by decide +kernel
theorem dX0_renewWorth_17 : decode cX0_renewWorth 17 = .ok (.aload_n 0, 1) := by decide +kernel
theorem dX0_renewWorth_18 : decode cX0_renewWorth 18 = .ok (.iload 6, 2) := by decide +kernel
theorem dX0_renewWorth_20 : decode cX0_renewWorth 20 = .ok (.iload_n 1, 1) := by decide +kernel
theorem dX0_renewWorth_21 : decode cX0_renewWorth 21 = .ok (.invokevirtual 46, 3) := by decide +kernel
theorem dX0_renewWorth_24 : decode cX0_renewWorth 24 = .ok (.istore 7, 2) := by decide +kernel
theorem dX0_renewWorth_26 : decode cX0_renewWorth 26 = .ok (.iload 7, 2) := by decide +kernel
theorem dX0_renewWorth_28 : decode cX0_renewWorth 28 = .ok (.ifCond .le 25, 3) := by decide +kernel
theorem dX0_renewWorth_31 : decode cX0_renewWorth 31 = .ok (.lload_n 2, 1) := by decide +kernel
theorem dX0_renewWorth_32 : decode cX0_renewWorth 32 = .ok (.aload_n 0, 1) := by decide +kernel
theorem dX0_renewWorth_33 : decode cX0_renewWorth 33 = .ok (.getfield 15, 3) := by decide +kernel
theorem dX0_renewWorth_36 : decode cX0_renewWorth 36 = .ok (.iload 6, 2) := by decide +kernel
theorem dX0_renewWorth_38 : decode cX0_renewWorth 38 = .ok (.iaload, 1) := by decide +kernel
theorem dX0_renewWorth_39 : decode cX0_renewWorth 39 = .ok (.iload 7, 2) := by decide +kernel
theorem dX0_renewWorth_41 : decode cX0_renewWorth 41 = .ok (.invokestatic 80, 3) := by decide +kernel
theorem dX0_renewWorth_44 : decode cX0_renewWorth 44 = .ok (.lmul, 1) := by decide +kernel
theorem dX0_renewWorth_45 : decode cX0_renewWorth 45 = .ok (.ldc2_w 84, 3) := by decide +kernel
theorem dX0_renewWorth_48 : decode cX0_renewWorth 48 = .ok (.lrem, 1) := by decide +kernel
theorem dX0_renewWorth_49 : decode cX0_renewWorth 49 = .ok (.lstore_n 2, 1) := by decide +kernel
theorem dX0_renewWorth_50 : decode cX0_renewWorth 50 = .ok (.goto 30, 3) := by decide +kernel
theorem dX0_renewWorth_53 : decode cX0_renewWorth 53 = .ok (.iload 7, 2) := by decide +kernel
theorem dX0_renewWorth_55 : decode cX0_renewWorth 55 = .ok (.ifCond .ge 25, 3) := by decide +kernel
theorem dX0_renewWorth_58 : decode cX0_renewWorth 58 = .ok (.lload 4, 2) := by decide +kernel
theorem dX0_renewWorth_60 : decode cX0_renewWorth 60 = .ok (.aload_n 0, 1) := by decide +kernel
theorem dX0_renewWorth_61 : decode cX0_renewWorth 61 = .ok (.getfield 15, 3) := by decide +kernel
theorem dX0_renewWorth_64 : decode cX0_renewWorth 64 = .ok (.iload 6, 2) := by decide +kernel
theorem dX0_renewWorth_66 : decode cX0_renewWorth 66 = .ok (.iaload, 1) := by decide +kernel
theorem dX0_renewWorth_67 : decode cX0_renewWorth 67 = .ok (.iload 7, 2) := by decide +kernel
theorem dX0_renewWorth_69 : decode cX0_renewWorth 69 = .ok (.ineg, 1) := by decide +kernel
theorem dX0_renewWorth_70 : decode cX0_renewWorth 70 = .ok (.invokestatic 80, 3) := by decide +kernel
theorem dX0_renewWorth_73 : decode cX0_renewWorth 73 = .ok (.lmul, 1) := by decide +kernel
theorem dX0_renewWorth_74 : decode cX0_renewWorth 74 = .ok (.ldc2_w 84, 3) := by decide +kernel
theorem dX0_renewWorth_77 : decode cX0_renewWorth 77 = .ok (.lrem, 1) := by decide +kernel
theorem dX0_renewWorth_78 : decode cX0_renewWorth 78 = .ok (.lstore 4, 2) := by decide +kernel
theorem dX0_renewWorth_80 : decode cX0_renewWorth 80 = .ok (.iinc 6 1, 3) := by decide +kernel
theorem dX0_renewWorth_83 : decode cX0_renewWorth 83 = .ok (.goto (-75), 3) := by decide +kernel
theorem dX0_renewWorth_86 : decode cX0_renewWorth 86 = .ok (.aload_n 0, 1) := by decide +kernel
theorem dX0_renewWorth_87 : decode cX0_renewWorth 87 = .ok (.getfield 15, 3) := by decide +kernel
theorem dX0_renewWorth_90 : decode cX0_renewWorth 90 = .ok (.iload_n 1, 1) := by decide +kernel
theorem dX0_renewWorth_91 : decode cX0_renewWorth 91 = .ok (.lload_n 2, 1) := by decide +kernel
theorem dX0_renewWorth_92 : decode cX0_renewWorth 92 = .ok (.lload 4, 2) := by decide +kernel
theorem dX0_renewWorth_94 : decode cX0_renewWorth 94 = .ok (.ladd, 1) := by decide +kernel
theorem dX0_renewWorth_95 : decode cX0_renewWorth 95 = .ok (.ldc2_w 84, 3) := by decide +kernel
theorem dX0_renewWorth_98 : decode cX0_renewWorth 98 = .ok (.lrem, 1) := by decide +kernel
theorem dX0_renewWorth_99 : decode cX0_renewWorth 99 = .ok (.aload_n 0, 1) := by decide +kernel
theorem dX0_renewWorth_100 : decode cX0_renewWorth 100 = .ok (.getfield 15, 3) := by decide +kernel
theorem dX0_renewWorth_103 : decode cX0_renewWorth 103 = .ok (.iload_n 1, 1) := by decide +kernel
theorem dX0_renewWorth_104 : decode cX0_renewWorth 104 = .ok (.iaload, 1) := by decide +kernel
theorem dX0_renewWorth_105 : decode cX0_renewWorth 105 = .ok (.invokestatic 86, 3) := by decide +kernel
theorem dX0_renewWorth_108 : decode cX0_renewWorth 108 = .ok (.lmul, 1) := by decide +kernel
theorem dX0_renewWorth_109 : decode cX0_renewWorth 109 = .ok (.ldc2_w 84, 3) := by decide +kernel
theorem dX0_renewWorth_112 : decode cX0_renewWorth 112 = .ok (.lrem, 1) := by decide +kernel
theorem dX0_renewWorth_113 : decode cX0_renewWorth 113 = .ok (.l2i, 1) := by decide +kernel
theorem dX0_renewWorth_114 : decode cX0_renewWorth 114 = .ok (.iastore, 1) := by decide +kernel
theorem dX0_renewWorth_115 : decode cX0_renewWorth 115 = .ok (.return_, 1) := by decide +kernel
theorem dX0_setDebt_0 : decode cX0_setDebt 0 = .ok (.aload_n 0, 1) := by decide +kernel
theorem dX0_setDebt_1 : decode cX0_setDebt 1 = .ok (.getfield 9, 3) := by decide +kernel
theorem dX0_setDebt_4 : decode cX0_setDebt 4 = .ok (.bipush 6, 2) := by decide +kernel
theorem dX0_setDebt_6 : decode cX0_setDebt 6 = .ok (.iload_n 1, 1) := by decide +kernel
theorem dX0_setDebt_7 : decode cX0_setDebt 7 = .ok (.imul, 1) := by decide +kernel
theorem dX0_setDebt_8 : decode cX0_setDebt 8 = .ok (.iload_n 2, 1) := by decide +kernel
theorem dX0_setDebt_9 : decode cX0_setDebt 9 = .ok (.iadd, 1) := by decide +kernel
theorem dX0_setDebt_10 : decode cX0_setDebt 10 = .ok (.iload_n 3, 1) := by decide +kernel
theorem dX0_setDebt_11 : decode cX0_setDebt 11 = .ok (.iastore, 1) := by decide +kernel
theorem dX0_setDebt_12 : decode cX0_setDebt 12 = .ok (.aload_n 0, 1) := by decide +kernel
theorem dX0_setDebt_13 : decode cX0_setDebt 13 = .ok (.getfield 9, 3) := by decide +kernel
theorem dX0_setDebt_16 : decode cX0_setDebt 16 = .ok (.bipush 6, 2) := by decide +kernel
theorem dX0_setDebt_18 : decode cX0_setDebt 18 = .ok (.iload_n 2, 1) := by decide +kernel
theorem dX0_setDebt_19 : decode cX0_setDebt 19 = .ok (.imul, 1) := by decide +kernel
theorem dX0_setDebt_20 : decode cX0_setDebt 20 = .ok (.iload_n 1, 1) := by decide +kernel
theorem dX0_setDebt_21 : decode cX0_setDebt 21 = .ok (.iadd, 1) := by decide +kernel
theorem dX0_setDebt_22 : decode cX0_setDebt 22 = .ok (.iload_n 3, 1) := by decide +kernel
theorem dX0_setDebt_23 : decode cX0_setDebt 23 = .ok (.ineg, 1) := by decide +kernel
theorem dX0_setDebt_24 : decode cX0_setDebt 24 = .ok (.iastore, 1) := by decide +kernel
theorem dX0_setDebt_25 : decode cX0_setDebt 25 = .ok (.return_, 1) := by decide +kernel
theorem dX0_turnDebts_0 : decode cX0_turnDebts 0 = .ok (.iconst 0, 1) := by decide +kernel
theorem dX0_turnDebts_1 : decode cX0_turnDebts 1 = .ok (.istore_n 2, 1) := by decide +kernel
theorem dX0_turnDebts_2 : decode cX0_turnDebts 2 = .ok (.iload_n 2, 1) := by decide +kernel
theorem dX0_turnDebts_3 : decode cX0_turnDebts 3 = .ok (.aload_n 0, 1) := by decide +kernel
theorem dX0_turnDebts_4 : decode cX0_turnDebts 4 = .ok (.getfield 24, 3) := by decide +kernel
theorem dX0_turnDebts_7 : decode cX0_turnDebts 7 = .ok (.if_icmp .ge 74, 3) := by decide +kernel
theorem dX0_turnDebts_10 : decode cX0_turnDebts 10 = .ok (.aload_n 0, 1) := by decide +kernel
theorem dX0_turnDebts_11 : decode cX0_turnDebts 11 = .ok (.iload_n 2, 1) := by decide +kernel
theorem dX0_turnDebts_12 : decode cX0_turnDebts 12 = .ok (.iload_n 1, 1) := by decide +kernel
theorem dX0_turnDebts_13 : decode cX0_turnDebts 13 = .ok (.invokevirtual 46, 3) := by decide +kernel
theorem dX0_turnDebts_16 : decode cX0_turnDebts 16 = .ok (.istore_n 3, 1) := by decide +kernel
theorem dX0_turnDebts_17 : decode cX0_turnDebts 17 = .ok (.iload_n 3, 1) := by decide +kernel
theorem dX0_turnDebts_18 : decode cX0_turnDebts 18 = .ok (.ifCond .gt 6, 3) := by decide +kernel
theorem dX0_turnDebts_21 : decode cX0_turnDebts 21 = .ok (.goto 54, 3) := by decide +kernel
theorem dX0_turnDebts_24 : decode cX0_turnDebts 24 = .ok (.iconst 0, 1) := by decide +kernel
theorem dX0_turnDebts_25 : decode cX0_turnDebts 25 = .ok (.istore 4, 2) := by decide +kernel
theorem dX0_turnDebts_27 : decode cX0_turnDebts 27 = .ok (.iload 4, 2) := by decide +kernel
theorem dX0_turnDebts_29 : decode cX0_turnDebts 29 = .ok (.aload_n 0, 1) := by decide +kernel
theorem dX0_turnDebts_30 : decode cX0_turnDebts 30 = .ok (.getfield 24, 3) := by decide +kernel
theorem dX0_turnDebts_33 : decode cX0_turnDebts 33 = .ok (.if_icmp .ge 42, 3) := by decide +kernel
theorem dX0_turnDebts_36 : decode cX0_turnDebts 36 = .ok (.aload_n 0, 1) := by decide +kernel
theorem dX0_turnDebts_37 : decode cX0_turnDebts 37 = .ok (.iload_n 1, 1) := by decide +kernel
theorem dX0_turnDebts_38 : decode cX0_turnDebts 38 = .ok (.iload 4, 2) := by decide +kernel
theorem dX0_turnDebts_40 : decode cX0_turnDebts 40 = .ok (.invokevirtual 46, 3) := by decide +kernel
theorem dX0_turnDebts_43 : decode cX0_turnDebts 43 = .ok (.istore 5, 2) := by decide +kernel
theorem dX0_turnDebts_45 : decode cX0_turnDebts 45 = .ok (.iload 5, 2) := by decide +kernel
theorem dX0_turnDebts_47 : decode cX0_turnDebts 47 = .ok (.ifCond .le 22, 3) := by decide +kernel
theorem dX0_turnDebts_50 : decode cX0_turnDebts 50 = .ok (.aload_n 0, 1) := by decide +kernel
theorem dX0_turnDebts_51 : decode cX0_turnDebts 51 = .ok (.iload_n 2, 1) := by decide +kernel
theorem dX0_turnDebts_52 : decode cX0_turnDebts 52 = .ok (.iload 4, 2) := by decide +kernel
theorem dX0_turnDebts_54 : decode cX0_turnDebts 54 = .ok (.aload_n 0, 1) := by decide +kernel
theorem dX0_turnDebts_55 : decode cX0_turnDebts 55 = .ok (.iload_n 2, 1) := by decide +kernel
theorem dX0_turnDebts_56 : decode cX0_turnDebts 56 = .ok (.iload 4, 2) := by decide +kernel
theorem dX0_turnDebts_58 : decode cX0_turnDebts 58 = .ok (.invokevirtual 46, 3) := by decide +kernel
theorem dX0_turnDebts_61 : decode cX0_turnDebts 61 = .ok (.iload_n 3, 1) := by decide +kernel
theorem dX0_turnDebts_62 : decode cX0_turnDebts 62 = .ok (.iload 5, 2) := by decide +kernel
theorem dX0_turnDebts_64 : decode cX0_turnDebts 64 = .ok (.imul, 1) := by decide +kernel
theorem dX0_turnDebts_65 : decode cX0_turnDebts 65 = .ok (.iadd, 1) := by decide +kernel
theorem dX0_turnDebts_66 : decode cX0_turnDebts 66 = .ok (.invokevirtual 76, 3) := by decide +kernel
theorem dX0_turnDebts_69 : decode cX0_turnDebts 69 = .ok (.iinc 4 1, 3) := by decide +kernel
theorem dX0_turnDebts_72 : decode cX0_turnDebts 72 = .ok (.goto (-45), 3) := by decide +kernel
theorem dX0_turnDebts_75 : decode cX0_turnDebts 75 = .ok (.iinc 2 1, 3) := by decide +kernel
theorem dX0_turnDebts_78 : decode cX0_turnDebts 78 = .ok (.goto (-76), 3) := by decide +kernel
theorem dX0_turnDebts_81 : decode cX0_turnDebts 81 = .ok (.iconst 0, 1) := by decide +kernel
theorem dX0_turnDebts_82 : decode cX0_turnDebts 82 = .ok (.istore_n 2, 1) := by decide +kernel
theorem dX0_turnDebts_83 : decode cX0_turnDebts 83 = .ok (.iload_n 2, 1) := by decide +kernel
theorem dX0_turnDebts_84 : decode cX0_turnDebts 84 = .ok (.aload_n 0, 1) := by decide +kernel
theorem dX0_turnDebts_85 : decode cX0_turnDebts 85 = .ok (.getfield 24, 3) := by decide +kernel
theorem dX0_turnDebts_88 : decode cX0_turnDebts 88 = .ok (.if_icmp .ge 22, 3) := by decide +kernel
theorem dX0_turnDebts_91 : decode cX0_turnDebts 91 = .ok (.aload_n 0, 1) := by decide +kernel
theorem dX0_turnDebts_92 : decode cX0_turnDebts 92 = .ok (.iload_n 2, 1) := by decide +kernel
theorem dX0_turnDebts_93 : decode cX0_turnDebts 93 = .ok (.iload_n 1, 1) := by decide +kernel
theorem dX0_turnDebts_94 : decode cX0_turnDebts 94 = .ok (.aload_n 0, 1) := by decide +kernel
theorem dX0_turnDebts_95 : decode cX0_turnDebts 95 = .ok (.iload_n 2, 1) := by decide +kernel
theorem dX0_turnDebts_96 : decode cX0_turnDebts 96 = .ok (.iload_n 1, 1) := by decide +kernel
theorem dX0_turnDebts_97 : decode cX0_turnDebts 97 = .ok (.invokevirtual 46, 3) := by decide +kernel
theorem dX0_turnDebts_100 : decode cX0_turnDebts 100 = .ok (.ineg, 1) := by decide +kernel
theorem dX0_turnDebts_101 : decode cX0_turnDebts 101 = .ok (.invokevirtual 76, 3) := by decide +kernel
theorem dX0_turnDebts_104 : decode cX0_turnDebts 104 = .ok (.iinc 2 1, 3) := by decide +kernel
theorem dX0_turnDebts_107 : decode cX0_turnDebts 107 = .ok (.goto (-24), 3) := by decide +kernel
theorem dX0_turnDebts_110 : decode cX0_turnDebts 110 = .ok (.return_, 1) := by decide +kernel
theorem dX0_turnOver_0 : decode cX0_turnOver 0 = .ok (.aload_n 0, 1) := by decide +kernel
theorem dX0_turnOver_1 : decode cX0_turnOver 1 = .ok (.iload_n 1, 1) := by decide +kernel
theorem dX0_turnOver_2 : decode cX0_turnOver 2 = .ok (.invokevirtual 69, 3) := by decide +kernel
theorem dX0_turnOver_5 : decode cX0_turnOver 5 = .ok (.aload_n 0, 1) := by decide +kernel
theorem dX0_turnOver_6 : decode cX0_turnOver 6 = .ok (.iload_n 1, 1) := by decide +kernel
theorem dX0_turnOver_7 : decode cX0_turnOver 7 = .ok (.invokevirtual 73, 3) := by decide +kernel
theorem dX0_turnOver_10 : decode cX0_turnOver 10 = .ok (.return_, 1) := by decide +kernel
theorem dX0_follow_0 : decode cX0_follow 0 = .ok (.iconst 0, 1) := by decide +kernel
theorem dX0_follow_1 : decode cX0_follow 1 = .ok (.istore_n 3, 1) := by decide +kernel
theorem dX0_follow_2 : decode cX0_follow 2 = .ok (.iload_n 3, 1) := by decide +kernel
theorem dX0_follow_3 : decode cX0_follow 3 = .ok (.iload_n 2, 1) := by decide +kernel
theorem dX0_follow_4 : decode cX0_follow 4 = .ok (.if_icmp .ge 34, 3) := by decide +kernel
theorem dX0_follow_7 : decode cX0_follow 7 = .ok (.iload_n 3, 1) := by decide +kernel
theorem dX0_follow_8 : decode cX0_follow 8 = .ok (.aload_n 1, 1) := by decide +kernel
theorem dX0_follow_9 : decode cX0_follow 9 = .ok (.arraylength, 1) := by decide +kernel
theorem dX0_follow_10 : decode cX0_follow 10 = .ok (.if_icmp .ge 28, 3) := by decide +kernel
theorem dX0_follow_13 : decode cX0_follow 13 = .ok (.aload_n 0, 1) := by decide +kernel
theorem dX0_follow_14 : decode cX0_follow 14 = .ok (.aload_n 1, 1) := by decide +kernel
theorem dX0_follow_15 : decode cX0_follow 15 = .ok (.iload_n 3, 1) := by decide +kernel
theorem dX0_follow_16 : decode cX0_follow 16 = .ok (.iaload, 1) := by decide +kernel
theorem dX0_follow_17 : decode cX0_follow 17 = .ok (.invokevirtual 90, 3) := by decide +kernel
theorem dX0_follow_20 : decode cX0_follow 20 = .ok (.ifCond .ne 5, 3) := by decide +kernel
theorem dX0_follow_23 : decode cX0_follow 23 = .ok (.iconst 0, 1) := by decide +kernel
theorem dX0_follow_24 : decode cX0_follow 24 = .ok (.ireturn, 1) := by decide +kernel
theorem dX0_follow_25 : decode cX0_follow 25 = .ok (.aload_n 0, 1) := by decide +kernel
theorem dX0_follow_26 : decode cX0_follow 26 = .ok (.aload_n 1, 1) := by decide +kernel
theorem dX0_follow_27 : decode cX0_follow 27 = .ok (.iload_n 3, 1) := by decide +kernel
theorem dX0_follow_28 : decode cX0_follow 28 = .ok (.iaload, 1) := by decide +kernel
theorem dX0_follow_29 : decode cX0_follow 29 = .ok (.invokevirtual 93, 3) := by decide +kernel
theorem dX0_follow_32 : decode cX0_follow 32 = .ok (.iinc 3 1, 3) := by decide +kernel
theorem dX0_follow_35 : decode cX0_follow 35 = .ok (.goto (-33), 3) := by decide +kernel
theorem dX0_follow_38 : decode cX0_follow 38 = .ok (.iconst 1, 1) := by decide +kernel
theorem dX0_follow_39 : decode cX0_follow 39 = .ok (.ireturn, 1) := by decide +kernel
theorem dX0_hasDebtsOf_0 : decode cX0_hasDebtsOf 0 = .ok (.iconst 0, 1) := by decide +kernel
theorem dX0_hasDebtsOf_1 : decode cX0_hasDebtsOf 1 = .ok (.istore_n 2, 1) := by decide +kernel
theorem dX0_hasDebtsOf_2 : decode cX0_hasDebtsOf 2 = .ok (.iload_n 2, 1) := by decide +kernel
theorem dX0_hasDebtsOf_3 : decode cX0_hasDebtsOf 3 = .ok (.aload_n 0, 1) := by decide +kernel
theorem dX0_hasDebtsOf_4 : decode cX0_hasDebtsOf 4 = .ok (.getfield 9, 3) := by decide +kernel
theorem dX0_hasDebtsOf_7 : decode cX0_hasDebtsOf 7 = .ok (.arraylength, 1) := by decide +kernel
theorem dX0_hasDebtsOf_8 : decode cX0_hasDebtsOf 8 = .ok (.if_icmp .ge 26, 3) := by decide +kernel
theorem dX0_hasDebtsOf_11 : decode cX0_hasDebtsOf 11 = .ok (.aload_n 0, 1) := by decide +kernel
theorem dX0_hasDebtsOf_12 : decode cX0_hasDebtsOf 12 = .ok (.getfield 9, 3) := by decide +kernel
theorem dX0_hasDebtsOf_15 : decode cX0_hasDebtsOf 15 = .ok (.iload_n 2, 1) := by decide +kernel
theorem dX0_hasDebtsOf_16 : decode cX0_hasDebtsOf 16 = .ok (.iaload, 1) := by decide +kernel
theorem dX0_hasDebtsOf_17 : decode cX0_hasDebtsOf 17 = .ok (.aload_n 1, 1) := by decide +kernel
theorem dX0_hasDebtsOf_18 : decode cX0_hasDebtsOf 18 = .ok (.getfield 9, 3) := by decide +kernel
theorem dX0_hasDebtsOf_21 : decode cX0_hasDebtsOf 21 = .ok (.iload_n 2, 1) := by decide +kernel
theorem dX0_hasDebtsOf_22 : decode cX0_hasDebtsOf 22 = .ok (.iaload, 1) := by decide +kernel
theorem dX0_hasDebtsOf_23 : decode cX0_hasDebtsOf 23 = .ok (.if_icmp .eq 5, 3) := by decide +kernel
theorem dX0_hasDebtsOf_26 : decode cX0_hasDebtsOf 26 = .ok (.iconst 0, 1) := by decide +kernel
theorem dX0_hasDebtsOf_27 : decode cX0_hasDebtsOf 27 = .ok (.ireturn, 1) := by decide +kernel
theorem dX0_hasDebtsOf_28 : decode cX0_hasDebtsOf 28 = .ok (.iinc 2 1, 3) := by decide +kernel
theorem dX0_hasDebtsOf_31 : decode cX0_hasDebtsOf 31 = .ok (.goto (-29), 3) := by decide +kernel
theorem dX0_hasDebtsOf_34 : decode cX0_hasDebtsOf 34 = .ok (.iconst 1, 1) := by decide +kernel
theorem dX0_hasDebtsOf_35 : decode cX0_hasDebtsOf 35 = .ok (.ireturn, 1) := by decide +kernel
theorem dX0_hasWorthsOf_0 : decode cX0_hasWorthsOf 0 = .ok (.iconst 0, 1) := by decide +kernel
theorem dX0_hasWorthsOf_1 : decode cX0_hasWorthsOf 1 = .ok (.istore_n 2, 1) := by decide +kernel
theorem dX0_hasWorthsOf_2 : decode cX0_hasWorthsOf 2 = .ok (.iload_n 2, 1) := by decide +kernel
theorem dX0_hasWorthsOf_3 : decode cX0_hasWorthsOf 3 = .ok (.aload_n 0, 1) := by decide +kernel
theorem dX0_hasWorthsOf_4 : decode cX0_hasWorthsOf 4 = .ok (.getfield 24, 3) := by decide +kernel
theorem dX0_hasWorthsOf_7 : decode cX0_hasWorthsOf 7 = .ok (.if_icmp .ge 26, 3) := by decide +kernel
theorem dX0_hasWorthsOf_10 : decode cX0_hasWorthsOf 10 = .ok (.aload_n 0, 1) := by decide +kernel
theorem dX0_hasWorthsOf_11 : decode cX0_hasWorthsOf 11 = .ok (.getfield 15, 3) := by decide +kernel
theorem dX0_hasWorthsOf_14 : decode cX0_hasWorthsOf 14 = .ok (.iload_n 2, 1) := by decide +kernel
theorem dX0_hasWorthsOf_15 : decode cX0_hasWorthsOf 15 = .ok (.iaload, 1) := by decide +kernel
theorem dX0_hasWorthsOf_16 : decode cX0_hasWorthsOf 16 = .ok (.aload_n 1, 1) := by decide +kernel
theorem dX0_hasWorthsOf_17 : decode cX0_hasWorthsOf 17 = .ok (.getfield 15, 3) := by decide +kernel
theorem dX0_hasWorthsOf_20 : decode cX0_hasWorthsOf 20 = .ok (.iload_n 2, 1) := by decide +kernel
theorem dX0_hasWorthsOf_21 : decode cX0_hasWorthsOf 21 = .ok (.iaload, 1) := by decide +kernel
theorem dX0_hasWorthsOf_22 : decode cX0_hasWorthsOf 22 = .ok (.if_icmp .eq 5, 3) := by decide +kernel
theorem dX0_hasWorthsOf_25 : decode cX0_hasWorthsOf 25 = .ok (.iconst 0, 1) := by decide +kernel
theorem dX0_hasWorthsOf_26 : decode cX0_hasWorthsOf 26 = .ok (.ireturn, 1) := by decide +kernel
theorem dX0_hasWorthsOf_27 : decode cX0_hasWorthsOf 27 = .ok (.iinc 2 1, 3) := by decide +kernel
theorem dX0_hasWorthsOf_30 : decode cX0_hasWorthsOf 30 = .ok (.goto (-28), 3) := by decide +kernel
theorem dX0_hasWorthsOf_33 : decode cX0_hasWorthsOf 33 = .ok (.iconst 1, 1) := by decide +kernel
theorem dX0_hasWorthsOf_34 : decode cX0_hasWorthsOf 34 = .ok (.ireturn, 1) := by decide +kernel
theorem dX0_incoming_0 : decode cX0_incoming 0 = .ok (.iconst 0, 1) := by decide +kernel
theorem dX0_incoming_1 : decode cX0_incoming 1 = .ok (.istore_n 2, 1) := by decide +kernel
theorem dX0_incoming_2 : decode cX0_incoming 2 = .ok (.iconst 0, 1) := by decide +kernel
theorem dX0_incoming_3 : decode cX0_incoming 3 = .ok (.istore_n 3, 1) := by decide +kernel
theorem dX0_incoming_4 : decode cX0_incoming 4 = .ok (.iload_n 3, 1) := by decide +kernel
theorem dX0_incoming_5 : decode cX0_incoming 5 = .ok (.aload_n 0, 1) := by decide +kernel
theorem dX0_incoming_6 : decode cX0_incoming 6 = .ok (.getfield 24, 3) := by decide +kernel
theorem dX0_incoming_9 : decode cX0_incoming 9 = .ok (.if_icmp .ge 22, 3) := by decide +kernel
theorem dX0_incoming_12 : decode cX0_incoming 12 = .ok (.iload_n 2, 1) := by decide +kernel
theorem dX0_incoming_13 : decode cX0_incoming 13 = .ok (.iconst 0, 1) := by decide +kernel
theorem dX0_incoming_14 : decode cX0_incoming 14 = .ok (.aload_n 0, 1) := by decide +kernel
theorem dX0_incoming_15 : decode cX0_incoming 15 = .ok (.iload_n 3, 1) := by decide +kernel
theorem dX0_incoming_16 : decode cX0_incoming 16 = .ok (.iload_n 1, 1) := by decide +kernel
theorem dX0_incoming_17 : decode cX0_incoming 17 = .ok (.invokevirtual 46, 3) := by decide +kernel
theorem dX0_incoming_20 : decode cX0_incoming 20 = .ok (.invokestatic 50, 3) := by decide +kernel
theorem dX0_incoming_23 : decode cX0_incoming 23 = .ok (.iadd, 1) := by decide +kernel
theorem dX0_incoming_24 : decode cX0_incoming 24 = .ok (.istore_n 2, 1) := by decide +kernel
theorem dX0_incoming_25 : decode cX0_incoming 25 = .ok (.iinc 3 1, 3) := by decide +kernel
theorem dX0_incoming_28 : decode cX0_incoming 28 = .ok (.goto (-24), 3) := by decide +kernel
theorem dX0_incoming_31 : decode cX0_incoming 31 = .ok (.iload_n 2, 1) := by decide +kernel
theorem dX0_incoming_32 : decode cX0_incoming 32 = .ok (.ireturn, 1) := by decide +kernel
theorem dX0_init_0 : decode cX0_init 0 = .ok (.aload_n 0, 1) := by decide +kernel
theorem dX0_init_1 : decode cX0_init 1 = .ok (.invokespecial 3, 3) := by decide +kernel
theorem dX0_init_4 : decode cX0_init 4 = .ok (.aload_n 0, 1) := by decide +kernel
theorem dX0_init_5 : decode cX0_init 5 = .ok (.bipush 36, 2) := by decide +kernel
theorem dX0_init_7 : decode cX0_init 7 = .ok (.newarray .int, 2) := by decide +kernel
theorem dX0_init_9 : decode cX0_init 9 = .ok (.putfield 9, 3) := by decide +kernel
theorem dX0_init_12 : decode cX0_init 12 = .ok (.aload_n 0, 1) := by decide +kernel
theorem dX0_init_13 : decode cX0_init 13 = .ok (.bipush 6, 2) := by decide +kernel
theorem dX0_init_15 : decode cX0_init 15 = .ok (.newarray .int, 2) := by decide +kernel
theorem dX0_init_17 : decode cX0_init 17 = .ok (.putfield 15, 3) := by decide +kernel
theorem dX0_init_20 : decode cX0_init 20 = .ok (.aload_n 0, 1) := by decide +kernel
theorem dX0_init_21 : decode cX0_init 21 = .ok (.bipush 6, 2) := by decide +kernel
theorem dX0_init_23 : decode cX0_init 23 = .ok (.newarray .int, 2) := by decide +kernel
theorem dX0_init_25 : decode cX0_init 25 = .ok (.putfield 18, 3) := by decide +kernel
theorem dX0_init_28 : decode cX0_init 28 = .ok (.aload_n 0, 1) := by decide +kernel
theorem dX0_init_29 : decode cX0_init 29 = .ok (.bipush 6, 2) := by decide +kernel
theorem dX0_init_31 : decode cX0_init 31 = .ok (.newarray .int, 2) := by decide +kernel
theorem dX0_init_33 : decode cX0_init 33 = .ok (.putfield 21, 3) := by decide +kernel
theorem dX0_init_36 : decode cX0_init 36 = .ok (.aload_n 0, 1) := by decide +kernel
theorem dX0_init_37 : decode cX0_init 37 = .ok (.iconst 0, 1) := by decide +kernel
theorem dX0_init_38 : decode cX0_init 38 = .ok (.putfield 24, 3) := by decide +kernel
theorem dX0_init_41 : decode cX0_init 41 = .ok (.aload_n 0, 1) := by decide +kernel
theorem dX0_init_42 : decode cX0_init 42 = .ok (.iconst 0, 1) := by decide +kernel
theorem dX0_init_43 : decode cX0_init 43 = .ok (.putfield 28, 3) := by decide +kernel
theorem dX0_init_46 : decode cX0_init 46 = .ok (.aload_n 0, 1) := by decide +kernel
theorem dX0_init_47 : decode cX0_init 47 = .ok (.iconst 0, 1) := by decide +kernel
theorem dX0_init_48 : decode cX0_init 48 = .ok (.putfield 31, 3) := by decide +kernel
theorem dX0_init_51 : decode cX0_init 51 = .ok (.aload_n 0, 1) := by decide +kernel
theorem dX0_init_52 : decode cX0_init 52 = .ok (.iconst 0, 1) := by decide +kernel
theorem dX0_init_53 : decode cX0_init 53 = .ok (.putfield 34, 3) := by decide +kernel
theorem dX0_init_56 : decode cX0_init 56 = .ok (.aload_n 0, 1) := by decide +kernel
theorem dX0_init_57 : decode cX0_init 57 = .ok (.iconst 0, 1) := by decide +kernel
theorem dX0_init_58 : decode cX0_init 58 = .ok (.putfield 37, 3) := by decide +kernel
theorem dX0_init_61 : decode cX0_init 61 = .ok (.return_, 1) := by decide +kernel
theorem dX0_owedBy_0 : decode cX0_owedBy 0 = .ok (.iconst 0, 1) := by decide +kernel
theorem dX0_owedBy_1 : decode cX0_owedBy 1 = .ok (.istore_n 2, 1) := by decide +kernel
theorem dX0_owedBy_2 : decode cX0_owedBy 2 = .ok (.iconst 0, 1) := by decide +kernel
theorem dX0_owedBy_3 : decode cX0_owedBy 3 = .ok (.istore_n 3, 1) := by decide +kernel
theorem dX0_owedBy_4 : decode cX0_owedBy 4 = .ok (.iload_n 3, 1) := by decide +kernel
theorem dX0_owedBy_5 : decode cX0_owedBy 5 = .ok (.aload_n 0, 1) := by decide +kernel
theorem dX0_owedBy_6 : decode cX0_owedBy 6 = .ok (.getfield 24, 3) := by decide +kernel
theorem dX0_owedBy_9 : decode cX0_owedBy 9 = .ok (.if_icmp .ge 24, 3) := by decide +kernel
theorem dX0_owedBy_12 : decode cX0_owedBy 12 = .ok (.aload_n 0, 1) := by decide +kernel
theorem dX0_owedBy_13 : decode cX0_owedBy 13 = .ok (.iload_n 1, 1) := by decide +kernel
theorem dX0_owedBy_14 : decode cX0_owedBy 14 = .ok (.iload_n 3, 1) := by decide +kernel
theorem dX0_owedBy_15 : decode cX0_owedBy 15 = .ok (.invokevirtual 46, 3) := by decide +kernel
theorem dX0_owedBy_18 : decode cX0_owedBy 18 = .ok (.ifCond .le 9, 3) := by decide +kernel
theorem dX0_owedBy_21 : decode cX0_owedBy 21 = .ok (.iload_n 2, 1) := by decide +kernel
theorem dX0_owedBy_22 : decode cX0_owedBy 22 = .ok (.iconst 1, 1) := by decide +kernel
theorem dX0_owedBy_23 : decode cX0_owedBy 23 = .ok (.iload_n 3, 1) := by decide +kernel
theorem dX0_owedBy_24 : decode cX0_owedBy 24 = .ok (.ishl, 1) := by decide +kernel
theorem dX0_owedBy_25 : decode cX0_owedBy 25 = .ok (.ior, 1) := by decide +kernel
theorem dX0_owedBy_26 : decode cX0_owedBy 26 = .ok (.istore_n 2, 1) := by decide +kernel
theorem dX0_owedBy_27 : decode cX0_owedBy 27 = .ok (.iinc 3 1, 3) := by decide +kernel
theorem dX0_owedBy_30 : decode cX0_owedBy 30 = .ok (.goto (-26), 3) := by decide +kernel
theorem dX0_owedBy_33 : decode cX0_owedBy 33 = .ok (.iload_n 2, 1) := by decide +kernel
theorem dX0_owedBy_34 : decode cX0_owedBy 34 = .ok (.ireturn, 1) := by decide +kernel
theorem dX0_levels_0 : decode cX0_levels 0 = .ok (.iconst 1, 1) := by decide +kernel
theorem dX0_levels_1 : decode cX0_levels 1 = .ok (.aload_n 0, 1) := by decide +kernel
theorem dX0_levels_2 : decode cX0_levels 2 = .ok (.getfield 24, 3) := by decide +kernel
theorem dX0_levels_5 : decode cX0_levels 5 = .ok (.ishl, 1) := by decide +kernel
theorem dX0_levels_6 : decode cX0_levels 6 = .ok (.iconst 1, 1) := by decide +kernel
theorem dX0_levels_7 : decode cX0_levels 7 = .ok (.isub, 1) := by decide +kernel
theorem dX0_levels_8 : decode cX0_levels 8 = .ok (.istore_n 1, 1) := by decide +kernel
theorem dX0_levels_9 : decode cX0_levels 9 = .ok (.iconst 0, 1) := by decide +kernel
theorem dX0_levels_10 : decode cX0_levels 10 = .ok (.istore_n 2, 1) := by decide +kernel
theorem dX0_levels_11 : decode cX0_levels 11 = .ok (.iload_n 2, 1) := by decide +kernel
theorem dX0_levels_12 : decode cX0_levels 12 = .ok (.aload_n 0, 1) := by decide +kernel
theorem dX0_levels_13 : decode cX0_levels 13 = .ok (.getfield 24, 3) := by decide +kernel
theorem dX0_levels_16 : decode cX0_levels 16 = .ok (.if_icmp .gt 69, 3) := by decide +kernel
theorem dX0_levels_19 : decode cX0_levels 19 = .ok (.iload_n 1, 1) := by decide +kernel
theorem dX0_levels_20 : decode cX0_levels 20 = .ok (.ifCond .ne 5, 3) := by decide +kernel
theorem dX0_levels_23 : decode cX0_levels 23 = .ok (.iload_n 2, 1) := by decide +kernel
theorem dX0_levels_24 : decode cX0_levels 24 = .ok (.ireturn, 1) := by decide +kernel
theorem dX0_levels_25 : decode cX0_levels 25 = .ok (.iconst 0, 1) := by decide +kernel
theorem dX0_levels_26 : decode cX0_levels 26 = .ok (.istore_n 3, 1) := by decide +kernel
theorem dX0_levels_27 : decode cX0_levels 27 = .ok (.iconst 0, 1) := by decide +kernel
theorem dX0_levels_28 : decode cX0_levels 28 = .ok (.istore 4, 2) := by decide +kernel
theorem dX0_levels_30 : decode cX0_levels 30 = .ok (.iload 4, 2) := by decide +kernel
theorem dX0_levels_32 : decode cX0_levels 32 = .ok (.aload_n 0, 1) := by decide +kernel
theorem dX0_levels_33 : decode cX0_levels 33 = .ok (.getfield 24, 3) := by decide +kernel
theorem dX0_levels_36 : decode cX0_levels 36 = .ok (.if_icmp .ge 37, 3) := by decide +kernel
theorem dX0_levels_39 : decode cX0_levels 39 = .ok (.iload_n 1, 1) := by decide +kernel
theorem dX0_levels_40 : decode cX0_levels 40 = .ok (.iload 4, 2) := by decide +kernel
theorem dX0_levels_42 : decode cX0_levels 42 = .ok (.ishr, 1) := by decide +kernel
theorem dX0_levels_43 : decode cX0_levels 43 = .ok (.iconst 1, 1) := by decide +kernel
theorem dX0_levels_44 : decode cX0_levels 44 = .ok (.iand, 1) := by decide +kernel
theorem dX0_levels_45 : decode cX0_levels 45 = .ok (.iconst 1, 1) := by decide +kernel
theorem dX0_levels_46 : decode cX0_levels 46 = .ok (.if_icmp .ne 21, 3) := by decide +kernel
theorem dX0_levels_49 : decode cX0_levels 49 = .ok (.aload_n 0, 1) := by decide +kernel
theorem dX0_levels_50 : decode cX0_levels 50 = .ok (.iload 4, 2) := by decide +kernel
theorem dX0_levels_52 : decode cX0_levels 52 = .ok (.invokevirtual 96, 3) := by decide +kernel
theorem dX0_levels_55 : decode cX0_levels 55 = .ok (.iload_n 1, 1) := by decide +kernel
theorem dX0_levels_56 : decode cX0_levels 56 = .ok (.iand, 1) := by decide +kernel
theorem dX0_levels_57 : decode cX0_levels 57 = .ok (.ifCond .ne 10, 3) := by decide +kernel
theorem dX0_levels_60 : decode cX0_levels 60 = .ok (.iload_n 3, 1) := by decide +kernel
theorem dX0_levels_61 : decode cX0_levels 61 = .ok (.iconst 1, 1) := by decide +kernel
theorem dX0_levels_62 : decode cX0_levels 62 = .ok (.iload 4, 2) := by decide +kernel
theorem dX0_levels_64 : decode cX0_levels 64 = .ok (.ishl, 1) := by decide +kernel
theorem dX0_levels_65 : decode cX0_levels 65 = .ok (.ior, 1) := by decide +kernel
theorem dX0_levels_66 : decode cX0_levels 66 = .ok (.istore_n 3, 1) := by decide +kernel
theorem dX0_levels_67 : decode cX0_levels 67 = .ok (.iinc 4 1, 3) := by decide +kernel
theorem dX0_levels_70 : decode cX0_levels 70 = .ok (.goto (-40), 3) := by decide +kernel
theorem dX0_levels_73 : decode cX0_levels 73 = .ok (.iload_n 1, 1) := by decide +kernel
theorem dX0_levels_74 : decode cX0_levels 74 = .ok (.iload_n 3, 1) := by decide +kernel
theorem dX0_levels_75 : decode cX0_levels 75 = .ok (.iconst (-1), 1) := by decide +kernel
theorem dX0_levels_76 : decode cX0_levels 76 = .ok (.ixor, 1) := by decide +kernel
theorem dX0_levels_77 : decode cX0_levels 77 = .ok (.iand, 1) := by decide +kernel
theorem dX0_levels_78 : decode cX0_levels 78 = .ok (.istore_n 1, 1) := by decide +kernel
theorem dX0_levels_79 : decode cX0_levels 79 = .ok (.iinc 2 1, 3) := by decide +kernel
theorem dX0_levels_82 : decode cX0_levels 82 = .ok (.goto (-71), 3) := by decide +kernel
theorem dX0_levels_85 : decode cX0_levels 85 = .ok (.iconst (-1), 1) := by decide +kernel
theorem dX0_levels_86 : decode cX0_levels 86 = .ok (.ireturn, 1) := by decide +kernel
theorem dX0_mostBetweenTwo_0 : decode cX0_mostBetweenTwo 0 = .ok (.iconst 0, 1) := by decide +kernel
theorem dX0_mostBetweenTwo_1 : decode cX0_mostBetweenTwo 1 = .ok (.istore_n 1, 1) := by decide +kernel
theorem dX0_mostBetweenTwo_2 : decode cX0_mostBetweenTwo 2 = .ok (.iconst 0, 1) := by decide +kernel
theorem dX0_mostBetweenTwo_3 : decode cX0_mostBetweenTwo 3 = .ok (.istore_n 2, 1) := by decide +kernel
theorem dX0_mostBetweenTwo_4 : decode cX0_mostBetweenTwo 4 = .ok (.iload_n 2, 1) := by decide +kernel
theorem dX0_mostBetweenTwo_5 : decode cX0_mostBetweenTwo 5 = .ok (.aload_n 0, 1) := by decide +kernel
theorem dX0_mostBetweenTwo_6 : decode cX0_mostBetweenTwo 6 = .ok (.getfield 9, 3) := by decide +kernel
theorem dX0_mostBetweenTwo_9 : decode cX0_mostBetweenTwo 9 = .ok (.arraylength, 1) := by decide +kernel
theorem dX0_mostBetweenTwo_10 : decode cX0_mostBetweenTwo 10 = .ok (.if_icmp .ge 20, 3) := by decide +kernel
theorem dX0_mostBetweenTwo_13 : decode cX0_mostBetweenTwo 13 = .ok (.iload_n 1, 1) := by decide +kernel
theorem dX0_mostBetweenTwo_14 : decode cX0_mostBetweenTwo 14 = .ok (.aload_n 0, 1) := by decide +kernel
theorem dX0_mostBetweenTwo_15 : decode cX0_mostBetweenTwo 15 = .ok (.getfield 9, 3) := by decide +kernel
theorem dX0_mostBetweenTwo_18 : decode cX0_mostBetweenTwo 18 = .ok (.iload_n 2, 1) := by decide +kernel
theorem dX0_mostBetweenTwo_19 : decode cX0_mostBetweenTwo 19 = .ok (.iaload, 1) := by decide +kernel
theorem dX0_mostBetweenTwo_20 : decode cX0_mostBetweenTwo 20 = .ok (.invokestatic 50, 3) := by decide +kernel
theorem dX0_mostBetweenTwo_23 : decode cX0_mostBetweenTwo 23 = .ok (.istore_n 1, 1) := by decide +kernel
theorem dX0_mostBetweenTwo_24 : decode cX0_mostBetweenTwo 24 = .ok (.iinc 2 1, 3) := by decide +kernel
theorem dX0_mostBetweenTwo_27 : decode cX0_mostBetweenTwo 27 = .ok (.goto (-23), 3) := by decide +kernel
theorem dX0_mostBetweenTwo_30 : decode cX0_mostBetweenTwo 30 = .ok (.iload_n 1, 1) := by decide +kernel
theorem dX0_mostBetweenTwo_31 : decode cX0_mostBetweenTwo 31 = .ok (.ireturn, 1) := by decide +kernel
theorem dX0_outgoing_0 : decode cX0_outgoing 0 = .ok (.iconst 0, 1) := by decide +kernel
theorem dX0_outgoing_1 : decode cX0_outgoing 1 = .ok (.istore_n 2, 1) := by decide +kernel
theorem dX0_outgoing_2 : decode cX0_outgoing 2 = .ok (.iconst 0, 1) := by decide +kernel
theorem dX0_outgoing_3 : decode cX0_outgoing 3 = .ok (.istore_n 3, 1) := by decide +kernel
theorem dX0_outgoing_4 : decode cX0_outgoing 4 = .ok (.iload_n 3, 1) := by decide +kernel
theorem dX0_outgoing_5 : decode cX0_outgoing 5 = .ok (.aload_n 0, 1) := by decide +kernel
theorem dX0_outgoing_6 : decode cX0_outgoing 6 = .ok (.getfield 24, 3) := by decide +kernel
theorem dX0_outgoing_9 : decode cX0_outgoing 9 = .ok (.if_icmp .ge 22, 3) := by decide +kernel
theorem dX0_outgoing_12 : decode cX0_outgoing 12 = .ok (.iload_n 2, 1) := by decide +kernel
theorem dX0_outgoing_13 : decode cX0_outgoing 13 = .ok (.iconst 0, 1) := by decide +kernel
theorem dX0_outgoing_14 : decode cX0_outgoing 14 = .ok (.aload_n 0, 1) := by decide +kernel
theorem dX0_outgoing_15 : decode cX0_outgoing 15 = .ok (.iload_n 1, 1) := by decide +kernel
theorem dX0_outgoing_16 : decode cX0_outgoing 16 = .ok (.iload_n 3, 1) := by decide +kernel
theorem dX0_outgoing_17 : decode cX0_outgoing 17 = .ok (.invokevirtual 46, 3) := by decide +kernel
theorem dX0_outgoing_20 : decode cX0_outgoing 20 = .ok (.invokestatic 50, 3) := by decide +kernel
theorem dX0_outgoing_23 : decode cX0_outgoing 23 = .ok (.iadd, 1) := by decide +kernel
theorem dX0_outgoing_24 : decode cX0_outgoing 24 = .ok (.istore_n 2, 1) := by decide +kernel
theorem dX0_outgoing_25 : decode cX0_outgoing 25 = .ok (.iinc 3 1, 3) := by decide +kernel
theorem dX0_outgoing_28 : decode cX0_outgoing 28 = .ok (.goto (-24), 3) := by decide +kernel
theorem dX0_outgoing_31 : decode cX0_outgoing 31 = .ok (.iload_n 2, 1) := by decide +kernel
theorem dX0_outgoing_32 : decode cX0_outgoing 32 = .ok (.ireturn, 1) := by decide +kernel
theorem dX0_pairs_0 : decode cX0_pairs 0 = .ok (.iconst 0, 1) := by decide +kernel
theorem dX0_pairs_1 : decode cX0_pairs 1 = .ok (.istore_n 1, 1) := by decide +kernel
theorem dX0_pairs_2 : decode cX0_pairs 2 = .ok (.iconst 0, 1) := by decide +kernel
theorem dX0_pairs_3 : decode cX0_pairs 3 = .ok (.istore_n 2, 1) := by decide +kernel
theorem dX0_pairs_4 : decode cX0_pairs 4 = .ok (.iload_n 2, 1) := by decide +kernel
theorem dX0_pairs_5 : decode cX0_pairs 5 = .ok (.aload_n 0, 1) := by decide +kernel
theorem dX0_pairs_6 : decode cX0_pairs 6 = .ok (.getfield 9, 3) := by decide +kernel
theorem dX0_pairs_9 : decode cX0_pairs 9 = .ok (.arraylength, 1) := by decide +kernel
theorem dX0_pairs_10 : decode cX0_pairs 10 = .ok (.if_icmp .ge 21, 3) := by decide +kernel
theorem dX0_pairs_13 : decode cX0_pairs 13 = .ok (.aload_n 0, 1) := by decide +kernel
theorem dX0_pairs_14 : decode cX0_pairs 14 = .ok (.getfield 9, 3) := by decide +kernel
theorem dX0_pairs_17 : decode cX0_pairs 17 = .ok (.iload_n 2, 1) := by decide +kernel
theorem dX0_pairs_18 : decode cX0_pairs 18 = .ok (.iaload, 1) := by decide +kernel
theorem dX0_pairs_19 : decode cX0_pairs 19 = .ok (.ifCond .le 6, 3) := by decide +kernel
theorem dX0_pairs_22 : decode cX0_pairs 22 = .ok (.iinc 1 1, 3) := by decide +kernel
theorem dX0_pairs_25 : decode cX0_pairs 25 = .ok (.iinc 2 1, 3) := by decide +kernel
theorem dX0_pairs_28 : decode cX0_pairs 28 = .ok (.goto (-24), 3) := by decide +kernel
theorem dX0_pairs_31 : decode cX0_pairs 31 = .ok (.iload_n 1, 1) := by decide +kernel
theorem dX0_pairs_32 : decode cX0_pairs 32 = .ok (.ireturn, 1) := by decide +kernel
theorem dX0_steps_0 : decode cX0_steps 0 = .ok (.aload_n 0, 1) := by decide +kernel
theorem dX0_steps_1 : decode cX0_steps 1 = .ok (.iload_n 1, 1) := by decide +kernel
theorem dX0_steps_2 : decode cX0_steps 2 = .ok (.invokevirtual 96, 3) := by decide +kernel
theorem dX0_steps_5 : decode cX0_steps 5 = .ok (.istore_n 3, 1) := by decide +kernel
theorem dX0_steps_6 : decode cX0_steps 6 = .ok (.iconst 0, 1) := by decide +kernel
theorem dX0_steps_7 : decode cX0_steps 7 = .ok (.istore 4, 2) := by decide +kernel
theorem dX0_steps_9 : decode cX0_steps 9 = .ok (.iconst 1, 1) := by decide +kernel
theorem dX0_steps_10 : decode cX0_steps 10 = .ok (.istore 5, 2) := by decide +kernel
theorem dX0_steps_12 : decode cX0_steps 12 = .ok (.iload 5, 2) := by decide +kernel
theorem dX0_steps_14 : decode cX0_steps 14 = .ok (.aload_n 0, 1) := by decide +kernel
theorem dX0_steps_15 : decode cX0_steps 15 = .ok (.getfield 24, 3) := by decide +kernel
theorem dX0_steps_18 : decode cX0_steps 18 = .ok (.if_icmp .gt 77, 3) := by decide +kernel
theorem dX0_steps_21 : decode cX0_steps 21 = .ok (.iload_n 3, 1) := by decide +kernel
theorem dX0_steps_22 : decode cX0_steps 22 = .ok (.iload_n 2, 1) := by decide +kernel
theorem dX0_steps_23 : decode cX0_steps 23 = .ok (.ishr, 1) := by decide +kernel
theorem dX0_steps_24 : decode cX0_steps 24 = .ok (.iconst 1, 1) := by decide +kernel
theorem dX0_steps_25 : decode cX0_steps 25 = .ok (.iand, 1) := by decide +kernel
theorem dX0_steps_26 : decode cX0_steps 26 = .ok (.iconst 1, 1) := by decide +kernel
theorem dX0_steps_27 : decode cX0_steps 27 = .ok (.if_icmp .ne 6, 3) := by decide +kernel
theorem dX0_steps_30 : decode cX0_steps 30 = .ok (.iload 5, 2) := by decide +kernel
theorem dX0_steps_32 : decode cX0_steps 32 = .ok (.ireturn, 1) := by decide +kernel
theorem dX0_steps_33 : decode cX0_steps 33 = .ok (.iload 4, 2) := by decide +kernel
theorem dX0_steps_35 : decode cX0_steps 35 = .ok (.iload_n 3, 1) := by decide +kernel
theorem dX0_steps_36 : decode cX0_steps 36 = .ok (.ior, 1) := by decide +kernel
theorem dX0_steps_37 : decode cX0_steps 37 = .ok (.istore 4, 2) := by decide +kernel
theorem dX0_steps_39 : decode cX0_steps 39 = .ok (.iconst 0, 1) := by decide +kernel
theorem dX0_steps_40 : decode cX0_steps 40 = .ok (.istore 6, 2) := by decide +kernel
theorem dX0_steps_42 : decode cX0_steps 42 = .ok (.iconst 0, 1) := by decide +kernel
theorem dX0_steps_43 : decode cX0_steps 43 = .ok (.istore 7, 2) := by decide +kernel
theorem dX0_steps_45 : decode cX0_steps 45 = .ok (.iload 7, 2) := by decide +kernel
theorem dX0_steps_47 : decode cX0_steps 47 = .ok (.aload_n 0, 1) := by decide +kernel
theorem dX0_steps_48 : decode cX0_steps 48 = .ok (.getfield 24, 3) := by decide +kernel
theorem dX0_steps_51 : decode cX0_steps 51 = .ok (.if_icmp .ge 30, 3) := by decide +kernel
theorem dX0_steps_54 : decode cX0_steps 54 = .ok (.iload_n 3, 1) := by decide +kernel
theorem dX0_steps_55 : decode cX0_steps 55 = .ok (.iload 7, 2) := by decide +kernel
theorem dX0_steps_57 : decode cX0_steps 57 = .ok (.ishr, 1) := by decide +kernel
theorem dX0_steps_58 : decode cX0_steps 58 = .ok (.iconst 1, 1) := by decide +kernel
theorem dX0_steps_59 : decode cX0_steps 59 = .ok (.iand, 1) := by decide +kernel
theorem dX0_steps_60 : decode cX0_steps 60 = .ok (.iconst 1, 1) := by decide +kernel
theorem dX0_steps_61 : decode cX0_steps 61 = .ok (.if_icmp .ne 14, 3) := by decide +kernel
theorem dX0_steps_64 : decode cX0_steps 64 = .ok (.iload 6, 2) := by decide +kernel
theorem dX0_steps_66 : decode cX0_steps 66 = .ok (.aload_n 0, 1) := by decide +kernel
theorem dX0_steps_67 : decode cX0_steps 67 = .ok (.iload 7, 2) := by decide +kernel
theorem dX0_steps_69 : decode cX0_steps 69 = .ok (.invokevirtual 96, 3) := by decide +kernel
theorem dX0_steps_72 : decode cX0_steps 72 = .ok (.ior, 1) := by decide +kernel
theorem dX0_steps_73 : decode cX0_steps 73 = .ok (.istore 6, 2) := by decide +kernel
theorem dX0_steps_75 : decode cX0_steps 75 = .ok (.iinc 7 1, 3) := by decide +kernel
theorem dX0_steps_78 : decode cX0_steps 78 = .ok (.goto (-33), 3) := by decide +kernel
theorem dX0_steps_81 : decode cX0_steps 81 = .ok (.iload 6, 2) := by decide +kernel
theorem dX0_steps_83 : decode cX0_steps 83 = .ok (.iload 4, 2) := by decide +kernel
theorem dX0_steps_85 : decode cX0_steps 85 = .ok (.iconst (-1), 1) := by decide +kernel
theorem dX0_steps_86 : decode cX0_steps 86 = .ok (.ixor, 1) := by decide +kernel
theorem dX0_steps_87 : decode cX0_steps 87 = .ok (.iand, 1) := by decide +kernel
theorem dX0_steps_88 : decode cX0_steps 88 = .ok (.istore_n 3, 1) := by decide +kernel
theorem dX0_steps_89 : decode cX0_steps 89 = .ok (.iinc 5 1, 3) := by decide +kernel
theorem dX0_steps_92 : decode cX0_steps 92 = .ok (.goto (-80), 3) := by decide +kernel
theorem dX0_steps_95 : decode cX0_steps 95 = .ok (.iconst (-1), 1) := by decide +kernel
theorem dX0_steps_96 : decode cX0_steps 96 = .ok (.ireturn, 1) := by decide +kernel
