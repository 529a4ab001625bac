theorem dX4_peek_0 : decode cX4_peek 0 = .ok (.aload_n 0, 1) := by decide +kernel
theorem dX4_peek_1 : decode cX4_peek 1 = .ok (.getfield 22, 3) := by decide +kernel
theorem dX4_peek_4 : decode cX4_peek 4 = .ok (.ifCond .eq 5, 3) := by decide +kernel
theorem dX4_peek_7 : decode cX4_peek 7 = .ok (.iconst (-1), 1) := by decide +kernel
theorem dX4_peek_8 : decode cX4_peek 8 = .ok (.ireturn, 1) := by decide +kernel
theorem dX4_peek_9 : decode cX4_peek 9 = .ok (.aload_n 0, 1) := by decide +kernel
theorem dX4_peek_10 : decode cX4_peek 10 = .ok (.getfield 19, 3) := by decide +kernel
theorem dX4_peek_13 : decode cX4_peek 13 = .ok (.aload_n 0, 1) := by decide +kernel
theorem dX4_peek_14 : decode cX4_peek 14 = .ok (.getfield 15, 3) := by decide +kernel
theorem dX4_peek_17 : decode cX4_peek 17 = .ok (.if_icmp .ge 30, 3) := by decide +kernel
theorem dX4_peek_20 : decode cX4_peek 20 = .ok (.aload_n 0, 1) := by decide +kernel
theorem dX4_peek_21 : decode cX4_peek 21 = .ok (.getfield 9, 3) := by decide +kernel
theorem dX4_peek_24 : decode cX4_peek 24 = .ok (.aload_n 0, 1) := by decide +kernel
theorem dX4_peek_25 : decode cX4_peek 25 = .ok (.getfield 19, 3) := by decide +kernel
theorem dX4_peek_28 : decode cX4_peek 28 = .ok (.iaload, 1) := by decide +kernel
theorem dX4_peek_29 : decode cX4_peek 29 = .ok (.bipush 32, 2) := by decide +kernel
theorem dX4_peek_31 : decode cX4_peek 31 = .ok (.if_icmp .ne 16, 3) := by decide +kernel
theorem dX4_peek_34 : decode cX4_peek 34 = .ok (.aload_n 0, 1) := by decide +kernel
theorem dX4_peek_35 : decode cX4_peek 35 = .ok (.dup, 1) := by decide +kernel
theorem dX4_peek_36 : decode cX4_peek 36 = .ok (.getfield 19, 3) := by decide +kernel
theorem dX4_peek_39 : decode cX4_peek 39 = .ok (.iconst 1, 1) := by decide +kernel
theorem dX4_peek_40 : decode cX4_peek 40 = .ok (.iadd, 1) := by decide +kernel
theorem dX4_peek_41 : decode cX4_peek 41 = .ok (.putfield 19, 3) := by decide +kernel
theorem dX4_peek_44 : decode cX4_peek 44 = .ok (.goto (-35), 3) := by decide +kernel
theorem dX4_peek_47 : decode cX4_peek 47 = .ok (.aload_n 0, 1) := by decide +kernel
theorem dX4_peek_48 : decode cX4_peek 48 = .ok (.getfield 19, 3) := by decide +kernel
theorem dX4_peek_51 : decode cX4_peek 51 = .ok (.aload_n 0, 1) := by decide +kernel
theorem dX4_peek_52 : decode cX4_peek 52 = .ok (.getfield 15, 3) := by decide +kernel
theorem dX4_peek_55 : decode cX4_peek 55 = .ok (.if_icmp .ge 15, 3) := by decide +kernel
theorem dX4_peek_58 : decode cX4_peek 58 = .ok (.aload_n 0, 1) := by decide +kernel
theorem dX4_peek_59 : decode cX4_peek 59 = .ok (.getfield 9, 3) := by decide +kernel
theorem dX4_peek_62 : decode cX4_peek 62 = .ok (.aload_n 0, 1) := by decide +kernel
theorem dX4_peek_63 : decode cX4_peek 63 = .ok (.getfield 19, 3) := by decide +kernel
theorem dX4_peek_66 : decode cX4_peek 66 = .ok (.iaload, 1) := by decide +kernel
theorem dX4_peek_67 : decode cX4_peek 67 = .ok (.goto 4, 3) := by decide +kernel
theorem dX4_peek_70 : decode cX4_peek 70 = .ok (.iconst (-1), 1) := by decide +kernel
theorem dX4_peek_71 : decode cX4_peek 71 = .ok (.ireturn, 1) := by decide +kernel
theorem dX4_need_0 : decode cX4_need 0 = .ok (.aload_n 0, 1) := by decide +kernel
theorem dX4_need_1 : decode cX4_need 1 = .ok (.invokevirtual 35, 3) := by decide +kernel
theorem dX4_need_4 : decode cX4_need 4 = .ok (.iload_n 1, 1) := by decide +kernel
theorem dX4_need_5 : decode cX4_need 5 = .ok (.if_icmp .ne 16, 3) := by decide +kernel
theorem dX4_need_8 : decode cX4_need 8 = .ok (.aload_n 0, 1) := by decide +kernel
theorem dX4_need_9 : decode cX4_need 9 = .ok (.dup, 1) := by decide +kernel
theorem dX4_need_10 : decode cX4_need 10 = .ok (.getfield 19, 3) := by decide +kernel
theorem dX4_need_13 : decode cX4_need 13 = .ok (.iconst 1, 1) := by decide +kernel
theorem dX4_need_14 : decode cX4_need 14 = .ok (.iadd, 1) := by decide +kernel
theorem dX4_need_15 : decode cX4_need 15 = .ok (.putfield 19, 3) := by decide +kernel
theorem dX4_need_18 : decode cX4_need 18 = .ok (.goto 8, 3) := by decide +kernel
theorem dX4_need_21 : decode cX4_need 21 = .ok (.aload_n 0, 1) := by decide +kernel
theorem dX4_need_22 : decode cX4_need 22 = .ok (.iconst 1, 1) := by decide +kernel
theorem dX4_need_23 : decode cX4_need 23 = .ok (.putfield 22, 3) := by decide +kernel
theorem dX4_need_26 : decode cX4_need 26 = .ok (.return_, 1) := by decide +kernel
theorem dX4_isDigit_0 : decode cX4_isDigit 0 = .ok (.iload_n 0, 1) := by decide +kernel
theorem dX4_isDigit_1 : decode cX4_isDigit 1 = .ok (.bipush 48, 2) := by decide +kernel
theorem dX4_isDigit_3 : decode cX4_isDigit 3 = .ok (.if_icmp .lt 13, 3) := by decide +kernel
theorem dX4_isDigit_6 : decode cX4_isDigit 6 = .ok (.iload_n 0, 1) := by decide +kernel
theorem dX4_isDigit_7 : decode cX4_isDigit 7 = .ok (.bipush 57, 2) := by decide +kernel
theorem dX4_isDigit_9 : decode cX4_isDigit 9 = .ok (.if_icmp .gt 7, 3) := by decide +kernel
theorem dX4_isDigit_12 : decode cX4_isDigit 12 = .ok (.iconst 1, 1) := by decide +kernel
theorem dX4_isDigit_13 : decode cX4_isDigit 13 = .ok (.goto 4, 3) := by decide +kernel
theorem dX4_isDigit_16 : decode cX4_isDigit 16 = .ok (.iconst 0, 1) := by decide +kernel
theorem dX4_isDigit_17 : decode cX4_isDigit 17 = .ok (.ireturn, 1) := by decide +kernel
theorem dX4_number_0 : decode cX4_number 0 = .ok (.aload_n 0, 1) := by decide +kernel
theorem dX4_number_1 : decode cX4_number 1 = .ok (.invokevirtual 35, 3) := by decide +kernel
theorem dX4_number_4 : decode cX4_number 4 = .ok (.invokestatic 39, 3) := by decide +kernel
theorem dX4_number_7 : decode cX4_number 7 = .ok (.ifCond .ne 10, 3) := by decide +kernel
theorem dX4_number_10 : decode cX4_number 10 = .ok (.aload_n 0, 1) := by decide +kernel
theorem dX4_number_11 : decode cX4_number 11 = .ok (.iconst 1, 1) := by decide +kernel
theorem dX4_number_12 : decode cX4_number 12 = .ok (.putfield 22, 3) := by decide +kernel
theorem dX4_number_15 : decode cX4_number 15 = .ok (.iconst 0, 1) := by decide +kernel
theorem dX4_number_16 : decode cX4_number 16 = .ok (.ireturn, 1) := by decide +kernel
theorem dX4_number_17 : decode cX4_number 17 = .ok (.iconst 0, 1) := by decide +kernel
theorem dX4_number_18 : decode cX4_number 18 = .ok (.istore_n 2, 1) := by decide +kernel
theorem dX4_number_19 : decode cX4_number 19 = .ok (.iconst 0, 1) := by decide +kernel
theorem dX4_number_20 : decode cX4_number 20 = .ok (.istore_n 3, 1) := by decide +kernel
theorem dX4_number_21 : decode cX4_number 21 = .ok (.iload_n 3, 1) := by decide +kernel
theorem dX4_number_22 : decode cX4_number 22 = .ok (.iload_n 1, 1) := by decide +kernel
theorem dX4_number_23 : decode cX4_number 23 = .ok (.if_icmp .ge 63, 3) := by decide +kernel
theorem dX4_number_26 : decode cX4_number 26 = .ok (.aload_n 0, 1) := by decide +kernel
theorem dX4_number_27 : decode cX4_number 27 = .ok (.getfield 19, 3) := by decide +kernel
theorem dX4_number_30 : decode cX4_number 30 = .ok (.aload_n 0, 1) := by decide +kernel
theorem dX4_number_31 : decode cX4_number 31 = .ok (.getfield 15, 3) := by decide +kernel
theorem dX4_number_34 : decode cX4_number 34 = .ok (.if_icmp .ge 52, 3) := by decide +kernel
theorem dX4_number_37 : decode cX4_number 37 = .ok (.aload_n 0, 1) := by decide +kernel
theorem dX4_number_38 : decode cX4_number 38 = .ok (.getfield 9, 3) := by decide +kernel
theorem dX4_number_41 : decode cX4_number 41 = .ok (.aload_n 0, 1) := by decide +kernel
theorem dX4_number_42 : decode cX4_number 42 = .ok (.getfield 19, 3) := by decide +kernel
theorem dX4_number_45 : decode cX4_number 45 = .ok (.iaload, 1) := by decide +kernel
theorem dX4_number_46 : decode cX4_number 46 = .ok (.invokestatic 39, 3) := by decide +kernel
theorem dX4_number_49 : decode cX4_number 49 = .ok (.ifCond .eq 37, 3) := by decide +kernel
theorem dX4_number_52 : decode cX4_number 52 = .ok (.bipush 10, 2) := by decide +kernel
theorem dX4_number_54 : decode cX4_number 54 = .ok (.iload_n 2, 1) := by decide +kernel
theorem dX4_number_55 : decode cX4_number 55 = .ok (.imul, 1) := by decide +kernel
theorem dX4_number_56 : decode cX4_number 56 = .ok (.aload_n 0, 1) := by decide +kernel
theorem dX4_number_57 : decode cX4_number 57 = .ok (.getfield 9, 3) := by decide +kernel
theorem dX4_number_60 : decode cX4_number 60 = .ok (.aload_n 0, 1) := by decide +kernel
theorem dX4_number_61 : decode cX4_number 61 = .ok (.getfield 19, 3) := by decide +kernel
theorem dX4_number_64 : decode cX4_number 64 = .ok (.iaload, 1) := by decide +kernel
theorem dX4_number_65 : decode cX4_number 65 = .ok (.iadd, 1) := by decide +kernel
theorem dX4_number_66 : decode cX4_number 66 = .ok (.bipush 48, 2) := by decide +kernel
theorem dX4_number_68 : decode cX4_number 68 = .ok (.isub, 1) := by decide +kernel
theorem dX4_number_69 : decode cX4_number 69 = .ok (.istore_n 2, 1) := by decide +kernel
theorem dX4_number_70 : decode cX4_number 70 = .ok (.aload_n 0, 1) := by decide +kernel
theorem dX4_number_71 : decode cX4_number 71 = .ok (.dup, 1) := by decide +kernel
theorem dX4_number_72 : decode cX4_number 72 = .ok (.getfield 19, 3) := by decide +kernel
theorem dX4_number_75 : decode cX4_number 75 = .ok (.iconst 1, 1) := by decide +kernel
theorem dX4_number_76 : decode cX4_number 76 = .ok (.iadd, 1) := by decide +kernel
theorem dX4_number_77 : decode cX4_number 77 = .ok (.putfield 19, 3) := by decide +kernel
theorem dX4_number_80 : decode cX4_number 80 = .ok (.iinc 3 1, 3) := by decide +kernel
theorem dX4_number_83 : decode cX4_number 83 = .ok (.goto (-62), 3) := by decide +kernel
theorem dX4_number_86 : decode cX4_number 86 = .ok (.aload_n 0, 1) := by decide +kernel
theorem dX4_number_87 : decode cX4_number 87 = .ok (.getfield 19, 3) := by decide +kernel
theorem dX4_number_90 : decode cX4_number 90 = .ok (.aload_n 0, 1) := by decide +kernel
theorem dX4_number_91 : decode cX4_number 91 = .ok (.getfield 15, 3) := by decide +kernel
theorem dX4_number_94 : decode cX4_number 94 = .ok (.if_icmp .ge 23, 3) := by decide +kernel
theorem dX4_number_97 : decode cX4_number 97 = .ok (.aload_n 0, 1) := by decide +kernel
theorem dX4_number_98 : decode cX4_number 98 = .ok (.getfield 9, 3) := by decide +kernel
theorem dX4_number_101 : decode cX4_number 101 = .ok (.aload_n 0, 1) := by decide +kernel
theorem dX4_number_102 : decode cX4_number 102 = .ok (.getfield 19, 3) := by decide +kernel
theorem dX4_number_105 : decode cX4_number 105 = .ok (.iaload, 1) := by decide +kernel
theorem dX4_number_106 : decode cX4_number 106 = .ok (.invokestatic 39, 3) := by decide +kernel
theorem dX4_number_109 : decode cX4_number 109 = .ok (.ifCond .eq 8, 3) := by decide +kernel
theorem dX4_number_112 : decode cX4_number 112 = .ok (.aload_n 0, 1) := by decide +kernel
theorem dX4_number_113 : decode cX4_number 113 = .ok (.iconst 1, 1) := by decide +kernel
theorem dX4_number_114 : decode cX4_number 114 = .ok (.putfield 22, 3) := by decide +kernel
theorem dX4_number_117 : decode cX4_number 117 = .ok (.iload_n 2, 1) := by decide +kernel
theorem dX4_number_118 : decode cX4_number 118 = .ok (.ireturn, 1) := by decide +kernel
theorem dX4_start_0 : decode cX4_start 0 = .ok (.aload_n 0, 1) := by decide +kernel
theorem dX4_start_1 : decode cX4_start 1 = .ok (.aload_n 1, 1) := by decide +kernel
theorem dX4_start_2 : decode cX4_start 2 = .ok (.putfield 9, 3) := by decide +kernel
theorem dX4_start_5 : decode cX4_start 5 = .ok (.aload_n 0, 1) := by decide +kernel
theorem dX4_start_6 : decode cX4_start 6 = .ok (.iconst 0, 1) := by decide +kernel
theorem dX4_start_7 : decode cX4_start 7 = .ok (.iload_n 2, 1) := by decide +kernel
theorem dX4_start_8 : decode cX4_start 8 = .ok (.aload_n 1, 1) := by decide +kernel
theorem dX4_start_9 : decode cX4_start 9 = .ok (.arraylength, 1) := by decide +kernel
theorem dX4_start_10 : decode cX4_start 10 = .ok (.invokestatic 26, 3) := by decide +kernel
theorem dX4_start_13 : decode cX4_start 13 = .ok (.invokestatic 32, 3) := by decide +kernel
theorem dX4_start_16 : decode cX4_start 16 = .ok (.putfield 15, 3) := by decide +kernel
theorem dX4_start_19 : decode cX4_start 19 = .ok (.aload_n 0, 1) := by decide +kernel
theorem dX4_start_20 : decode cX4_start 20 = .ok (.iconst 0, 1) := by decide +kernel
theorem dX4_start_21 : decode cX4_start 21 = .ok (.putfield 19, 3) := by decide +kernel
theorem dX4_start_24 : decode cX4_start 24 = .ok (.aload_n 0, 1) := by decide +kernel
theorem dX4_start_25 : decode cX4_start 25 = .ok (.iconst 0, 1) := by decide +kernel
theorem dX4_start_26 : decode cX4_start 26 = .ok (.putfield 22, 3) := by decide +kernel
theorem dX4_start_29 : decode cX4_start 29 = .ok (.return_, 1) := by decide +kernel
theorem dX4_take_0 : decode cX4_take 0 = .ok (.aload_n 0, 1) := by decide +kernel
theorem dX4_take_1 : decode cX4_take 1 = .ok (.invokevirtual 35, 3) := by decide +kernel
theorem dX4_take_4 : decode cX4_take 4 = .ok (.iload_n 1, 1) := by decide +kernel
theorem dX4_take_5 : decode cX4_take 5 = .ok (.if_icmp .eq 5, 3) := by decide +kernel
theorem dX4_take_8 : decode cX4_take 8 = .ok (.iconst 0, 1) := by decide +kernel
theorem dX4_take_9 : decode cX4_take 9 = .ok (.ireturn, 1) := by decide +kernel
theorem dX4_take_10 : decode cX4_take 10 = .ok (.aload_n 0, 1) := by decide +kernel
theorem dX4_take_11 : decode cX4_take 11 = .ok (.dup, 1) := by decide +kernel
theorem dX4_take_12 : decode cX4_take 12 = .ok (.getfield 19, 3) := by decide +kernel
theorem dX4_take_15 : decode cX4_take 15 = .ok (.iconst 1, 1) := by decide +kernel
theorem dX4_take_16 : decode cX4_take 16 = .ok (.iadd, 1) := by decide +kernel
theorem dX4_take_17 : decode cX4_take 17 = .ok (.putfield 19, 3) := by decide +kernel
theorem dX4_take_20 : decode cX4_take 20 = .ok (.iconst 1, 1) := by decide +kernel
theorem dX4_take_21 : decode cX4_take 21 = .ok (.ireturn, 1) := by decide +kernel
theorem dX4_wrongAt_0 : decode cX4_wrongAt 0 = .ok (.aload_n 0, 1) := by decide +kernel
theorem dX4_wrongAt_1 : decode cX4_wrongAt 1 = .ok (.getfield 22, 3) := by decide +kernel
theorem dX4_wrongAt_4 : decode cX4_wrongAt 4 = .ok (.ifCond .eq 10, 3) := by decide +kernel
theorem dX4_wrongAt_7 : decode cX4_wrongAt 7 = .ok (.aload_n 0, 1) := by decide +kernel
theorem dX4_wrongAt_8 : decode cX4_wrongAt 8 = .ok (.getfield 19, 3) := by decide +kernel
theorem dX4_wrongAt_11 : decode cX4_wrongAt 11 = .ok (.goto 4, 3) := by decide +kernel
theorem dX4_wrongAt_14 : decode cX4_wrongAt 14 = .ok (.iconst (-1), 1) := by decide +kernel
theorem dX4_wrongAt_15 : decode cX4_wrongAt 15 = .ok (.ireturn, 1) := by decide +kernel
theorem dX4_init_0 : decode cX4_init 0 = .ok (.aload_n 0, 1) := by decide +kernel
theorem dX4_init_1 : decode cX4_init 1 = .ok (.invokespecial 3, 3) := by decide +kernel
theorem dX4_init_4 : decode cX4_init 4 = .ok (.aload_n 0, 1) := by decide +kernel
theorem dX4_init_5 : decode cX4_init 5 = .ok (.iconst 0, 1) := by decide +kernel
theorem dX4_init_6 : decode cX4_init 6 = .ok (.newarray .int, 2) := by decide +kernel
theorem dX4_init_8 : decode cX4_init 8 = .ok (.putfield 9, 3) := by decide +kernel
theorem dX4_init_11 : decode cX4_init 11 = .ok (.aload_n 0, 1) := by decide +kernel
theorem dX4_init_12 : decode cX4_init 12 = .ok (.iconst 0, 1) := by decide +kernel
theorem dX4_init_13 : decode cX4_init 13 = .ok (.putfield 15, 3) := by decide +kernel
theorem dX4_init_16 : decode cX4_init 16 = .ok (.aload_n 0, 1) := by decide +kernel
theorem dX4_init_17 : decode cX4_init 17 = .ok (.iconst 0, 1) := by decide +kernel
theorem dX4_init_18 : decode cX4_init 18 = .ok (.putfield 19, 3) := by decide +kernel
theorem dX4_init_21 : decode cX4_init 21 = .ok (.aload_n 0, 1) := by decide +kernel
theorem dX4_init_22 : decode cX4_init 22 = .ok (.iconst 0, 1) := by decide +kernel
theorem dX4_init_23 : decode cX4_init 23 = .ok (.putfield 22, 3) := by decide +kernel
theorem dX4_init_26 : decode cX4_init 26 = .ok (.return_, 1) := by decide +kernel
