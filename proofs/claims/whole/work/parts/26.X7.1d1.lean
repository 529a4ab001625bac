theorem dX7_init_0 : decode cX7_init 0 = .ok (.aload_n 0, 1) := by decide +kernel
theorem dX7_init_1 : decode cX7_init 1 = .ok (.invokespecial 3, 3) := by decide +kernel
theorem dX7_init_4 : decode cX7_init 4 = .ok (.aload_n 0, 1) := by decide +kernel
theorem dX7_init_5 : decode cX7_init 5 = .ok (.bipush 9, 2) := by decide +kernel
theorem dX7_init_7 : decode cX7_init 7 = .ok (.anewarray 9, 3) := by decide +kernel
theorem dX7_init_10 : decode cX7_init 10 = .ok (.putfield 11, 3) := by decide +kernel
theorem dX7_init_13 : decode cX7_init 13 = .ok (.aload_n 0, 1) := by decide +kernel
theorem dX7_init_14 : decode cX7_init 14 = .ok (.iconst 0, 1) := by decide +kernel
theorem dX7_init_15 : decode cX7_init 15 = .ok (.newarray .int, 2) := by decide +kernel
theorem dX7_init_17 : decode cX7_init 17 = .ok (.putfield 17, 3) := by decide +kernel
theorem dX7_init_20 : decode cX7_init 20 = .ok (.aload_n 0, 1) := by decide +kernel
theorem dX7_init_21 : decode cX7_init 21 = .ok (.iconst 0, 1) := by decide +kernel
theorem dX7_init_22 : decode cX7_init 22 = .ok (.putfield 21, 3) := by decide +kernel
theorem dX7_init_25 : decode cX7_init 25 = .ok (.aload_n 0, 1) := by decide +kernel
theorem dX7_init_26 : decode cX7_init 26 = .ok (.iconst 0, 1) := by decide +kernel
theorem dX7_init_27 : decode cX7_init 27 = .ok (.putfield 25, 3) := by decide +kernel
theorem dX7_init_30 : decode cX7_init 30 = .ok (.iconst 0, 1) := by decide +kernel
theorem dX7_init_31 : decode cX7_init 31 = .ok (.istore_n 1, 1) := by decide +kernel
theorem dX7_init_32 : decode cX7_init 32 = .ok (.iload_n 1, 1) := by decide +kernel
theorem dX7_init_33 : decode cX7_init 33 = .ok (.bipush 8, 2) := by decide +kernel
theorem dX7_init_35 : decode cX7_init 35 = .ok (.if_icmp .gt 22, 3) := by decide +kernel
theorem dX7_init_38 : decode cX7_init 38 = .ok (.aload_n 0, 1) := by decide +kernel
theorem dX7_init_39 : decode cX7_init 39 = .ok (.getfield 11, 3) := by decide +kernel
theorem dX7_init_42 : decode cX7_init 42 = .ok (.iload_n 1, 1) := by decide +kernel
theorem dX7_init_43 : decode cX7_init 43 = .ok (.new 9, 3) := by decide +kernel
theorem dX7_init_46 : decode cX7_init 46 = .ok (.dup, 1) := by decide +kernel
theorem dX7_init_47 : decode cX7_init 47 = .ok (.invokespecial 28, 3) := by decide +kernel
theorem dX7_init_50 : decode cX7_init 50 = .ok (.aastore, 1) := by decide +kernel
theorem dX7_init_51 : decode cX7_init 51 = .ok (.iinc 1 1, 3) := by decide +kernel
theorem dX7_init_54 : decode cX7_init 54 = .ok (.goto (-22), 3) := by decide +kernel
theorem dX7_init_57 : decode cX7_init 57 = .ok (.return_, 1) := by decide +kernel
theorem dX7_branch_0 : decode cX7_branch 0 = .ok (.lload_n 3, 1) := by decide +kernel
theorem dX7_branch_1 : decode cX7_branch 1 = .ok (.lconst 0, 1) := by decide +kernel
theorem dX7_branch_2 : decode cX7_branch 2 = .ok (.lcmp, 1) := by decide +kernel
theorem dX7_branch_3 : decode cX7_branch 3 = .ok (.ifCond .gt 5, 3) := by decide +kernel
theorem dX7_branch_6 : decode cX7_branch 6 = .ok (.lconst 0, 1) := by decide +kernel
theorem dX7_branch_7 : decode cX7_branch 7 = .ok (.lreturn, 1) := by decide +kernel
theorem dX7_branch_8 : decode cX7_branch 8 = .ok (.aload_n 0, 1) := by decide +kernel
theorem dX7_branch_9 : decode cX7_branch 9 = .ok (.getfield 11, 3) := by decide +kernel
theorem dX7_branch_12 : decode cX7_branch 12 = .ok (.iload_n 1, 1) := by decide +kernel
theorem dX7_branch_13 : decode cX7_branch 13 = .ok (.iconst 1, 1) := by decide +kernel
theorem dX7_branch_14 : decode cX7_branch 14 = .ok (.iadd, 1) := by decide +kernel
theorem dX7_branch_15 : decode cX7_branch 15 = .ok (.aaload, 1) := by decide +kernel
theorem dX7_branch_16 : decode cX7_branch 16 = .ok (.astore 5, 2) := by decide +kernel
theorem dX7_branch_18 : decode cX7_branch 18 = .ok (.aload 5, 2) := by decide +kernel
theorem dX7_branch_20 : decode cX7_branch 20 = .ok (.aload_n 0, 1) := by decide +kernel
theorem dX7_branch_21 : decode cX7_branch 21 = .ok (.getfield 11, 3) := by decide +kernel
theorem dX7_branch_24 : decode cX7_branch 24 = .ok (.iload_n 1, 1) := by decide +kernel
theorem dX7_branch_25 : decode cX7_branch 25 = .ok (.aaload, 1) := by decide +kernel
theorem dX7_branch_26 : decode cX7_branch 26 = .ok (.invokevirtual 38, 3) := by decide +kernel
theorem dX7_branch_29 : decode cX7_branch 29 = .ok (.aload 5, 2) := by decide +kernel
theorem dX7_branch_31 : decode cX7_branch 31 = .ok (.iload_n 2, 1) := by decide +kernel
theorem dX7_branch_32 : decode cX7_branch 32 = .ok (.invokevirtual 65, 3) := by decide +kernel
theorem dX7_branch_35 : decode cX7_branch 35 = .ok (.ifCond .eq 9, 3) := by decide +kernel
theorem dX7_branch_38 : decode cX7_branch 38 = .ok (.aload 5, 2) := by decide +kernel
theorem dX7_branch_40 : decode cX7_branch 40 = .ok (.iload_n 2, 1) := by decide +kernel
theorem dX7_branch_41 : decode cX7_branch 41 = .ok (.invokevirtual 68, 3) := by decide +kernel
theorem dX7_branch_44 : decode cX7_branch 44 = .ok (.aload_n 0, 1) := by decide +kernel
theorem dX7_branch_45 : decode cX7_branch 45 = .ok (.iload_n 1, 1) := by decide +kernel
theorem dX7_branch_46 : decode cX7_branch 46 = .ok (.iconst 1, 1) := by decide +kernel
theorem dX7_branch_47 : decode cX7_branch 47 = .ok (.iadd, 1) := by decide +kernel
theorem dX7_branch_48 : decode cX7_branch 48 = .ok (.lload_n 3, 1) := by decide +kernel
theorem dX7_branch_49 : decode cX7_branch 49 = .ok (.invokevirtual 44, 3) := by decide +kernel
theorem dX7_branch_52 : decode cX7_branch 52 = .ok (.lreturn, 1) := by decide +kernel
theorem dX7_quiet_0 : decode cX7_quiet 0 = .ok (.aload_n 0, 1) := by decide +kernel
theorem dX7_quiet_1 : decode cX7_quiet 1 = .ok (.getfield 11, 3) := by decide +kernel
theorem dX7_quiet_4 : decode cX7_quiet 4 = .ok (.iload_n 1, 1) := by decide +kernel
theorem dX7_quiet_5 : decode cX7_quiet 5 = .ok (.aaload, 1) := by decide +kernel
theorem dX7_quiet_6 : decode cX7_quiet 6 = .ok (.astore 4, 2) := by decide +kernel
theorem dX7_quiet_8 : decode cX7_quiet 8 = .ok (.iload_n 1, 1) := by decide +kernel
theorem dX7_quiet_9 : decode cX7_quiet 9 = .ok (.aload_n 0, 1) := by decide +kernel
theorem dX7_quiet_10 : decode cX7_quiet 10 = .ok (.getfield 21, 3) := by decide +kernel
theorem dX7_quiet_13 : decode cX7_quiet 13 = .ok (.if_icmp .lt 18, 3) := by decide +kernel
theorem dX7_quiet_16 : decode cX7_quiet 16 = .ok (.aload 4, 2) := by decide +kernel
theorem dX7_quiet_18 : decode cX7_quiet 18 = .ok (.invokevirtual 48, 3) := by decide +kernel
theorem dX7_quiet_21 : decode cX7_quiet 21 = .ok (.iconst (-1), 1) := by decide +kernel
theorem dX7_quiet_22 : decode cX7_quiet 22 = .ok (.if_icmp .ne 7, 3) := by decide +kernel
theorem dX7_quiet_25 : decode cX7_quiet 25 = .ok (.lconst 0, 1) := by decide +kernel
theorem dX7_quiet_26 : decode cX7_quiet 26 = .ok (.goto 4, 3) := by decide +kernel
theorem dX7_quiet_29 : decode cX7_quiet 29 = .ok (.lload_n 2, 1) := by decide +kernel
theorem dX7_quiet_30 : decode cX7_quiet 30 = .ok (.lreturn, 1) := by decide +kernel
theorem dX7_quiet_31 : decode cX7_quiet 31 = .ok (.aload_n 0, 1) := by decide +kernel
theorem dX7_quiet_32 : decode cX7_quiet 32 = .ok (.getfield 17, 3) := by decide +kernel
theorem dX7_quiet_35 : decode cX7_quiet 35 = .ok (.iload_n 1, 1) := by decide +kernel
theorem dX7_quiet_36 : decode cX7_quiet 36 = .ok (.iaload, 1) := by decide +kernel
theorem dX7_quiet_37 : decode cX7_quiet 37 = .ok (.istore 5, 2) := by decide +kernel
theorem dX7_quiet_39 : decode cX7_quiet 39 = .ok (.lload_n 2, 1) := by decide +kernel
theorem dX7_quiet_40 : decode cX7_quiet 40 = .ok (.aload_n 0, 1) := by decide +kernel
theorem dX7_quiet_41 : decode cX7_quiet 41 = .ok (.getfield 25, 3) := by decide +kernel
theorem dX7_quiet_44 : decode cX7_quiet 44 = .ok (.i2l, 1) := by decide +kernel
theorem dX7_quiet_45 : decode cX7_quiet 45 = .ok (.lmul, 1) := by decide +kernel
theorem dX7_quiet_46 : decode cX7_quiet 46 = .ok (.ldc2_w 52, 3) := by decide +kernel
theorem dX7_quiet_49 : decode cX7_quiet 49 = .ok (.ldiv, 1) := by decide +kernel
theorem dX7_quiet_50 : decode cX7_quiet 50 = .ok (.lstore 6, 2) := by decide +kernel
theorem dX7_quiet_52 : decode cX7_quiet 52 = .ok (.iload 5, 2) := by decide +kernel
theorem dX7_quiet_54 : decode cX7_quiet 54 = .ok (.iconst 1, 1) := by decide +kernel
theorem dX7_quiet_55 : decode cX7_quiet 55 = .ok (.iadd, 1) := by decide +kernel
theorem dX7_quiet_56 : decode cX7_quiet 56 = .ok (.aload 4, 2) := by decide +kernel
theorem dX7_quiet_58 : decode cX7_quiet 58 = .ok (.getfield 54, 3) := by decide +kernel
theorem dX7_quiet_61 : decode cX7_quiet 61 = .ok (.if_icmp .ne 7, 3) := by decide +kernel
theorem dX7_quiet_64 : decode cX7_quiet 64 = .ok (.iconst 0, 1) := by decide +kernel
theorem dX7_quiet_65 : decode cX7_quiet 65 = .ok (.goto 7, 3) := by decide +kernel
theorem dX7_quiet_68 : decode cX7_quiet 68 = .ok (.iload 5, 2) := by decide +kernel
theorem dX7_quiet_70 : decode cX7_quiet 70 = .ok (.iconst 1, 1) := by decide +kernel
theorem dX7_quiet_71 : decode cX7_quiet 71 = .ok (.iadd, 1) := by decide +kernel
theorem dX7_quiet_72 : decode cX7_quiet 72 = .ok (.istore 8, 2) := by decide +kernel
theorem dX7_quiet_74 : decode cX7_quiet 74 = .ok (.aload_n 0, 1) := by decide +kernel
theorem dX7_quiet_75 : decode cX7_quiet 75 = .ok (.iload_n 1, 1) := by decide +kernel
theorem dX7_quiet_76 : decode cX7_quiet 76 = .ok (.iload 5, 2) := by decide +kernel
theorem dX7_quiet_78 : decode cX7_quiet 78 = .ok (.lload_n 2, 1) := by decide +kernel
theorem dX7_quiet_79 : decode cX7_quiet 79 = .ok (.lload 6, 2) := by decide +kernel
theorem dX7_quiet_81 : decode cX7_quiet 81 = .ok (.lsub, 1) := by decide +kernel
theorem dX7_quiet_82 : decode cX7_quiet 82 = .ok (.invokevirtual 57, 3) := by decide +kernel
theorem dX7_quiet_85 : decode cX7_quiet 85 = .ok (.lstore 9, 2) := by decide +kernel
theorem dX7_quiet_87 : decode cX7_quiet 87 = .ok (.lload 9, 2) := by decide +kernel
theorem dX7_quiet_89 : decode cX7_quiet 89 = .ok (.aload_n 0, 1) := by decide +kernel
theorem dX7_quiet_90 : decode cX7_quiet 90 = .ok (.iload_n 1, 1) := by decide +kernel
theorem dX7_quiet_91 : decode cX7_quiet 91 = .ok (.aload 4, 2) := by decide +kernel
theorem dX7_quiet_93 : decode cX7_quiet 93 = .ok (.iload 5, 2) := by decide +kernel
theorem dX7_quiet_95 : decode cX7_quiet 95 = .ok (.invokevirtual 61, 3) := by decide +kernel
theorem dX7_quiet_98 : decode cX7_quiet 98 = .ok (.ifCond .eq 8, 3) := by decide +kernel
theorem dX7_quiet_101 : decode cX7_quiet 101 = .ok (.iload 8, 2) := by decide +kernel
theorem dX7_quiet_103 : decode cX7_quiet 103 = .ok (.goto 4, 3) := by decide +kernel
theorem dX7_quiet_106 : decode cX7_quiet 106 = .ok (.iconst (-1), 1) := by decide +kernel
theorem dX7_quiet_107 : decode cX7_quiet 107 = .ok (.lload 6, 2) := by decide +kernel
theorem dX7_quiet_109 : decode cX7_quiet 109 = .ok (.invokevirtual 57, 3) := by decide +kernel
theorem dX7_quiet_112 : decode cX7_quiet 112 = .ok (.ladd, 1) := by decide +kernel
theorem dX7_quiet_113 : decode cX7_quiet 113 = .ok (.lreturn, 1) := by decide +kernel
theorem dX7_quietParts_0 : decode cX7_quietParts 0 = .ok (.aload_n 0, 1) := by decide +kernel
theorem dX7_quietParts_1 : decode cX7_quietParts 1 = .ok (.aload_n 2, 1) := by decide +kernel
theorem dX7_quietParts_2 : decode cX7_quietParts 2 = .ok (.putfield 17, 3) := by decide +kernel
theorem dX7_quietParts_5 : decode cX7_quietParts 5 = .ok (.aload_n 0, 1) := by decide +kernel
theorem dX7_quietParts_6 : decode cX7_quietParts 6 = .ok (.iconst 0, 1) := by decide +kernel
theorem dX7_quietParts_7 : decode cX7_quietParts 7 = .ok (.iload_n 3, 1) := by decide +kernel
theorem dX7_quietParts_8 : decode cX7_quietParts 8 = .ok (.bipush 8, 2) := by decide +kernel
theorem dX7_quietParts_10 : decode cX7_quietParts 10 = .ok (.invokestatic 29, 3) := by decide +kernel
theorem dX7_quietParts_13 : decode cX7_quietParts 13 = .ok (.aload_n 2, 1) := by decide +kernel
theorem dX7_quietParts_14 : decode cX7_quietParts 14 = .ok (.arraylength, 1) := by decide +kernel
theorem dX7_quietParts_15 : decode cX7_quietParts 15 = .ok (.invokestatic 29, 3) := by decide +kernel
theorem dX7_quietParts_18 : decode cX7_quietParts 18 = .ok (.invokestatic 35, 3) := by decide +kernel
theorem dX7_quietParts_21 : decode cX7_quietParts 21 = .ok (.putfield 21, 3) := by decide +kernel
theorem dX7_quietParts_24 : decode cX7_quietParts 24 = .ok (.aload_n 0, 1) := by decide +kernel
theorem dX7_quietParts_25 : decode cX7_quietParts 25 = .ok (.iload 4, 2) := by decide +kernel
theorem dX7_quietParts_27 : decode cX7_quietParts 27 = .ok (.putfield 25, 3) := by decide +kernel
theorem dX7_quietParts_30 : decode cX7_quietParts 30 = .ok (.aload_n 0, 1) := by decide +kernel
theorem dX7_quietParts_31 : decode cX7_quietParts 31 = .ok (.getfield 11, 3) := by decide +kernel
theorem dX7_quietParts_34 : decode cX7_quietParts 34 = .ok (.iconst 0, 1) := by decide +kernel
theorem dX7_quietParts_35 : decode cX7_quietParts 35 = .ok (.aaload, 1) := by decide +kernel
theorem dX7_quietParts_36 : decode cX7_quietParts 36 = .ok (.aload_n 1, 1) := by decide +kernel
theorem dX7_quietParts_37 : decode cX7_quietParts 37 = .ok (.invokevirtual 38, 3) := by decide +kernel
theorem dX7_quietParts_40 : decode cX7_quietParts 40 = .ok (.aload_n 0, 1) := by decide +kernel
theorem dX7_quietParts_41 : decode cX7_quietParts 41 = .ok (.iconst 0, 1) := by decide +kernel
theorem dX7_quietParts_42 : decode cX7_quietParts 42 = .ok (.ldc2_w 42, 3) := by decide +kernel
theorem dX7_quietParts_45 : decode cX7_quietParts 45 = .ok (.invokevirtual 44, 3) := by decide +kernel
theorem dX7_quietParts_48 : decode cX7_quietParts 48 = .ok (.l2i, 1) := by decide +kernel
theorem dX7_quietParts_49 : decode cX7_quietParts 49 = .ok (.ireturn, 1) := by decide +kernel
