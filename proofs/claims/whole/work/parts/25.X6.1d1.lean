theorem dX6_agree_0 : decode cX6_agree 0 = .ok (.iconst 0, 1) := by decide +kernel
theorem dX6_agree_1 : decode cX6_agree 1 = .ok (.istore 4, 2) := by decide +kernel
theorem dX6_agree_3 : decode cX6_agree 3 = .ok (.iload 4, 2) := by decide +kernel
theorem dX6_agree_5 : decode cX6_agree 5 = .ok (.aload_n 0, 1) := by decide +kernel
theorem dX6_agree_6 : decode cX6_agree 6 = .ok (.getfield 33, 3) := by decide +kernel
theorem dX6_agree_9 : decode cX6_agree 9 = .ok (.if_icmp .ge 73, 3) := by decide +kernel
theorem dX6_agree_12 : decode cX6_agree 12 = .ok (.aload_n 0, 1) := by decide +kernel
theorem dX6_agree_13 : decode cX6_agree 13 = .ok (.getfield 18, 3) := by decide +kernel
theorem dX6_agree_16 : decode cX6_agree 16 = .ok (.iload 4, 2) := by decide +kernel
theorem dX6_agree_18 : decode cX6_agree 18 = .ok (.iaload, 1) := by decide +kernel
theorem dX6_agree_19 : decode cX6_agree 19 = .ok (.iload_n 1, 1) := by decide +kernel
theorem dX6_agree_20 : decode cX6_agree 20 = .ok (.if_icmp .ne 56, 3) := by decide +kernel
theorem dX6_agree_23 : decode cX6_agree 23 = .ok (.iload_n 2, 1) := by decide +kernel
theorem dX6_agree_24 : decode cX6_agree 24 = .ok (.ifCond .eq 35, 3) := by decide +kernel
theorem dX6_agree_27 : decode cX6_agree 27 = .ok (.aload_n 3, 1) := by decide +kernel
theorem dX6_agree_28 : decode cX6_agree 28 = .ok (.aload_n 0, 1) := by decide +kernel
theorem dX6_agree_29 : decode cX6_agree 29 = .ok (.getfield 9, 3) := by decide +kernel
theorem dX6_agree_32 : decode cX6_agree 32 = .ok (.iload 4, 2) := by decide +kernel
theorem dX6_agree_34 : decode cX6_agree 34 = .ok (.iaload, 1) := by decide +kernel
theorem dX6_agree_35 : decode cX6_agree 35 = .ok (.aload_n 0, 1) := by decide +kernel
theorem dX6_agree_36 : decode cX6_agree 36 = .ok (.getfield 15, 3) := by decide +kernel
theorem dX6_agree_39 : decode cX6_agree 39 = .ok (.iload 4, 2) := by decide +kernel
theorem dX6_agree_41 : decode cX6_agree 41 = .ok (.iaload, 1) := by decide +kernel
theorem dX6_agree_42 : decode cX6_agree 42 = .ok (.invokevirtual 37, 3) := by decide +kernel
theorem dX6_agree_45 : decode cX6_agree 45 = .ok (.aload_n 0, 1) := by decide +kernel
theorem dX6_agree_46 : decode cX6_agree 46 = .ok (.getfield 21, 3) := by decide +kernel
theorem dX6_agree_49 : decode cX6_agree 49 = .ok (.iload 4, 2) := by decide +kernel
theorem dX6_agree_51 : decode cX6_agree 51 = .ok (.iaload, 1) := by decide +kernel
theorem dX6_agree_52 : decode cX6_agree 52 = .ok (.if_icmp .ne 7, 3) := by decide +kernel
theorem dX6_agree_55 : decode cX6_agree 55 = .ok (.iconst 1, 1) := by decide +kernel
theorem dX6_agree_56 : decode cX6_agree 56 = .ok (.goto 4, 3) := by decide +kernel
theorem dX6_agree_59 : decode cX6_agree 59 = .ok (.iconst 0, 1) := by decide +kernel
theorem dX6_agree_60 : decode cX6_agree 60 = .ok (.istore 5, 2) := by decide +kernel
theorem dX6_agree_62 : decode cX6_agree 62 = .ok (.iload 5, 2) := by decide +kernel
theorem dX6_agree_64 : decode cX6_agree 64 = .ok (.aload_n 0, 1) := by decide +kernel
theorem dX6_agree_65 : decode cX6_agree 65 = .ok (.getfield 24, 3) := by decide +kernel
theorem dX6_agree_68 : decode cX6_agree 68 = .ok (.iload 4, 2) := by decide +kernel
theorem dX6_agree_70 : decode cX6_agree 70 = .ok (.baload, 1) := by decide +kernel
theorem dX6_agree_71 : decode cX6_agree 71 = .ok (.if_icmp .eq 5, 3) := by decide +kernel
theorem dX6_agree_74 : decode cX6_agree 74 = .ok (.iconst 0, 1) := by decide +kernel
theorem dX6_agree_75 : decode cX6_agree 75 = .ok (.ireturn, 1) := by decide +kernel
theorem dX6_agree_76 : decode cX6_agree 76 = .ok (.iinc 4 1, 3) := by decide +kernel
theorem dX6_agree_79 : decode cX6_agree 79 = .ok (.goto (-76), 3) := by decide +kernel
theorem dX6_agree_82 : decode cX6_agree 82 = .ok (.iconst 1, 1) := by decide +kernel
theorem dX6_agree_83 : decode cX6_agree 83 = .ok (.ireturn, 1) := by decide +kernel
theorem dX6_mostAlike_0 : decode cX6_mostAlike 0 = .ok (.iconst 0, 1) := by decide +kernel
theorem dX6_mostAlike_1 : decode cX6_mostAlike 1 = .ok (.istore_n 3, 1) := by decide +kernel
theorem dX6_mostAlike_2 : decode cX6_mostAlike 2 = .ok (.iconst 0, 1) := by decide +kernel
theorem dX6_mostAlike_3 : decode cX6_mostAlike 3 = .ok (.istore 4, 2) := by decide +kernel
theorem dX6_mostAlike_5 : decode cX6_mostAlike 5 = .ok (.iload 4, 2) := by decide +kernel
theorem dX6_mostAlike_7 : decode cX6_mostAlike 7 = .ok (.iconst 4, 1) := by decide +kernel
theorem dX6_mostAlike_8 : decode cX6_mostAlike 8 = .ok (.if_icmp .ge 78, 3) := by decide +kernel
theorem dX6_mostAlike_11 : decode cX6_mostAlike 11 = .ok (.iconst 0, 1) := by decide +kernel
theorem dX6_mostAlike_12 : decode cX6_mostAlike 12 = .ok (.istore 5, 2) := by decide +kernel
theorem dX6_mostAlike_14 : decode cX6_mostAlike 14 = .ok (.iconst 0, 1) := by decide +kernel
theorem dX6_mostAlike_15 : decode cX6_mostAlike 15 = .ok (.istore 6, 2) := by decide +kernel
theorem dX6_mostAlike_17 : decode cX6_mostAlike 17 = .ok (.iload 6, 2) := by decide +kernel
theorem dX6_mostAlike_19 : decode cX6_mostAlike 19 = .ok (.iconst 4, 1) := by decide +kernel
theorem dX6_mostAlike_20 : decode cX6_mostAlike 20 = .ok (.if_icmp .ge 43, 3) := by decide +kernel
theorem dX6_mostAlike_23 : decode cX6_mostAlike 23 = .ok (.iload_n 1, 1) := by decide +kernel
theorem dX6_mostAlike_24 : decode cX6_mostAlike 24 = .ok (.iload 6, 2) := by decide +kernel
theorem dX6_mostAlike_26 : decode cX6_mostAlike 26 = .ok (.ishr, 1) := by decide +kernel
theorem dX6_mostAlike_27 : decode cX6_mostAlike 27 = .ok (.iconst 1, 1) := by decide +kernel
theorem dX6_mostAlike_28 : decode cX6_mostAlike 28 = .ok (.iand, 1) := by decide +kernel
theorem dX6_mostAlike_29 : decode cX6_mostAlike 29 = .ok (.iconst 1, 1) := by decide +kernel
theorem dX6_mostAlike_30 : decode cX6_mostAlike 30 = .ok (.if_icmp .ne 27, 3) := by decide +kernel
theorem dX6_mostAlike_33 : decode cX6_mostAlike 33 = .ok (.aload_n 0, 1) := by decide +kernel
theorem dX6_mostAlike_34 : decode cX6_mostAlike 34 = .ok (.getfield 30, 3) := by decide +kernel
theorem dX6_mostAlike_37 : decode cX6_mostAlike 37 = .ok (.iload 6, 2) := by decide +kernel
theorem dX6_mostAlike_39 : decode cX6_mostAlike 39 = .ok (.aaload, 1) := by decide +kernel
theorem dX6_mostAlike_40 : decode cX6_mostAlike 40 = .ok (.iload_n 2, 1) := by decide +kernel
theorem dX6_mostAlike_41 : decode cX6_mostAlike 41 = .ok (.iaload, 1) := by decide +kernel
theorem dX6_mostAlike_42 : decode cX6_mostAlike 42 = .ok (.aload_n 0, 1) := by decide +kernel
theorem dX6_mostAlike_43 : decode cX6_mostAlike 43 = .ok (.getfield 30, 3) := by decide +kernel
theorem dX6_mostAlike_46 : decode cX6_mostAlike 46 = .ok (.iload 4, 2) := by decide +kernel
theorem dX6_mostAlike_48 : decode cX6_mostAlike 48 = .ok (.aaload, 1) := by decide +kernel
theorem dX6_mostAlike_49 : decode cX6_mostAlike 49 = .ok (.iload_n 2, 1) := by decide +kernel
theorem dX6_mostAlike_50 : decode cX6_mostAlike 50 = .ok (.iaload, 1) := by decide +kernel
theorem dX6_mostAlike_51 : decode cX6_mostAlike 51 = .ok (.if_icmp .ne 6, 3) := by decide +kernel
theorem dX6_mostAlike_54 : decode cX6_mostAlike 54 = .ok (.iinc 5 1, 3) := by decide +kernel
theorem dX6_mostAlike_57 : decode cX6_mostAlike 57 = .ok (.iinc 6 1, 3) := by decide +kernel
theorem dX6_mostAlike_60 : decode cX6_mostAlike 60 = .ok (.goto (-43), 3) := by decide +kernel
theorem dX6_mostAlike_63 : decode cX6_mostAlike 63 = .ok (.iload_n 1, 1) := by decide +kernel
theorem dX6_mostAlike_64 : decode cX6_mostAlike 64 = .ok (.iload 4, 2) := by decide +kernel
theorem dX6_mostAlike_66 : decode cX6_mostAlike 66 = .ok (.ishr, 1) := by decide +kernel
theorem dX6_mostAlike_67 : decode cX6_mostAlike 67 = .ok (.iconst 1, 1) := by decide +kernel
theorem dX6_mostAlike_68 : decode cX6_mostAlike 68 = .ok (.iand, 1) := by decide +kernel
theorem dX6_mostAlike_69 : decode cX6_mostAlike 69 = .ok (.iconst 1, 1) := by decide +kernel
theorem dX6_mostAlike_70 : decode cX6_mostAlike 70 = .ok (.if_icmp .ne 10, 3) := by decide +kernel
theorem dX6_mostAlike_73 : decode cX6_mostAlike 73 = .ok (.iload_n 3, 1) := by decide +kernel
theorem dX6_mostAlike_74 : decode cX6_mostAlike 74 = .ok (.iload 5, 2) := by decide +kernel
theorem dX6_mostAlike_76 : decode cX6_mostAlike 76 = .ok (.invokestatic 43, 3) := by decide +kernel
theorem dX6_mostAlike_79 : decode cX6_mostAlike 79 = .ok (.istore_n 3, 1) := by decide +kernel
theorem dX6_mostAlike_80 : decode cX6_mostAlike 80 = .ok (.iinc 4 1, 3) := by decide +kernel
theorem dX6_mostAlike_83 : decode cX6_mostAlike 83 = .ok (.goto (-78), 3) := by decide +kernel
theorem dX6_mostAlike_86 : decode cX6_mostAlike 86 = .ok (.iload_n 3, 1) := by decide +kernel
theorem dX6_mostAlike_87 : decode cX6_mostAlike 87 = .ok (.ireturn, 1) := by decide +kernel
theorem dX6_init_0 : decode cX6_init 0 = .ok (.aload_n 0, 1) := by decide +kernel
theorem dX6_init_1 : decode cX6_init 1 = .ok (.invokespecial 3, 3) := by decide +kernel
theorem dX6_init_4 : decode cX6_init 4 = .ok (.aload_n 0, 1) := by decide +kernel
theorem dX6_init_5 : decode cX6_init 5 = .ok (.bipush 10, 2) := by decide +kernel
theorem dX6_init_7 : decode cX6_init 7 = .ok (.newarray .int, 2) := by decide +kernel
theorem dX6_init_9 : decode cX6_init 9 = .ok (.putfield 9, 3) := by decide +kernel
theorem dX6_init_12 : decode cX6_init 12 = .ok (.aload_n 0, 1) := by decide +kernel
theorem dX6_init_13 : decode cX6_init 13 = .ok (.bipush 10, 2) := by decide +kernel
theorem dX6_init_15 : decode cX6_init 15 = .ok (.newarray .int, 2) := by decide +kernel
theorem dX6_init_17 : decode cX6_init 17 = .ok (.putfield 15, 3) := by decide +kernel
theorem dX6_init_20 : decode cX6_init 20 = .ok (.aload_n 0, 1) := by decide +kernel
theorem dX6_init_21 : decode cX6_init 21 = .ok (.bipush 10, 2) := by decide +kernel
theorem dX6_init_23 : decode cX6_init 23 = .ok (.newarray .int, 2) := by decide +kernel
theorem dX6_init_25 : decode cX6_init 25 = .ok (.putfield 18, 3) := by decide +kernel
theorem dX6_init_28 : decode cX6_init 28 = .ok (.aload_n 0, 1) := by decide +kernel
theorem dX6_init_29 : decode cX6_init 29 = .ok (.bipush 10, 2) := by decide +kernel
theorem dX6_init_31 : decode cX6_init 31 = .ok (.newarray .int, 2) := by decide +kernel
theorem dX6_init_33 : decode cX6_init 33 = .ok (.putfield 21, 3) := by decide +kernel
theorem dX6_init_36 : decode cX6_init 36 = .ok (.aload_n 0, 1) := by decide +kernel
theorem dX6_init_37 : decode cX6_init 37 = .ok (.bipush 10, 2) := by decide +kernel
theorem dX6_init_39 : decode cX6_init 39 = .ok (.newarray .boolean, 2) := by decide +kernel
theorem dX6_init_41 : decode cX6_init 41 = .ok (.putfield 24, 3) := by decide +kernel
theorem dX6_init_44 : decode cX6_init 44 = .ok (.aload_n 0, 1) := by decide +kernel
theorem dX6_init_45 : decode cX6_init 45 = .ok (.iconst 4, 1) := by decide +kernel
theorem dX6_init_46 : decode cX6_init 46 = .ok (.bipush 10, 2) := by decide +kernel
theorem dX6_init_48 : decode cX6_init 48 = .ok (.multianewarray 28 2, 4) := by decide +kernel
theorem dX6_init_52 : decode cX6_init 52 = .ok (.putfield 30, 3) := by decide +kernel
theorem dX6_init_55 : decode cX6_init 55 = .ok (.aload_n 0, 1) := by decide +kernel
theorem dX6_init_56 : decode cX6_init 56 = .ok (.iconst 0, 1) := by decide +kernel
theorem dX6_init_57 : decode cX6_init 57 = .ok (.putfield 33, 3) := by decide +kernel
theorem dX6_init_60 : decode cX6_init 60 = .ok (.return_, 1) := by decide +kernel
theorem dX6_put_0 : decode cX6_put 0 = .ok (.aload_n 0, 1) := by decide +kernel
theorem dX6_put_1 : decode cX6_put 1 = .ok (.getfield 33, 3) := by decide +kernel
theorem dX6_put_4 : decode cX6_put 4 = .ok (.ifCond .lt 12, 3) := by decide +kernel
theorem dX6_put_7 : decode cX6_put 7 = .ok (.aload_n 0, 1) := by decide +kernel
theorem dX6_put_8 : decode cX6_put 8 = .ok (.getfield 33, 3) := by decide +kernel
theorem dX6_put_11 : decode cX6_put 11 = .ok (.bipush 10, 2) := by decide +kernel
theorem dX6_put_13 : decode cX6_put 13 = .ok (.if_icmp .lt 4, 3) := by decide +kernel
theorem dX6_put_16 : decode cX6_put 16 = .ok (.return_, 1) := by decide +kernel
theorem dX6_put_17 : decode cX6_put 17 = .ok (.aload_n 0, 1) := by decide +kernel
theorem dX6_put_18 : decode cX6_put 18 = .ok (.getfield 9, 3) := by decide +kernel
theorem dX6_put_21 : decode cX6_put 21 = .ok (.aload_n 0, 1) := by decide +kernel
theorem dX6_put_22 : decode cX6_put 22 = .ok (.getfield 33, 3) := by decide +kernel
theorem dX6_put_25 : decode cX6_put 25 = .ok (.iload_n 1, 1) := by decide +kernel
theorem dX6_put_26 : decode cX6_put 26 = .ok (.iastore, 1) := by decide +kernel
theorem dX6_put_27 : decode cX6_put 27 = .ok (.aload_n 0, 1) := by decide +kernel
theorem dX6_put_28 : decode cX6_put 28 = .ok (.getfield 15, 3) := by decide +kernel
theorem dX6_put_31 : decode cX6_put 31 = .ok (.aload_n 0, 1) := by decide +kernel
theorem dX6_put_32 : decode cX6_put 32 = .ok (.getfield 33, 3) := by decide +kernel
theorem dX6_put_35 : decode cX6_put 35 = .ok (.iload_n 2, 1) := by decide +kernel
theorem dX6_put_36 : decode cX6_put 36 = .ok (.iastore, 1) := by decide +kernel
theorem dX6_put_37 : decode cX6_put 37 = .ok (.aload_n 0, 1) := by decide +kernel
theorem dX6_put_38 : decode cX6_put 38 = .ok (.getfield 18, 3) := by decide +kernel
theorem dX6_put_41 : decode cX6_put 41 = .ok (.aload_n 0, 1) := by decide +kernel
theorem dX6_put_42 : decode cX6_put 42 = .ok (.getfield 33, 3) := by decide +kernel
theorem dX6_put_45 : decode cX6_put 45 = .ok (.iload_n 3, 1) := by decide +kernel
theorem dX6_put_46 : decode cX6_put 46 = .ok (.iastore, 1) := by decide +kernel
theorem dX6_put_47 : decode cX6_put 47 = .ok (.aload_n 0, 1) := by decide +kernel
theorem dX6_put_48 : decode cX6_put 48 = .ok (.getfield 21, 3) := by decide +kernel
theorem dX6_put_51 : decode cX6_put 51 = .ok (.aload_n 0, 1) := by decide +kernel
theorem dX6_put_52 : decode cX6_put 52 = .ok (.getfield 33, 3) := by decide +kernel
theorem dX6_put_55 : decode cX6_put 55 = .ok (.iload 4, 2) := by decide +kernel
theorem dX6_put_57 : decode cX6_put 57 = .ok (.iastore, 1) := by decide +kernel
theorem dX6_put_58 : decode cX6_put 58 = .ok (.aload_n 0, 1) := by decide +kernel
theorem dX6_put_59 : decode cX6_put 59 = .ok (.getfield 24, 3) := by decide +kernel
theorem dX6_put_62 : decode cX6_put 62 = .ok (.aload_n 0, 1) := by decide +kernel
theorem dX6_put_63 : decode cX6_put 63 = .ok (.getfield 33, 3) := by decide +kernel
theorem dX6_put_66 : decode cX6_put 66 = .ok (.iload 5, 2) := by decide +kernel
theorem dX6_put_68 : decode cX6_put 68 = .ok (.bastore, 1) := by decide +kernel
theorem dX6_put_69 : decode cX6_put 69 = .ok (.aload_n 0, 1) := by decide +kernel
theorem dX6_put_70 : decode cX6_put 70 = .ok (.dup, 1) := by decide +kernel
theorem dX6_put_71 : decode cX6_put 71 = .ok (.getfield 33, 3) := by decide +kernel
theorem dX6_put_74 : decode cX6_put 74 = .ok (.iconst 1, 1) := by decide +kernel
theorem dX6_put_75 : decode cX6_put 75 = .ok (.iadd, 1) := by decide +kernel
theorem dX6_put_76 : decode cX6_put 76 = .ok (.putfield 33, 3) := by decide +kernel
theorem dX6_put_79 : decode cX6_put 79 = .ok (.return_, 1) := by decide +kernel
