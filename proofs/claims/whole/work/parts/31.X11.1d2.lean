theorem dX11_hurdleOf_70 : decode cX11_hurdleOf 70 = .ok (.ireturn, 1) := by decide +kernel
theorem dX11_refuse_0 : decode cX11_refuse 0 = .ok (.iload_n 1, 1) := by decide +kernel
theorem dX11_refuse_1 : decode cX11_refuse 1 = .ok (.ifCond .lt 19, 3) := by decide +kernel
theorem dX11_refuse_4 : decode cX11_refuse 4 = .ok (.iload_n 1, 1) := by decide +kernel
theorem dX11_refuse_5 : decode cX11_refuse 5 = .ok (.bipush 6, 2) := by decide +kernel
theorem dX11_refuse_7 : decode cX11_refuse 7 = .ok (.if_icmp .ge 13, 3) := by decide +kernel
theorem dX11_refuse_10 : decode cX11_refuse 10 = .ok (.aload_n 0, 1) := by decide +kernel
theorem dX11_refuse_11 : decode cX11_refuse 11 = .ok (.getfield 94, 3) := by decide +kernel
theorem dX11_refuse_14 : decode cX11_refuse 14 = .ok (.iload_n 1, 1) := by decide +kernel
theorem dX11_refuse_15 : decode cX11_refuse 15 = .ok (.dup2, 1) := by decide +kernel
theorem dX11_refuse_16 : decode cX11_refuse 16 = .ok (.iaload, 1) := by decide +kernel
theorem dX11_refuse_17 : decode cX11_refuse 17 = .ok (.iconst 1, 1) := by decide +kernel
theorem dX11_refuse_18 : decode cX11_refuse 18 = .ok (.iadd, 1) := by decide +kernel
theorem dX11_refuse_19 : decode cX11_refuse 19 = .ok (.iastore, 1) := by decide +kernel
theorem dX11_refuse_20 : decode cX11_refuse 20 = .ok (.iload_n 2, 1) := by decide +kernel
theorem dX11_refuse_21 : decode cX11_refuse 21 = .ok (.ireturn, 1) := by decide +kernel
theorem dX11_cross_0 : decode cX11_cross 0 = .ok (.aload_n 0, 1) := by decide +kernel
theorem dX11_cross_1 : decode cX11_cross 1 = .ok (.iload_n 1, 1) := by decide +kernel
theorem dX11_cross_2 : decode cX11_cross 2 = .ok (.invokevirtual 186, 3) := by decide +kernel
theorem dX11_cross_5 : decode cX11_cross 5 = .ok (.istore_n 2, 1) := by decide +kernel
theorem dX11_cross_6 : decode cX11_cross 6 = .ok (.aload_n 0, 1) := by decide +kernel
theorem dX11_cross_7 : decode cX11_cross 7 = .ok (.iload_n 1, 1) := by decide +kernel
theorem dX11_cross_8 : decode cX11_cross 8 = .ok (.iload_n 2, 1) := by decide +kernel
theorem dX11_cross_9 : decode cX11_cross 9 = .ok (.invokevirtual 222, 3) := by decide +kernel
theorem dX11_cross_12 : decode cX11_cross 12 = .ok (.istore_n 3, 1) := by decide +kernel
theorem dX11_cross_13 : decode cX11_cross 13 = .ok (.iload_n 3, 1) := by decide +kernel
theorem dX11_cross_14 : decode cX11_cross 14 = .ok (.iconst (-1), 1) := by decide +kernel
theorem dX11_cross_15 : decode cX11_cross 15 = .ok (.if_icmp .eq 10, 3) := by decide +kernel
theorem dX11_cross_18 : decode cX11_cross 18 = .ok (.aload_n 0, 1) := by decide +kernel
theorem dX11_cross_19 : decode cX11_cross 19 = .ok (.iload_n 3, 1) := by decide +kernel
theorem dX11_cross_20 : decode cX11_cross 20 = .ok (.iconst (-1), 1) := by decide +kernel
theorem dX11_cross_21 : decode cX11_cross 21 = .ok (.invokevirtual 225, 3) := by decide +kernel
theorem dX11_cross_24 : decode cX11_cross 24 = .ok (.ireturn, 1) := by decide +kernel
theorem dX11_cross_25 : decode cX11_cross 25 = .ok (.aload_n 0, 1) := by decide +kernel
theorem dX11_cross_26 : decode cX11_cross 26 = .ok (.iload_n 1, 1) := by decide +kernel
theorem dX11_cross_27 : decode cX11_cross 27 = .ok (.iload_n 2, 1) := by decide +kernel
theorem dX11_cross_28 : decode cX11_cross 28 = .ok (.invokevirtual 228, 3) := by decide +kernel
theorem dX11_cross_31 : decode cX11_cross 31 = .ok (.aload_n 0, 1) := by decide +kernel
theorem dX11_cross_32 : decode cX11_cross 32 = .ok (.getfield 49, 3) := by decide +kernel
theorem dX11_cross_35 : decode cX11_cross 35 = .ok (.getfield 168, 3) := by decide +kernel
theorem dX11_cross_38 : decode cX11_cross 38 = .ok (.iload_n 1, 1) := by decide +kernel
theorem dX11_cross_39 : decode cX11_cross 39 = .ok (.iaload, 1) := by decide +kernel
theorem dX11_cross_40 : decode cX11_cross 40 = .ok (.ireturn, 1) := by decide +kernel
theorem dX11_drawn_0 : decode cX11_drawn 0 = .ok (.iload_n 2, 1) := by decide +kernel
theorem dX11_drawn_1 : decode cX11_drawn 1 = .ok (.ifCond .le 14, 3) := by decide +kernel
theorem dX11_drawn_4 : decode cX11_drawn 4 = .ok (.lload_n 0, 1) := by decide +kernel
theorem dX11_drawn_5 : decode cX11_drawn 5 = .ok (.bipush 33, 2) := by decide +kernel
theorem dX11_drawn_7 : decode cX11_drawn 7 = .ok (.lushr, 1) := by decide +kernel
theorem dX11_drawn_8 : decode cX11_drawn 8 = .ok (.iload_n 2, 1) := by decide +kernel
theorem dX11_drawn_9 : decode cX11_drawn 9 = .ok (.i2l, 1) := by decide +kernel
theorem dX11_drawn_10 : decode cX11_drawn 10 = .ok (.lrem, 1) := by decide +kernel
theorem dX11_drawn_11 : decode cX11_drawn 11 = .ok (.l2i, 1) := by decide +kernel
theorem dX11_drawn_12 : decode cX11_drawn 12 = .ok (.goto 4, 3) := by decide +kernel
theorem dX11_drawn_15 : decode cX11_drawn 15 = .ok (.iconst 0, 1) := by decide +kernel
theorem dX11_drawn_16 : decode cX11_drawn 16 = .ok (.ireturn, 1) := by decide +kernel
theorem dX11_end_0 : decode cX11_end 0 = .ok (.iload_n 1, 1) := by decide +kernel
theorem dX11_end_1 : decode cX11_end 1 = .ok (.ifCond .lt 11, 3) := by decide +kernel
theorem dX11_end_4 : decode cX11_end 4 = .ok (.iload_n 1, 1) := by decide +kernel
theorem dX11_end_5 : decode cX11_end 5 = .ok (.aload_n 0, 1) := by decide +kernel
theorem dX11_end_6 : decode cX11_end 6 = .ok (.getfield 100, 3) := by decide +kernel
theorem dX11_end_9 : decode cX11_end 9 = .ok (.if_icmp .le 5, 3) := by decide +kernel
theorem dX11_end_12 : decode cX11_end 12 = .ok (.iconst 0, 1) := by decide +kernel
theorem dX11_end_13 : decode cX11_end 13 = .ok (.ireturn, 1) := by decide +kernel
theorem dX11_end_14 : decode cX11_end 14 = .ok (.aload_n 0, 1) := by decide +kernel
theorem dX11_end_15 : decode cX11_end 15 = .ok (.iload_n 1, 1) := by decide +kernel
theorem dX11_end_16 : decode cX11_end 16 = .ok (.putfield 100, 3) := by decide +kernel
theorem dX11_end_19 : decode cX11_end 19 = .ok (.iconst 1, 1) := by decide +kernel
theorem dX11_end_20 : decode cX11_end 20 = .ok (.ireturn, 1) := by decide +kernel
theorem dX11_fault_0 : decode cX11_fault 0 = .ok (.iload_n 1, 1) := by decide +kernel
theorem dX11_fault_1 : decode cX11_fault 1 = .ok (.tableswitch 75 0 2 #[27, 43, 59], 27) := by decide +kernel
theorem dX11_fault_28 : decode cX11_fault 28 = .ok (.aload_n 0, 1) := by decide +kernel
theorem dX11_fault_29 : decode cX11_fault 29 = .ok (.getfield 16, 3) := by decide +kernel
theorem dX11_fault_32 : decode cX11_fault 32 = .ok (.aload_n 0, 1) := by decide +kernel
theorem dX11_fault_33 : decode cX11_fault 33 = .ok (.getfield 9, 3) := by decide +kernel
theorem dX11_fault_36 : decode cX11_fault 36 = .ok (.aload_n 0, 1) := by decide +kernel
theorem dX11_fault_37 : decode cX11_fault 37 = .ok (.getfield 100, 3) := by decide +kernel
theorem dX11_fault_40 : decode cX11_fault 40 = .ok (.invokevirtual 117, 3) := by decide +kernel
theorem dX11_fault_43 : decode cX11_fault 43 = .ok (.ireturn, 1) := by decide +kernel
theorem dX11_fault_44 : decode cX11_fault 44 = .ok (.aload_n 0, 1) := by decide +kernel
theorem dX11_fault_45 : decode cX11_fault 45 = .ok (.getfield 23, 3) := by decide +kernel
theorem dX11_fault_48 : decode cX11_fault 48 = .ok (.aload_n 0, 1) := by decide +kernel
theorem dX11_fault_49 : decode cX11_fault 49 = .ok (.getfield 9, 3) := by decide +kernel
theorem dX11_fault_52 : decode cX11_fault 52 = .ok (.aload_n 0, 1) := by decide +kernel
theorem dX11_fault_53 : decode cX11_fault 53 = .ok (.getfield 100, 3) := by decide +kernel
theorem dX11_fault_56 : decode cX11_fault 56 = .ok (.invokevirtual 121, 3) := by decide +kernel
theorem dX11_fault_59 : decode cX11_fault 59 = .ok (.ireturn, 1) := by decide +kernel
theorem dX11_fault_60 : decode cX11_fault 60 = .ok (.aload_n 0, 1) := by decide +kernel
theorem dX11_fault_61 : decode cX11_fault 61 = .ok (.getfield 30, 3) := by decide +kernel
theorem dX11_fault_64 : decode cX11_fault 64 = .ok (.aload_n 0, 1) := by decide +kernel
theorem dX11_fault_65 : decode cX11_fault 65 = .ok (.getfield 9, 3) := by decide +kernel
theorem dX11_fault_68 : decode cX11_fault 68 = .ok (.aload_n 0, 1) := by decide +kernel
theorem dX11_fault_69 : decode cX11_fault 69 = .ok (.getfield 100, 3) := by decide +kernel
theorem dX11_fault_72 : decode cX11_fault 72 = .ok (.invokevirtual 122, 3) := by decide +kernel
theorem dX11_fault_75 : decode cX11_fault 75 = .ok (.ireturn, 1) := by decide +kernel
theorem dX11_fault_76 : decode cX11_fault 76 = .ok (.bipush (-2), 2) := by decide +kernel
theorem dX11_fault_78 : decode cX11_fault 78 = .ok (.ireturn, 1) := by decide +kernel
theorem dX11_feed_0 : decode cX11_feed 0 = .ok (.iload_n 1, 1) := by decide +kernel
theorem dX11_feed_1 : decode cX11_feed 1 = .ok (.invokestatic 110, 3) := by decide +kernel
theorem dX11_feed_4 : decode cX11_feed 4 = .ok (.iload_n 2, 1) := by decide +kernel
theorem dX11_feed_5 : decode cX11_feed 5 = .ok (.invokestatic 110, 3) := by decide +kernel
theorem dX11_feed_8 : decode cX11_feed 8 = .ok (.iadd, 1) := by decide +kernel
theorem dX11_feed_9 : decode cX11_feed 9 = .ok (.iload_n 3, 1) := by decide +kernel
theorem dX11_feed_10 : decode cX11_feed 10 = .ok (.invokestatic 110, 3) := by decide +kernel
theorem dX11_feed_13 : decode cX11_feed 13 = .ok (.iadd, 1) := by decide +kernel
theorem dX11_feed_14 : decode cX11_feed 14 = .ok (.iload 4, 2) := by decide +kernel
theorem dX11_feed_16 : decode cX11_feed 16 = .ok (.invokestatic 110, 3) := by decide +kernel
theorem dX11_feed_19 : decode cX11_feed 19 = .ok (.iadd, 1) := by decide +kernel
theorem dX11_feed_20 : decode cX11_feed 20 = .ok (.iload 5, 2) := by decide +kernel
theorem dX11_feed_22 : decode cX11_feed 22 = .ok (.invokestatic 110, 3) := by decide +kernel
theorem dX11_feed_25 : decode cX11_feed 25 = .ok (.iadd, 1) := by decide +kernel
theorem dX11_feed_26 : decode cX11_feed 26 = .ok (.istore 6, 2) := by decide +kernel
theorem dX11_feed_28 : decode cX11_feed 28 = .ok (.aload_n 0, 1) := by decide +kernel
theorem dX11_feed_29 : decode cX11_feed 29 = .ok (.getfield 100, 3) := by decide +kernel
theorem dX11_feed_32 : decode cX11_feed 32 = .ok (.iload 6, 2) := by decide +kernel
theorem dX11_feed_34 : decode cX11_feed 34 = .ok (.iadd, 1) := by decide +kernel
theorem dX11_feed_35 : decode cX11_feed 35 = .ok (.sipush 240, 3) := by decide +kernel
theorem dX11_feed_38 : decode cX11_feed 38 = .ok (.if_icmp .le 5, 3) := by decide +kernel
theorem dX11_feed_41 : decode cX11_feed 41 = .ok (.iconst (-1), 1) := by decide +kernel
theorem dX11_feed_42 : decode cX11_feed 42 = .ok (.ireturn, 1) := by decide +kernel
theorem dX11_feed_43 : decode cX11_feed 43 = .ok (.aload_n 0, 1) := by decide +kernel
theorem dX11_feed_44 : decode cX11_feed 44 = .ok (.iload_n 1, 1) := by decide +kernel
theorem dX11_feed_45 : decode cX11_feed 45 = .ok (.invokevirtual 114, 3) := by decide +kernel
theorem dX11_feed_48 : decode cX11_feed 48 = .ok (.aload_n 0, 1) := by decide +kernel
theorem dX11_feed_49 : decode cX11_feed 49 = .ok (.iload_n 2, 1) := by decide +kernel
theorem dX11_feed_50 : decode cX11_feed 50 = .ok (.invokevirtual 114, 3) := by decide +kernel
theorem dX11_feed_53 : decode cX11_feed 53 = .ok (.aload_n 0, 1) := by decide +kernel
theorem dX11_feed_54 : decode cX11_feed 54 = .ok (.iload_n 3, 1) := by decide +kernel
theorem dX11_feed_55 : decode cX11_feed 55 = .ok (.invokevirtual 114, 3) := by decide +kernel
theorem dX11_feed_58 : decode cX11_feed 58 = .ok (.aload_n 0, 1) := by decide +kernel
theorem dX11_feed_59 : decode cX11_feed 59 = .ok (.iload 4, 2) := by decide +kernel
theorem dX11_feed_61 : decode cX11_feed 61 = .ok (.invokevirtual 114, 3) := by decide +kernel
theorem dX11_feed_64 : decode cX11_feed 64 = .ok (.aload_n 0, 1) := by decide +kernel
theorem dX11_feed_65 : decode cX11_feed 65 = .ok (.iload 5, 2) := by decide +kernel
theorem dX11_feed_67 : decode cX11_feed 67 = .ok (.invokevirtual 114, 3) := by decide +kernel
theorem dX11_feed_70 : decode cX11_feed 70 = .ok (.aload_n 0, 1) := by decide +kernel
theorem dX11_feed_71 : decode cX11_feed 71 = .ok (.getfield 100, 3) := by decide +kernel
theorem dX11_feed_74 : decode cX11_feed 74 = .ok (.ireturn, 1) := by decide +kernel
theorem dX11_fewest_0 : decode cX11_fewest 0 = .ok (.aload_n 0, 1) := by decide +kernel
theorem dX11_fewest_1 : decode cX11_fewest 1 = .ok (.getfield 49, 3) := by decide +kernel
theorem dX11_fewest_4 : decode cX11_fewest 4 = .ok (.getfield 154, 3) := by decide +kernel
theorem dX11_fewest_7 : decode cX11_fewest 7 = .ok (.ifCond .eq 21, 3) := by decide +kernel
theorem dX11_fewest_10 : decode cX11_fewest 10 = .ok (.iload_n 1, 1) := by decide +kernel
theorem dX11_fewest_11 : decode cX11_fewest 11 = .ok (.ifCond .lt 17, 3) := by decide +kernel
theorem dX11_fewest_14 : decode cX11_fewest 14 = .ok (.iload_n 1, 1) := by decide +kernel
theorem dX11_fewest_15 : decode cX11_fewest 15 = .ok (.iconst 4, 1) := by decide +kernel
theorem dX11_fewest_16 : decode cX11_fewest 16 = .ok (.if_icmp .gt 12, 3) := by decide +kernel
theorem dX11_fewest_19 : decode cX11_fewest 19 = .ok (.iload_n 2, 1) := by decide +kernel
theorem dX11_fewest_20 : decode cX11_fewest 20 = .ok (.ifCond .lt 8, 3) := by decide +kernel
theorem dX11_fewest_23 : decode cX11_fewest 23 = .ok (.iload_n 2, 1) := by decide +kernel
theorem dX11_fewest_24 : decode cX11_fewest 24 = .ok (.iconst 1, 1) := by decide +kernel
theorem dX11_fewest_25 : decode cX11_fewest 25 = .ok (.if_icmp .le 5, 3) := by decide +kernel
theorem dX11_fewest_28 : decode cX11_fewest 28 = .ok (.iconst (-1), 1) := by decide +kernel
theorem dX11_fewest_29 : decode cX11_fewest 29 = .ok (.ireturn, 1) := by decide +kernel
theorem dX11_fewest_30 : decode cX11_fewest 30 = .ok (.aload_n 0, 1) := by decide +kernel
theorem dX11_fewest_31 : decode cX11_fewest 31 = .ok (.getfield 83, 3) := by decide +kernel
theorem dX11_fewest_34 : decode cX11_fewest 34 = .ok (.aload_n 0, 1) := by decide +kernel
theorem dX11_fewest_35 : decode cX11_fewest 35 = .ok (.getfield 49, 3) := by decide +kernel
theorem dX11_fewest_38 : decode cX11_fewest 38 = .ok (.iload_n 1, 1) := by decide +kernel
theorem dX11_fewest_39 : decode cX11_fewest 39 = .ok (.iconst 2, 1) := by decide +kernel
theorem dX11_fewest_40 : decode cX11_fewest 40 = .ok (.invokevirtual 314, 3) := by decide +kernel
theorem dX11_fewest_43 : decode cX11_fewest 43 = .ok (.iload_n 2, 1) := by decide +kernel
theorem dX11_fewest_44 : decode cX11_fewest 44 = .ok (.ifCond .ne 13, 3) := by decide +kernel
theorem dX11_fewest_47 : decode cX11_fewest 47 = .ok (.aload_n 0, 1) := by decide +kernel
theorem dX11_fewest_48 : decode cX11_fewest 48 = .ok (.getfield 83, 3) := by decide +kernel
theorem dX11_fewest_51 : decode cX11_fewest 51 = .ok (.getfield 321, 3) := by decide +kernel
theorem dX11_fewest_54 : decode cX11_fewest 54 = .ok (.goto 10, 3) := by decide +kernel
theorem dX11_fewest_57 : decode cX11_fewest 57 = .ok (.aload_n 0, 1) := by decide +kernel
theorem dX11_fewest_58 : decode cX11_fewest 58 = .ok (.getfield 83, 3) := by decide +kernel
theorem dX11_fewest_61 : decode cX11_fewest 61 = .ok (.getfield 327, 3) := by decide +kernel
theorem dX11_fewest_64 : decode cX11_fewest 64 = .ok (.ireturn, 1) := by decide +kernel
theorem dX11_forgives_0 : decode cX11_forgives 0 = .ok (.aload_n 0, 1) := by decide +kernel
theorem dX11_forgives_1 : decode cX11_forgives 1 = .ok (.getfield 49, 3) := by decide +kernel
theorem dX11_forgives_4 : decode cX11_forgives 4 = .ok (.iload_n 1, 1) := by decide +kernel
theorem dX11_forgives_5 : decode cX11_forgives 5 = .ok (.invokevirtual 157, 3) := by decide +kernel
theorem dX11_forgives_8 : decode cX11_forgives 8 = .ok (.ifCond .eq 14, 3) := by decide +kernel
theorem dX11_forgives_11 : decode cX11_forgives 11 = .ok (.aload_n 0, 1) := by decide +kernel
theorem dX11_forgives_12 : decode cX11_forgives 12 = .ok (.getfield 49, 3) := by decide +kernel
theorem dX11_forgives_15 : decode cX11_forgives 15 = .ok (.iload_n 2, 1) := by decide +kernel
theorem dX11_forgives_16 : decode cX11_forgives 16 = .ok (.invokevirtual 157, 3) := by decide +kernel
theorem dX11_forgives_19 : decode cX11_forgives 19 = .ok (.ifCond .ne 11, 3) := by decide +kernel
theorem dX11_forgives_22 : decode cX11_forgives 22 = .ok (.aload_n 0, 1) := by decide +kernel
theorem dX11_forgives_23 : decode cX11_forgives 23 = .ok (.iconst 0, 1) := by decide +kernel
theorem dX11_forgives_24 : decode cX11_forgives 24 = .ok (.ldc 220, 2) := by decide +kernel
theorem dX11_forgives_26 : decode cX11_forgives 26 = .ok (.invokevirtual 225, 3) := by decide +kernel
theorem dX11_forgives_29 : decode cX11_forgives 29 = .ok (.ireturn, 1) := by decide +kernel
theorem dX11_forgives_30 : decode cX11_forgives 30 = .ok (.iload_n 1, 1) := by decide +kernel
theorem dX11_forgives_31 : decode cX11_forgives 31 = .ok (.iload_n 2, 1) := by decide +kernel
theorem dX11_forgives_32 : decode cX11_forgives 32 = .ok (.if_icmp .ne 11, 3) := by decide +kernel
theorem dX11_forgives_35 : decode cX11_forgives 35 = .ok (.aload_n 0, 1) := by decide +kernel
theorem dX11_forgives_36 : decode cX11_forgives 36 = .ok (.iconst 1, 1) := by decide +kernel
theorem dX11_forgives_37 : decode cX11_forgives 37 = .ok (.ldc 220, 2) := by decide +kernel
theorem dX11_forgives_39 : decode cX11_forgives 39 = .ok (.invokevirtual 225, 3) := by decide +kernel
theorem dX11_forgives_42 : decode cX11_forgives 42 = .ok (.ireturn, 1) := by decide +kernel
theorem dX11_forgives_43 : decode cX11_forgives 43 = .ok (.aload_n 0, 1) := by decide +kernel
theorem dX11_forgives_44 : decode cX11_forgives 44 = .ok (.getfield 49, 3) := by decide +kernel
theorem dX11_forgives_47 : decode cX11_forgives 47 = .ok (.iload_n 1, 1) := by decide +kernel
theorem dX11_forgives_48 : decode cX11_forgives 48 = .ok (.iload_n 2, 1) := by decide +kernel
theorem dX11_forgives_49 : decode cX11_forgives 49 = .ok (.invokevirtual 217, 3) := by decide +kernel
theorem dX11_forgives_52 : decode cX11_forgives 52 = .ok (.istore_n 3, 1) := by decide +kernel
theorem dX11_forgives_53 : decode cX11_forgives 53 = .ok (.iload_n 3, 1) := by decide +kernel
theorem dX11_forgives_54 : decode cX11_forgives 54 = .ok (.ifCond .ne 11, 3) := by decide +kernel
theorem dX11_forgives_57 : decode cX11_forgives 57 = .ok (.aload_n 0, 1) := by decide +kernel
theorem dX11_forgives_58 : decode cX11_forgives 58 = .ok (.iconst 2, 1) := by decide +kernel
theorem dX11_forgives_59 : decode cX11_forgives 59 = .ok (.ldc 220, 2) := by decide +kernel
theorem dX11_forgives_61 : decode cX11_forgives 61 = .ok (.invokevirtual 225, 3) := by decide +kernel
theorem dX11_forgives_64 : decode cX11_forgives 64 = .ok (.ireturn, 1) := by decide +kernel
theorem dX11_forgives_65 : decode cX11_forgives 65 = .ok (.aload_n 0, 1) := by decide +kernel
theorem dX11_forgives_66 : decode cX11_forgives 66 = .ok (.getfield 69, 3) := by decide +kernel
theorem dX11_forgives_69 : decode cX11_forgives 69 = .ok (.aload_n 0, 1) := by decide +kernel
theorem dX11_forgives_70 : decode cX11_forgives 70 = .ok (.getfield 49, 3) := by decide +kernel
theorem dX11_forgives_73 : decode cX11_forgives 73 = .ok (.invokevirtual 238, 3) := by decide +kernel
theorem dX11_forgives_76 : decode cX11_forgives 76 = .ok (.aload_n 0, 1) := by decide +kernel
theorem dX11_forgives_77 : decode cX11_forgives 77 = .ok (.getfield 49, 3) := by decide +kernel
theorem dX11_forgives_80 : decode cX11_forgives 80 = .ok (.iload_n 1, 1) := by decide +kernel
theorem dX11_forgives_81 : decode cX11_forgives 81 = .ok (.iload_n 2, 1) := by decide +kernel
theorem dX11_forgives_82 : decode cX11_forgives 82 = .ok (.iconst 0, 1) := by decide +kernel
theorem dX11_forgives_83 : decode cX11_forgives 83 = .ok (.invokevirtual 260, 3) := by decide +kernel
theorem dX11_forgives_86 : decode cX11_forgives 86 = .ok (.iload_n 3, 1) := by decide +kernel
theorem dX11_forgives_87 : decode cX11_forgives 87 = .ok (.ireturn, 1) := by decide +kernel
theorem dX11_game_0 : decode cX11_game 0 = .ok (.aload_n 0, 1) := by decide +kernel
theorem dX11_game_1 : decode cX11_game 1 = .ok (.getfield 49, 3) := by decide +kernel
theorem dX11_game_4 : decode cX11_game 4 = .ok (.iload_n 1, 1) := by decide +kernel
theorem dX11_game_5 : decode cX11_game 5 = .ok (.invokevirtual 157, 3) := by decide +kernel
theorem dX11_game_8 : decode cX11_game 8 = .ok (.ifCond .eq 19, 3) := by decide +kernel
theorem dX11_game_11 : decode cX11_game 11 = .ok (.aload_n 0, 1) := by decide +kernel
theorem dX11_game_12 : decode cX11_game 12 = .ok (.getfield 49, 3) := by decide +kernel
theorem dX11_game_15 : decode cX11_game 15 = .ok (.iload_n 2, 1) := by decide +kernel
theorem dX11_game_16 : decode cX11_game 16 = .ok (.invokevirtual 157, 3) := by decide +kernel
theorem dX11_game_19 : decode cX11_game 19 = .ok (.ifCond .eq 8, 3) := by decide +kernel
theorem dX11_game_22 : decode cX11_game 22 = .ok (.iload_n 1, 1) := by decide +kernel
theorem dX11_game_23 : decode cX11_game 23 = .ok (.iload_n 2, 1) := by decide +kernel
theorem dX11_game_24 : decode cX11_game 24 = .ok (.if_icmp .ne 6, 3) := by decide +kernel
theorem dX11_game_27 : decode cX11_game 27 = .ok (.ldc 220, 2) := by decide +kernel
theorem dX11_game_29 : decode cX11_game 29 = .ok (.ireturn, 1) := by decide +kernel
theorem dX11_game_30 : decode cX11_game 30 = .ok (.iload_n 3, 1) := by decide +kernel
theorem dX11_game_31 : decode cX11_game 31 = .ok (.ifCond .lt 30, 3) := by decide +kernel
theorem dX11_game_34 : decode cX11_game 34 = .ok (.iload_n 3, 1) := by decide +kernel
theorem dX11_game_35 : decode cX11_game 35 = .ok (.iconst 1, 1) := by decide +kernel
theorem dX11_game_36 : decode cX11_game 36 = .ok (.if_icmp .gt 25, 3) := by decide +kernel
theorem dX11_game_39 : decode cX11_game 39 = .ok (.iload 4, 2) := by decide +kernel
theorem dX11_game_41 : decode cX11_game 41 = .ok (.ifCond .lt 20, 3) := by decide +kernel
theorem dX11_game_44 : decode cX11_game 44 = .ok (.iload 4, 2) := by decide +kernel
theorem dX11_game_46 : decode cX11_game 46 = .ok (.iconst 1, 1) := by decide +kernel
theorem dX11_game_47 : decode cX11_game 47 = .ok (.if_icmp .gt 14, 3) := by decide +kernel
theorem dX11_game_50 : decode cX11_game 50 = .ok (.iload 5, 2) := by decide +kernel
theorem dX11_game_52 : decode cX11_game 52 = .ok (.ifCond .lt 9, 3) := by decide +kernel
theorem dX11_game_55 : decode cX11_game 55 = .ok (.iload 5, 2) := by decide +kernel
theorem dX11_game_57 : decode cX11_game 57 = .ok (.iconst 1, 1) := by decide +kernel
theorem dX11_game_58 : decode cX11_game 58 = .ok (.if_icmp .le 6, 3) := by decide +kernel
theorem dX11_game_61 : decode cX11_game 61 = .ok (.ldc 220, 2) := by decide +kernel
theorem dX11_game_63 : decode cX11_game 63 = .ok (.ireturn, 1) := by decide +kernel
theorem dX11_game_64 : decode cX11_game 64 = .ok (.aload_n 0, 1) := by decide +kernel
theorem dX11_game_65 : decode cX11_game 65 = .ok (.getfield 56, 3) := by decide +kernel
theorem dX11_game_68 : decode cX11_game 68 = .ok (.aload_n 0, 1) := by decide +kernel
theorem dX11_game_69 : decode cX11_game 69 = .ok (.getfield 49, 3) := by decide +kernel
theorem dX11_game_72 : decode cX11_game 72 = .ok (.invokevirtual 142, 3) := by decide +kernel
theorem dX11_game_75 : decode cX11_game 75 = .ok (.iload_n 3, 1) := by decide +kernel
theorem dX11_game_76 : decode cX11_game 76 = .ok (.iconst 1, 1) := by decide +kernel
theorem dX11_game_77 : decode cX11_game 77 = .ok (.if_icmp .ne 22, 3) := by decide +kernel
theorem dX11_game_80 : decode cX11_game 80 = .ok (.aload_n 0, 1) := by decide +kernel
theorem dX11_game_81 : decode cX11_game 81 = .ok (.getfield 56, 3) := by decide +kernel
theorem dX11_game_84 : decode cX11_game 84 = .ok (.iload_n 1, 1) := by decide +kernel
theorem dX11_game_85 : decode cX11_game 85 = .ok (.invokevirtual 232, 3) := by decide +kernel
theorem dX11_game_88 : decode cX11_game 88 = .ok (.ifCond .eq 11, 3) := by decide +kernel
theorem dX11_game_91 : decode cX11_game 91 = .ok (.aload_n 0, 1) := by decide +kernel
theorem dX11_game_92 : decode cX11_game 92 = .ok (.getfield 56, 3) := by decide +kernel
theorem dX11_game_95 : decode cX11_game 95 = .ok (.iload_n 1, 1) := by decide +kernel
theorem dX11_game_96 : decode cX11_game 96 = .ok (.invokevirtual 244, 3) := by decide +kernel
theorem dX11_game_99 : decode cX11_game 99 = .ok (.iload 4, 2) := by decide +kernel
theorem dX11_game_101 : decode cX11_game 101 = .ok (.iconst 1, 1) := by decide +kernel
theorem dX11_game_102 : decode cX11_game 102 = .ok (.if_icmp .ne 22, 3) := by decide +kernel
theorem dX11_game_105 : decode cX11_game 105 = .ok (.aload_n 0, 1) := by decide +kernel
theorem dX11_game_106 : decode cX11_game 106 = .ok (.getfield 56, 3) := by decide +kernel
theorem dX11_game_109 : decode cX11_game 109 = .ok (.iload_n 2, 1) := by decide +kernel
theorem dX11_game_110 : decode cX11_game 110 = .ok (.invokevirtual 232, 3) := by decide +kernel
theorem dX11_game_113 : decode cX11_game 113 = .ok (.ifCond .eq 11, 3) := by decide +kernel
theorem dX11_game_116 : decode cX11_game 116 = .ok (.aload_n 0, 1) := by decide +kernel
theorem dX11_game_117 : decode cX11_game 117 = .ok (.getfield 56, 3) := by decide +kernel
theorem dX11_game_120 : decode cX11_game 120 = .ok (.iload_n 2, 1) := by decide +kernel
theorem dX11_game_121 : decode cX11_game 121 = .ok (.invokevirtual 244, 3) := by decide +kernel
theorem dX11_game_124 : decode cX11_game 124 = .ok (.iload 5, 2) := by decide +kernel
theorem dX11_game_126 : decode cX11_game 126 = .ok (.ifCond .ne 7, 3) := by decide +kernel
theorem dX11_game_129 : decode cX11_game 129 = .ok (.iload_n 1, 1) := by decide +kernel
theorem dX11_game_130 : decode cX11_game 130 = .ok (.goto 4, 3) := by decide +kernel
theorem dX11_game_133 : decode cX11_game 133 = .ok (.iload_n 2, 1) := by decide +kernel
theorem dX11_game_134 : decode cX11_game 134 = .ok (.istore 6, 2) := by decide +kernel
theorem dX11_game_136 : decode cX11_game 136 = .ok (.iload 5, 2) := by decide +kernel
theorem dX11_game_138 : decode cX11_game 138 = .ok (.ifCond .ne 7, 3) := by decide +kernel
theorem dX11_game_141 : decode cX11_game 141 = .ok (.iload_n 3, 1) := by decide +kernel
theorem dX11_game_142 : decode cX11_game 142 = .ok (.goto 5, 3) := by decide +kernel
theorem dX11_game_145 : decode cX11_game 145 = .ok (.iload 4, 2) := by decide +kernel
theorem dX11_game_147 : decode cX11_game 147 = .ok (.istore 7, 2) := by decide +kernel
theorem dX11_game_149 : decode cX11_game 149 = .ok (.aload_n 0, 1) := by decide +kernel
theorem dX11_game_150 : decode cX11_game 150 = .ok (.getfield 56, 3) := by decide +kernel
theorem dX11_game_153 : decode cX11_game 153 = .ok (.iload 6, 2) := by decide +kernel
theorem dX11_game_155 : decode cX11_game 155 = .ok (.invokevirtual 180, 3) := by decide +kernel
theorem dX11_game_158 : decode cX11_game 158 = .ok (.aload_n 0, 1) := by decide +kernel
theorem dX11_game_159 : decode cX11_game 159 = .ok (.getfield 56, 3) := by decide +kernel
theorem dX11_game_162 : decode cX11_game 162 = .ok (.iload 6, 2) := by decide +kernel
theorem dX11_game_164 : decode cX11_game 164 = .ok (.invokevirtual 183, 3) := by decide +kernel
theorem dX11_game_167 : decode cX11_game 167 = .ok (.isub, 1) := by decide +kernel
theorem dX11_game_168 : decode cX11_game 168 = .ok (.iload 7, 2) := by decide +kernel
theorem dX11_game_170 : decode cX11_game 170 = .ok (.isub, 1) := by decide +kernel
theorem dX11_game_171 : decode cX11_game 171 = .ok (.ireturn, 1) := by decide +kernel
theorem dX11_give_0 : decode cX11_give 0 = .ok (.aload_n 0, 1) := by decide +kernel
theorem dX11_give_1 : decode cX11_give 1 = .ok (.getfield 49, 3) := by decide +kernel
theorem dX11_give_4 : decode cX11_give 4 = .ok (.getfield 154, 3) := by decide +kernel
theorem dX11_give_7 : decode cX11_give 7 = .ok (.ifCond .ne 10, 3) := by decide +kernel
theorem dX11_give_10 : decode cX11_give 10 = .ok (.aload_n 0, 1) := by decide +kernel
theorem dX11_give_11 : decode cX11_give 11 = .ok (.iconst 0, 1) := by decide +kernel
theorem dX11_give_12 : decode cX11_give 12 = .ok (.iconst (-1), 1) := by decide +kernel
theorem dX11_give_13 : decode cX11_give 13 = .ok (.invokevirtual 225, 3) := by decide +kernel
theorem dX11_give_16 : decode cX11_give 16 = .ok (.ireturn, 1) := by decide +kernel
theorem dX11_give_17 : decode cX11_give 17 = .ok (.iload_n 1, 1) := by decide +kernel
theorem dX11_give_18 : decode cX11_give 18 = .ok (.iconst 1, 1) := by decide +kernel
theorem dX11_give_19 : decode cX11_give 19 = .ok (.if_icmp .lt 9, 3) := by decide +kernel
theorem dX11_give_22 : decode cX11_give 22 = .ok (.iload_n 1, 1) := by decide +kernel
theorem dX11_give_23 : decode cX11_give 23 = .ok (.bipush 50, 2) := by decide +kernel
theorem dX11_give_25 : decode cX11_give 25 = .ok (.if_icmp .le 10, 3) := by decide +kernel
theorem dX11_give_28 : decode cX11_give 28 = .ok (.aload_n 0, 1) := by decide +kernel
theorem dX11_give_29 : decode cX11_give 29 = .ok (.iconst 1, 1) := by decide +kernel
theorem dX11_give_30 : decode cX11_give 30 = .ok (.iconst (-1), 1) := by decide +kernel
theorem dX11_give_31 : decode cX11_give 31 = .ok (.invokevirtual 225, 3) := by decide +kernel
theorem dX11_give_34 : decode cX11_give 34 = .ok (.ireturn, 1) := by decide +kernel
theorem dX11_give_35 : decode cX11_give 35 = .ok (.aload_n 0, 1) := by decide +kernel
theorem dX11_give_36 : decode cX11_give 36 = .ok (.getfield 49, 3) := by decide +kernel
theorem dX11_give_39 : decode cX11_give 39 = .ok (.getfield 235, 3) := by decide +kernel
theorem dX11_give_42 : decode cX11_give 42 = .ok (.iload_n 1, 1) := by decide +kernel
theorem dX11_give_43 : decode cX11_give 43 = .ok (.iadd, 1) := by decide +kernel
theorem dX11_give_44 : decode cX11_give 44 = .ok (.sipush 999, 3) := by decide +kernel
theorem dX11_give_47 : decode cX11_give 47 = .ok (.if_icmp .le 10, 3) := by decide +kernel
theorem dX11_give_50 : decode cX11_give 50 = .ok (.aload_n 0, 1) := by decide +kernel
theorem dX11_give_51 : decode cX11_give 51 = .ok (.iconst 3, 1) := by decide +kernel
theorem dX11_give_52 : decode cX11_give 52 = .ok (.iconst (-1), 1) := by decide +kernel
theorem dX11_give_53 : decode cX11_give 53 = .ok (.invokevirtual 225, 3) := by decide +kernel
theorem dX11_give_56 : decode cX11_give 56 = .ok (.ireturn, 1) := by decide +kernel
theorem dX11_give_57 : decode cX11_give 57 = .ok (.aload_n 0, 1) := by decide +kernel
theorem dX11_give_58 : decode cX11_give 58 = .ok (.getfield 69, 3) := by decide +kernel
theorem dX11_give_61 : decode cX11_give 61 = .ok (.aload_n 0, 1) := by decide +kernel
theorem dX11_give_62 : decode cX11_give 62 = .ok (.getfield 49, 3) := by decide +kernel
theorem dX11_give_65 : decode cX11_give 65 = .ok (.invokevirtual 238, 3) := by decide +kernel
theorem dX11_give_68 : decode cX11_give 68 = .ok (.aload_n 0, 1) := by decide +kernel
theorem dX11_give_69 : decode cX11_give 69 = .ok (.getfield 49, 3) := by decide +kernel
theorem dX11_give_72 : decode cX11_give 72 = .ok (.dup, 1) := by decide +kernel
theorem dX11_give_73 : decode cX11_give 73 = .ok (.getfield 235, 3) := by decide +kernel
theorem dX11_give_76 : decode cX11_give 76 = .ok (.iload_n 1, 1) := by decide +kernel
theorem dX11_give_77 : decode cX11_give 77 = .ok (.iadd, 1) := by decide +kernel
theorem dX11_give_78 : decode cX11_give 78 = .ok (.putfield 235, 3) := by decide +kernel
theorem dX11_give_81 : decode cX11_give 81 = .ok (.aload_n 0, 1) := by decide +kernel
theorem dX11_give_82 : decode cX11_give 82 = .ok (.getfield 49, 3) := by decide +kernel
theorem dX11_give_85 : decode cX11_give 85 = .ok (.getfield 235, 3) := by decide +kernel
theorem dX11_give_88 : decode cX11_give 88 = .ok (.ireturn, 1) := by decide +kernel
theorem dX11_gives_0 : decode cX11_gives 0 = .ok (.aload_n 0, 1) := by decide +kernel
theorem dX11_gives_1 : decode cX11_gives 1 = .ok (.getfield 49, 3) := by decide +kernel
theorem dX11_gives_4 : decode cX11_gives 4 = .ok (.iload_n 1, 1) := by decide +kernel
theorem dX11_gives_5 : decode cX11_gives 5 = .ok (.invokevirtual 157, 3) := by decide +kernel
theorem dX11_gives_8 : decode cX11_gives 8 = .ok (.ifCond .eq 14, 3) := by decide +kernel
theorem dX11_gives_11 : decode cX11_gives 11 = .ok (.aload_n 0, 1) := by decide +kernel
theorem dX11_gives_12 : decode cX11_gives 12 = .ok (.getfield 49, 3) := by decide +kernel
theorem dX11_gives_15 : decode cX11_gives 15 = .ok (.iload_n 2, 1) := by decide +kernel
theorem dX11_gives_16 : decode cX11_gives 16 = .ok (.invokevirtual 157, 3) := by decide +kernel
theorem dX11_gives_19 : decode cX11_gives 19 = .ok (.ifCond .ne 11, 3) := by decide +kernel
theorem dX11_gives_22 : decode cX11_gives 22 = .ok (.aload_n 0, 1) := by decide +kernel
theorem dX11_gives_23 : decode cX11_gives 23 = .ok (.iconst 0, 1) := by decide +kernel
theorem dX11_gives_24 : decode cX11_gives 24 = .ok (.ldc 220, 2) := by decide +kernel
theorem dX11_gives_26 : decode cX11_gives 26 = .ok (.invokevirtual 225, 3) := by decide +kernel
theorem dX11_gives_29 : decode cX11_gives 29 = .ok (.ireturn, 1) := by decide +kernel
theorem dX11_gives_30 : decode cX11_gives 30 = .ok (.iload_n 1, 1) := by decide +kernel
theorem dX11_gives_31 : decode cX11_gives 31 = .ok (.iload_n 2, 1) := by decide +kernel
theorem dX11_gives_32 : decode cX11_gives 32 = .ok (.if_icmp .eq 14, 3) := by decide +kernel
theorem dX11_gives_35 : decode cX11_gives 35 = .ok (.iload_n 3, 1) := by decide +kernel
theorem dX11_gives_36 : decode cX11_gives 36 = .ok (.iconst 1, 1) := by decide +kernel
theorem dX11_gives_37 : decode cX11_gives 37 = .ok (.if_icmp .lt 9, 3) := by decide +kernel
theorem dX11_gives_40 : decode cX11_gives 40 = .ok (.iload_n 3, 1) := by decide +kernel
theorem dX11_gives_41 : decode cX11_gives 41 = .ok (.bipush 9, 2) := by decide +kernel
theorem dX11_gives_43 : decode cX11_gives 43 = .ok (.if_icmp .le 11, 3) := by decide +kernel
theorem dX11_gives_46 : decode cX11_gives 46 = .ok (.aload_n 0, 1) := by decide +kernel
theorem dX11_gives_47 : decode cX11_gives 47 = .ok (.iconst 1, 1) := by decide +kernel
theorem dX11_gives_48 : decode cX11_gives 48 = .ok (.ldc 220, 2) := by decide +kernel
theorem dX11_gives_50 : decode cX11_gives 50 = .ok (.invokevirtual 225, 3) := by decide +kernel
theorem dX11_gives_53 : decode cX11_gives 53 = .ok (.ireturn, 1) := by decide +kernel
theorem dX11_gives_54 : decode cX11_gives 54 = .ok (.aload_n 0, 1) := by decide +kernel
theorem dX11_gives_55 : decode cX11_gives 55 = .ok (.getfield 49, 3) := by decide +kernel
theorem dX11_gives_58 : decode cX11_gives 58 = .ok (.iload_n 1, 1) := by decide +kernel
theorem dX11_gives_59 : decode cX11_gives 59 = .ok (.iload_n 2, 1) := by decide +kernel
theorem dX11_gives_60 : decode cX11_gives 60 = .ok (.invokevirtual 217, 3) := by decide +kernel
theorem dX11_gives_63 : decode cX11_gives 63 = .ok (.iload_n 3, 1) := by decide +kernel
theorem dX11_gives_64 : decode cX11_gives 64 = .ok (.iadd, 1) := by decide +kernel
theorem dX11_gives_65 : decode cX11_gives 65 = .ok (.istore 4, 2) := by decide +kernel
theorem dX11_gives_67 : decode cX11_gives 67 = .ok (.iload 4, 2) := by decide +kernel
theorem dX11_gives_69 : decode cX11_gives 69 = .ok (.aload_n 0, 1) := by decide +kernel
theorem dX11_gives_70 : decode cX11_gives 70 = .ok (.getfield 49, 3) := by decide +kernel
theorem dX11_gives_73 : decode cX11_gives 73 = .ok (.getfield 257, 3) := by decide +kernel
theorem dX11_gives_76 : decode cX11_gives 76 = .ok (.if_icmp .le 11, 3) := by decide +kernel
theorem dX11_gives_79 : decode cX11_gives 79 = .ok (.aload_n 0, 1) := by decide +kernel
theorem dX11_gives_80 : decode cX11_gives 80 = .ok (.iconst 3, 1) := by decide +kernel
theorem dX11_gives_81 : decode cX11_gives 81 = .ok (.ldc 220, 2) := by decide +kernel
theorem dX11_gives_83 : decode cX11_gives 83 = .ok (.invokevirtual 225, 3) := by decide +kernel
theorem dX11_gives_86 : decode cX11_gives 86 = .ok (.ireturn, 1) := by decide +kernel
theorem dX11_gives_87 : decode cX11_gives 87 = .ok (.aload_n 0, 1) := by decide +kernel
theorem dX11_gives_88 : decode cX11_gives 88 = .ok (.getfield 69, 3) := by decide +kernel
theorem dX11_gives_91 : decode cX11_gives 91 = .ok (.aload_n 0, 1) := by decide +kernel
theorem dX11_gives_92 : decode cX11_gives 92 = .ok (.getfield 49, 3) := by decide +kernel
theorem dX11_gives_95 : decode cX11_gives 95 = .ok (.invokevirtual 238, 3) := by decide +kernel
theorem dX11_gives_98 : decode cX11_gives 98 = .ok (.aload_n 0, 1) := by decide +kernel
theorem dX11_gives_99 : decode cX11_gives 99 = .ok (.getfield 49, 3) := by decide +kernel
theorem dX11_gives_102 : decode cX11_gives 102 = .ok (.iload_n 1, 1) := by decide +kernel
theorem dX11_gives_103 : decode cX11_gives 103 = .ok (.iload_n 2, 1) := by decide +kernel
theorem dX11_gives_104 : decode cX11_gives 104 = .ok (.iload 4, 2) := by decide +kernel
theorem dX11_gives_106 : decode cX11_gives 106 = .ok (.invokevirtual 260, 3) := by decide +kernel
theorem dX11_gives_109 : decode cX11_gives 109 = .ok (.iload 4, 2) := by decide +kernel
theorem dX11_gives_111 : decode cX11_gives 111 = .ok (.ireturn, 1) := by decide +kernel
theorem dX11_grace_0 : decode cX11_grace 0 = .ok (.iload_n 1, 1) := by decide +kernel
theorem dX11_grace_1 : decode cX11_grace 1 = .ok (.ifCond .lt 17, 3) := by decide +kernel
theorem dX11_grace_4 : decode cX11_grace 4 = .ok (.iload_n 1, 1) := by decide +kernel
theorem dX11_grace_5 : decode cX11_grace 5 = .ok (.bipush 9, 2) := by decide +kernel
theorem dX11_grace_7 : decode cX11_grace 7 = .ok (.if_icmp .gt 11, 3) := by decide +kernel
theorem dX11_grace_10 : decode cX11_grace 10 = .ok (.iload_n 1, 1) := by decide +kernel
theorem dX11_grace_11 : decode cX11_grace 11 = .ok (.aload_n 0, 1) := by decide +kernel
theorem dX11_grace_12 : decode cX11_grace 12 = .ok (.getfield 107, 3) := by decide +kernel
theorem dX11_grace_15 : decode cX11_grace 15 = .ok (.if_icmp .ne 5, 3) := by decide +kernel
theorem dX11_grace_18 : decode cX11_grace 18 = .ok (.iconst 0, 1) := by decide +kernel
theorem dX11_grace_19 : decode cX11_grace 19 = .ok (.ireturn, 1) := by decide +kernel
theorem dX11_grace_20 : decode cX11_grace 20 = .ok (.aload_n 0, 1) := by decide +kernel
theorem dX11_grace_21 : decode cX11_grace 21 = .ok (.iload_n 1, 1) := by decide +kernel
theorem dX11_grace_22 : decode cX11_grace 22 = .ok (.putfield 107, 3) := by decide +kernel
theorem dX11_grace_25 : decode cX11_grace 25 = .ok (.iconst 1, 1) := by decide +kernel
theorem dX11_grace_26 : decode cX11_grace 26 = .ok (.ireturn, 1) := by decide +kernel
theorem dX11_image_0 : decode cX11_image 0 = .ok (.aload_n 0, 1) := by decide +kernel
theorem dX11_image_1 : decode cX11_image 1 = .ok (.getfield 49, 3) := by decide +kernel
theorem dX11_image_4 : decode cX11_image 4 = .ok (.getfield 154, 3) := by decide +kernel
theorem dX11_image_7 : decode cX11_image 7 = .ok (.ifCond .ne 5, 3) := by decide +kernel
theorem dX11_image_10 : decode cX11_image 10 = .ok (.iconst (-1), 1) := by decide +kernel
theorem dX11_image_11 : decode cX11_image 11 = .ok (.ireturn, 1) := by decide +kernel
theorem dX11_image_12 : decode cX11_image 12 = .ok (.aload_n 0, 1) := by decide +kernel
theorem dX11_image_13 : decode cX11_image 13 = .ok (.getfield 69, 3) := by decide +kernel
theorem dX11_image_16 : decode cX11_image 16 = .ok (.aload_n 0, 1) := by decide +kernel
theorem dX11_image_17 : decode cX11_image 17 = .ok (.getfield 49, 3) := by decide +kernel
theorem dX11_image_20 : decode cX11_image 20 = .ok (.aload_n 0, 1) := by decide +kernel
theorem dX11_image_21 : decode cX11_image 21 = .ok (.getfield 62, 3) := by decide +kernel
theorem dX11_image_24 : decode cX11_image 24 = .ok (.invokevirtual 384, 3) := by decide +kernel
theorem dX11_image_27 : decode cX11_image 27 = .ok (.aload_n 0, 1) := by decide +kernel
theorem dX11_image_28 : decode cX11_image 28 = .ok (.getfield 49, 3) := by decide +kernel
theorem dX11_image_31 : decode cX11_image 31 = .ok (.getfield 195, 3) := by decide +kernel
theorem dX11_image_34 : decode cX11_image 34 = .ok (.ireturn, 1) := by decide +kernel
theorem dX11_init_0 : decode cX11_init 0 = .ok (.aload_n 0, 1) := by decide +kernel
theorem dX11_init_1 : decode cX11_init 1 = .ok (.invokespecial 1, 3) := by decide +kernel
theorem dX11_init_4 : decode cX11_init 4 = .ok (.aload_n 0, 1) := by decide +kernel
theorem dX11_init_5 : decode cX11_init 5 = .ok (.sipush 240, 3) := by decide +kernel
theorem dX11_init_8 : decode cX11_init 8 = .ok (.newarray .int, 2) := by decide +kernel
theorem dX11_init_10 : decode cX11_init 10 = .ok (.putfield 9, 3) := by decide +kernel
theorem dX11_init_13 : decode cX11_init 13 = .ok (.aload_n 0, 1) := by decide +kernel
theorem dX11_init_14 : decode cX11_init 14 = .ok (.new 13, 3) := by decide +kernel
theorem dX11_init_17 : decode cX11_init 17 = .ok (.dup, 1) := by decide +kernel
theorem dX11_init_18 : decode cX11_init 18 = .ok (.invokespecial 15, 3) := by decide +kernel
theorem dX11_init_21 : decode cX11_init 21 = .ok (.putfield 16, 3) := by decide +kernel
theorem dX11_init_24 : decode cX11_init 24 = .ok (.aload_n 0, 1) := by decide +kernel
theorem dX11_init_25 : decode cX11_init 25 = .ok (.new 20, 3) := by decide +kernel
theorem dX11_init_28 : decode cX11_init 28 = .ok (.dup, 1) := by decide +kernel
theorem dX11_init_29 : decode cX11_init 29 = .ok (.invokespecial 22, 3) := by decide +kernel
theorem dX11_init_32 : decode cX11_init 32 = .ok (.putfield 23, 3) := by decide +kernel
theorem dX11_init_35 : decode cX11_init 35 = .ok (.aload_n 0, 1) := by decide +kernel
theorem dX11_init_36 : decode cX11_init 36 = .ok (.new 27, 3) := by decide +kernel
theorem dX11_init_39 : decode cX11_init 39 = .ok (.dup, 1) := by decide +kernel
theorem dX11_init_40 : decode cX11_init 40 = .ok (.invokespecial 29, 3) := by decide +kernel
theorem dX11_init_43 : decode cX11_init 43 = .ok (.putfield 30, 3) := by decide +kernel
theorem dX11_init_46 : decode cX11_init 46 = .ok (.aload_n 0, 1) := by decide +kernel
theorem dX11_init_47 : decode cX11_init 47 = .ok (.new 34, 3) := by decide +kernel
theorem dX11_init_50 : decode cX11_init 50 = .ok (.dup, 1) := by decide +kernel
theorem dX11_init_51 : decode cX11_init 51 = .ok (.sipush 240, 3) := by decide +kernel
theorem dX11_init_54 : decode cX11_init 54 = .ok (.invokespecial 36, 3) := by decide +kernel
theorem dX11_init_57 : decode cX11_init 57 = .ok (.putfield 39, 3) := by decide +kernel
theorem dX11_init_60 : decode cX11_init 60 = .ok (.aload_n 0, 1) := by decide +kernel
theorem dX11_init_61 : decode cX11_init 61 = .ok (.new 34, 3) := by decide +kernel
theorem dX11_init_64 : decode cX11_init 64 = .ok (.dup, 1) := by decide +kernel
theorem dX11_init_65 : decode cX11_init 65 = .ok (.bipush 16, 2) := by decide +kernel
theorem dX11_init_67 : decode cX11_init 67 = .ok (.invokespecial 36, 3) := by decide +kernel
theorem dX11_init_70 : decode cX11_init 70 = .ok (.putfield 43, 3) := by decide +kernel
theorem dX11_init_73 : decode cX11_init 73 = .ok (.aload_n 0, 1) := by decide +kernel
theorem dX11_init_74 : decode cX11_init 74 = .ok (.new 46, 3) := by decide +kernel
theorem dX11_init_77 : decode cX11_init 77 = .ok (.dup, 1) := by decide +kernel
theorem dX11_init_78 : decode cX11_init 78 = .ok (.invokespecial 48, 3) := by decide +kernel
theorem dX11_init_81 : decode cX11_init 81 = .ok (.putfield 49, 3) := by decide +kernel
theorem dX11_init_84 : decode cX11_init 84 = .ok (.aload_n 0, 1) := by decide +kernel
theorem dX11_init_85 : decode cX11_init 85 = .ok (.new 46, 3) := by decide +kernel
theorem dX11_init_88 : decode cX11_init 88 = .ok (.dup, 1) := by decide +kernel
theorem dX11_init_89 : decode cX11_init 89 = .ok (.invokespecial 48, 3) := by decide +kernel
theorem dX11_init_92 : decode cX11_init 92 = .ok (.putfield 53, 3) := by decide +kernel
theorem dX11_init_95 : decode cX11_init 95 = .ok (.aload_n 0, 1) := by decide +kernel
theorem dX11_init_96 : decode cX11_init 96 = .ok (.new 46, 3) := by decide +kernel
theorem dX11_init_99 : decode cX11_init 99 = .ok (.dup, 1) := by decide +kernel
theorem dX11_init_100 : decode cX11_init 100 = .ok (.invokespecial 48, 3) := by decide +kernel
theorem dX11_init_103 : decode cX11_init 103 = .ok (.putfield 56, 3) := by decide +kernel
theorem dX11_init_106 : decode cX11_init 106 = .ok (.aload_n 0, 1) := by decide +kernel
theorem dX11_init_107 : decode cX11_init 107 = .ok (.new 59, 3) := by decide +kernel
theorem dX11_init_110 : decode cX11_init 110 = .ok (.dup, 1) := by decide +kernel
theorem dX11_init_111 : decode cX11_init 111 = .ok (.invokespecial 61, 3) := by decide +kernel
theorem dX11_init_114 : decode cX11_init 114 = .ok (.putfield 62, 3) := by decide +kernel
theorem dX11_init_117 : decode cX11_init 117 = .ok (.aload_n 0, 1) := by decide +kernel
theorem dX11_init_118 : decode cX11_init 118 = .ok (.new 66, 3) := by decide +kernel
theorem dX11_init_121 : decode cX11_init 121 = .ok (.dup, 1) := by decide +kernel
theorem dX11_init_122 : decode cX11_init 122 = .ok (.invokespecial 68, 3) := by decide +kernel
theorem dX11_init_125 : decode cX11_init 125 = .ok (.putfield 69, 3) := by decide +kernel
theorem dX11_init_128 : decode cX11_init 128 = .ok (.aload_n 0, 1) := by decide +kernel
theorem dX11_init_129 : decode cX11_init 129 = .ok (.new 73, 3) := by decide +kernel
theorem dX11_init_132 : decode cX11_init 132 = .ok (.dup, 1) := by decide +kernel
theorem dX11_init_133 : decode cX11_init 133 = .ok (.invokespecial 75, 3) := by decide +kernel
theorem dX11_init_136 : decode cX11_init 136 = .ok (.putfield 76, 3) := by decide +kernel
theorem dX11_init_139 : decode cX11_init 139 = .ok (.aload_n 0, 1) := by decide +kernel
theorem dX11_init_140 : decode cX11_init 140 = .ok (.new 80, 3) := by decide +kernel
theorem dX11_init_143 : decode cX11_init 143 = .ok (.dup, 1) := by decide +kernel
theorem dX11_init_144 : decode cX11_init 144 = .ok (.invokespecial 82, 3) := by decide +kernel
theorem dX11_init_147 : decode cX11_init 147 = .ok (.putfield 83, 3) := by decide +kernel
theorem dX11_init_150 : decode cX11_init 150 = .ok (.aload_n 0, 1) := by decide +kernel
theorem dX11_init_151 : decode cX11_init 151 = .ok (.new 87, 3) := by decide +kernel
theorem dX11_init_154 : decode cX11_init 154 = .ok (.dup, 1) := by decide +kernel
theorem dX11_init_155 : decode cX11_init 155 = .ok (.invokespecial 89, 3) := by decide +kernel
theorem dX11_init_158 : decode cX11_init 158 = .ok (.putfield 90, 3) := by decide +kernel
theorem dX11_init_161 : decode cX11_init 161 = .ok (.aload_n 0, 1) := by decide +kernel
theorem dX11_init_162 : decode cX11_init 162 = .ok (.bipush 6, 2) := by decide +kernel
theorem dX11_init_164 : decode cX11_init 164 = .ok (.newarray .int, 2) := by decide +kernel
theorem dX11_init_166 : decode cX11_init 166 = .ok (.putfield 94, 3) := by decide +kernel
theorem dX11_init_169 : decode cX11_init 169 = .ok (.aload_n 0, 1) := by decide +kernel
theorem dX11_init_170 : decode cX11_init 170 = .ok (.bipush 6, 2) := by decide +kernel
theorem dX11_init_172 : decode cX11_init 172 = .ok (.newarray .int, 2) := by decide +kernel
theorem dX11_init_174 : decode cX11_init 174 = .ok (.putfield 97, 3) := by decide +kernel
theorem dX11_init_177 : decode cX11_init 177 = .ok (.aload_n 0, 1) := by decide +kernel
theorem dX11_init_178 : decode cX11_init 178 = .ok (.iconst 0, 1) := by decide +kernel
theorem dX11_init_179 : decode cX11_init 179 = .ok (.putfield 100, 3) := by decide +kernel
theorem dX11_init_182 : decode cX11_init 182 = .ok (.aload_n 0, 1) := by decide +kernel
theorem dX11_init_183 : decode cX11_init 183 = .ok (.iconst (-1), 1) := by decide +kernel
theorem dX11_init_184 : decode cX11_init 184 = .ok (.putfield 104, 3) := by decide +kernel
theorem dX11_init_187 : decode cX11_init 187 = .ok (.aload_n 0, 1) := by decide +kernel
theorem dX11_init_188 : decode cX11_init 188 = .ok (.iconst 2, 1) := by decide +kernel
theorem dX11_init_189 : decode cX11_init 189 = .ok (.putfield 107, 3) := by decide +kernel
theorem dX11_init_192 : decode cX11_init 192 = .ok (.return_, 1) := by decide +kernel
theorem dX11_isRest_0 : decode cX11_isRest 0 = .ok (.aload_n 0, 1) := by decide +kernel
theorem dX11_isRest_1 : decode cX11_isRest 1 = .ok (.iload_n 1, 1) := by decide +kernel
theorem dX11_isRest_2 : decode cX11_isRest 2 = .ok (.iload_n 2, 1) := by decide +kernel
theorem dX11_isRest_3 : decode cX11_isRest 3 = .ok (.iload_n 3, 1) := by decide +kernel
theorem dX11_isRest_4 : decode cX11_isRest 4 = .ok (.iload 4, 2) := by decide +kernel
theorem dX11_isRest_6 : decode cX11_isRest 6 = .ok (.iconst 0, 1) := by decide +kernel
theorem dX11_isRest_7 : decode cX11_isRest 7 = .ok (.invokevirtual 358, 3) := by decide +kernel
theorem dX11_isRest_10 : decode cX11_isRest 10 = .ok (.aload_n 0, 1) := by decide +kernel
theorem dX11_isRest_11 : decode cX11_isRest 11 = .ok (.iload_n 1, 1) := by decide +kernel
theorem dX11_isRest_12 : decode cX11_isRest 12 = .ok (.iload_n 2, 1) := by decide +kernel
theorem dX11_isRest_13 : decode cX11_isRest 13 = .ok (.iconst 1, 1) := by decide +kernel
theorem dX11_isRest_14 : decode cX11_isRest 14 = .ok (.iload_n 3, 1) := by decide +kernel
theorem dX11_isRest_15 : decode cX11_isRest 15 = .ok (.isub, 1) := by decide +kernel
theorem dX11_isRest_16 : decode cX11_isRest 16 = .ok (.iload 4, 2) := by decide +kernel
theorem dX11_isRest_18 : decode cX11_isRest 18 = .ok (.iconst 0, 1) := by decide +kernel
theorem dX11_isRest_19 : decode cX11_isRest 19 = .ok (.invokevirtual 358, 3) := by decide +kernel
theorem dX11_isRest_22 : decode cX11_isRest 22 = .ok (.if_icmp .lt 32, 3) := by decide +kernel
theorem dX11_isRest_25 : decode cX11_isRest 25 = .ok (.aload_n 0, 1) := by decide +kernel
theorem dX11_isRest_26 : decode cX11_isRest 26 = .ok (.iload_n 1, 1) := by decide +kernel
theorem dX11_isRest_27 : decode cX11_isRest 27 = .ok (.iload_n 2, 1) := by decide +kernel
theorem dX11_isRest_28 : decode cX11_isRest 28 = .ok (.iload_n 3, 1) := by decide +kernel
theorem dX11_isRest_29 : decode cX11_isRest 29 = .ok (.iload 4, 2) := by decide +kernel
theorem dX11_isRest_31 : decode cX11_isRest 31 = .ok (.iconst 1, 1) := by decide +kernel
theorem dX11_isRest_32 : decode cX11_isRest 32 = .ok (.invokevirtual 358, 3) := by decide +kernel
theorem dX11_isRest_35 : decode cX11_isRest 35 = .ok (.aload_n 0, 1) := by decide +kernel
theorem dX11_isRest_36 : decode cX11_isRest 36 = .ok (.iload_n 1, 1) := by decide +kernel
theorem dX11_isRest_37 : decode cX11_isRest 37 = .ok (.iload_n 2, 1) := by decide +kernel
theorem dX11_isRest_38 : decode cX11_isRest 38 = .ok (.iload_n 3, 1) := by decide +kernel
theorem dX11_isRest_39 : decode cX11_isRest 39 = .ok (.iconst 1, 1) := by decide +kernel
theorem dX11_isRest_40 : decode cX11_isRest 40 = .ok (.iload 4, 2) := by decide +kernel
theorem dX11_isRest_42 : decode cX11_isRest 42 = .ok (.isub, 1) := by decide +kernel
theorem dX11_isRest_43 : decode cX11_isRest 43 = .ok (.iconst 1, 1) := by decide +kernel
theorem dX11_isRest_44 : decode cX11_isRest 44 = .ok (.invokevirtual 358, 3) := by decide +kernel
theorem dX11_isRest_47 : decode cX11_isRest 47 = .ok (.if_icmp .lt 7, 3) := by decide +kernel
theorem dX11_isRest_50 : decode cX11_isRest 50 = .ok (.iconst 1, 1) := by decide +kernel
theorem dX11_isRest_51 : decode cX11_isRest 51 = .ok (.goto 4, 3) := by decide +kernel
theorem dX11_isRest_54 : decode cX11_isRest 54 = .ok (.iconst 0, 1) := by decide +kernel
theorem dX11_isRest_55 : decode cX11_isRest 55 = .ok (.ireturn, 1) := by decide +kernel
theorem dX11_keep_0 : decode cX11_keep 0 = .ok (.aload_n 0, 1) := by decide +kernel
theorem dX11_keep_1 : decode cX11_keep 1 = .ok (.getfield 49, 3) := by decide +kernel
theorem dX11_keep_4 : decode cX11_keep 4 = .ok (.iload_n 1, 1) := by decide +kernel
theorem dX11_keep_5 : decode cX11_keep 5 = .ok (.invokevirtual 157, 3) := by decide +kernel
theorem dX11_keep_8 : decode cX11_keep 8 = .ok (.ifCond .ne 10, 3) := by decide +kernel
theorem dX11_keep_11 : decode cX11_keep 11 = .ok (.aload_n 0, 1) := by decide +kernel
theorem dX11_keep_12 : decode cX11_keep 12 = .ok (.iconst 0, 1) := by decide +kernel
theorem dX11_keep_13 : decode cX11_keep 13 = .ok (.iconst (-1), 1) := by decide +kernel
theorem dX11_keep_14 : decode cX11_keep 14 = .ok (.invokevirtual 225, 3) := by decide +kernel
theorem dX11_keep_17 : decode cX11_keep 17 = .ok (.ireturn, 1) := by decide +kernel
theorem dX11_keep_18 : decode cX11_keep 18 = .ok (.aload_n 0, 1) := by decide +kernel
theorem dX11_keep_19 : decode cX11_keep 19 = .ok (.getfield 69, 3) := by decide +kernel
theorem dX11_keep_22 : decode cX11_keep 22 = .ok (.aload_n 0, 1) := by decide +kernel
theorem dX11_keep_23 : decode cX11_keep 23 = .ok (.getfield 49, 3) := by decide +kernel
theorem dX11_keep_26 : decode cX11_keep 26 = .ok (.invokevirtual 238, 3) := by decide +kernel
theorem dX11_keep_29 : decode cX11_keep 29 = .ok (.aload_n 0, 1) := by decide +kernel
theorem dX11_keep_30 : decode cX11_keep 30 = .ok (.getfield 49, 3) := by decide +kernel
theorem dX11_keep_33 : decode cX11_keep 33 = .ok (.dup, 1) := by decide +kernel
theorem dX11_keep_34 : decode cX11_keep 34 = .ok (.getfield 264, 3) := by decide +kernel
theorem dX11_keep_37 : decode cX11_keep 37 = .ok (.iconst 1, 1) := by decide +kernel
theorem dX11_keep_38 : decode cX11_keep 38 = .ok (.iload_n 1, 1) := by decide +kernel
theorem dX11_keep_39 : decode cX11_keep 39 = .ok (.ishl, 1) := by decide +kernel
theorem dX11_keep_40 : decode cX11_keep 40 = .ok (.ixor, 1) := by decide +kernel
theorem dX11_keep_41 : decode cX11_keep 41 = .ok (.putfield 264, 3) := by decide +kernel
theorem dX11_keep_44 : decode cX11_keep 44 = .ok (.aload_n 0, 1) := by decide +kernel
theorem dX11_keep_45 : decode cX11_keep 45 = .ok (.getfield 49, 3) := by decide +kernel
theorem dX11_keep_48 : decode cX11_keep 48 = .ok (.iload_n 1, 1) := by decide +kernel
theorem dX11_keep_49 : decode cX11_keep 49 = .ok (.invokevirtual 174, 3) := by decide +kernel
theorem dX11_keep_52 : decode cX11_keep 52 = .ok (.ifCond .eq 7, 3) := by decide +kernel
theorem dX11_keep_55 : decode cX11_keep 55 = .ok (.iconst 1, 1) := by decide +kernel
theorem dX11_keep_56 : decode cX11_keep 56 = .ok (.goto 4, 3) := by decide +kernel
theorem dX11_keep_59 : decode cX11_keep 59 = .ok (.iconst 0, 1) := by decide +kernel
theorem dX11_keep_60 : decode cX11_keep 60 = .ok (.ireturn, 1) := by decide +kernel
theorem dX11_law_0 : decode cX11_law 0 = .ok (.iload_n 1, 1) := by decide +kernel
theorem dX11_law_1 : decode cX11_law 1 = .ok (.iconst (-1), 1) := by decide +kernel
theorem dX11_law_2 : decode cX11_law 2 = .ok (.if_icmp .eq 16, 3) := by decide +kernel
theorem dX11_law_5 : decode cX11_law 5 = .ok (.aload_n 0, 1) := by decide +kernel
theorem dX11_law_6 : decode cX11_law 6 = .ok (.getfield 39, 3) := by decide +kernel
theorem dX11_law_9 : decode cX11_law 9 = .ok (.iload_n 1, 1) := by decide +kernel
theorem dX11_law_10 : decode cX11_law 10 = .ok (.invokevirtual 221, 3) := by decide +kernel
theorem dX11_law_13 : decode cX11_law 13 = .ok (.ifCond .ne 5, 3) := by decide +kernel
theorem dX11_law_16 : decode cX11_law 16 = .ok (.iconst 0, 1) := by decide +kernel
theorem dX11_law_17 : decode cX11_law 17 = .ok (.ireturn, 1) := by decide +kernel
theorem dX11_law_18 : decode cX11_law 18 = .ok (.aload_n 0, 1) := by decide +kernel
theorem dX11_law_19 : decode cX11_law 19 = .ok (.iload_n 1, 1) := by decide +kernel
theorem dX11_law_20 : decode cX11_law 20 = .ok (.putfield 104, 3) := by decide +kernel
theorem dX11_law_23 : decode cX11_law 23 = .ok (.iconst 1, 1) := by decide +kernel
theorem dX11_law_24 : decode cX11_law 24 = .ok (.ireturn, 1) := by decide +kernel
theorem dX11_like_0 : decode cX11_like 0 = .ok (.aload_n 0, 1) := by decide +kernel
theorem dX11_like_1 : decode cX11_like 1 = .ok (.getfield 49, 3) := by decide +kernel
theorem dX11_like_4 : decode cX11_like 4 = .ok (.getfield 154, 3) := by decide +kernel
theorem dX11_like_7 : decode cX11_like 7 = .ok (.ifCond .eq 12, 3) := by decide +kernel
theorem dX11_like_10 : decode cX11_like 10 = .ok (.aload_n 0, 1) := by decide +kernel
theorem dX11_like_11 : decode cX11_like 11 = .ok (.iload_n 1, 1) := by decide +kernel
theorem dX11_like_12 : decode cX11_like 12 = .ok (.iconst 1, 1) := by decide +kernel
theorem dX11_like_13 : decode cX11_like 13 = .ok (.invokevirtual 294, 3) := by decide +kernel
theorem dX11_like_16 : decode cX11_like 16 = .ok (.ifCond .ne 5, 3) := by decide +kernel
theorem dX11_like_19 : decode cX11_like 19 = .ok (.iconst (-1), 1) := by decide +kernel
theorem dX11_like_20 : decode cX11_like 20 = .ok (.ireturn, 1) := by decide +kernel
theorem dX11_like_21 : decode cX11_like 21 = .ok (.aload_n 0, 1) := by decide +kernel
theorem dX11_like_22 : decode cX11_like 22 = .ok (.iconst 0, 1) := by decide +kernel
theorem dX11_like_23 : decode cX11_like 23 = .ok (.iconst 0, 1) := by decide +kernel
theorem dX11_like_24 : decode cX11_like 24 = .ok (.invokevirtual 308, 3) := by decide +kernel
theorem dX11_like_27 : decode cX11_like 27 = .ok (.ifCond .eq 7, 3) := by decide +kernel
theorem dX11_like_30 : decode cX11_like 30 = .ok (.iconst 1, 1) := by decide +kernel
theorem dX11_like_31 : decode cX11_like 31 = .ok (.goto 4, 3) := by decide +kernel
theorem dX11_like_34 : decode cX11_like 34 = .ok (.iconst 0, 1) := by decide +kernel
theorem dX11_like_35 : decode cX11_like 35 = .ok (.ireturn, 1) := by decide +kernel
theorem dX11_log_0 : decode cX11_log 0 = .ok (.iload_n 1, 1) := by decide +kernel
theorem dX11_log_1 : decode cX11_log 1 = .ok (.ifCond .lt 11, 3) := by decide +kernel
theorem dX11_log_4 : decode cX11_log 4 = .ok (.iload_n 1, 1) := by decide +kernel
theorem dX11_log_5 : decode cX11_log 5 = .ok (.aload_n 0, 1) := by decide +kernel
theorem dX11_log_6 : decode cX11_log 6 = .ok (.invokevirtual 289, 3) := by decide +kernel
theorem dX11_log_9 : decode cX11_log 9 = .ok (.if_icmp .lt 5, 3) := by decide +kernel
theorem dX11_log_12 : decode cX11_log 12 = .ok (.iconst (-1), 1) := by decide +kernel
theorem dX11_log_13 : decode cX11_log 13 = .ok (.ireturn, 1) := by decide +kernel
theorem dX11_log_14 : decode cX11_log 14 = .ok (.aload_n 0, 1) := by decide +kernel
theorem dX11_log_15 : decode cX11_log 15 = .ok (.getfield 62, 3) := by decide +kernel
theorem dX11_log_18 : decode cX11_log 18 = .ok (.aload_n 0, 1) := by decide +kernel
theorem dX11_log_19 : decode cX11_log 19 = .ok (.getfield 49, 3) := by decide +kernel
theorem dX11_log_22 : decode cX11_log 22 = .ok (.getfield 195, 3) := by decide +kernel
theorem dX11_log_25 : decode cX11_log 25 = .ok (.iload_n 1, 1) := by decide +kernel
theorem dX11_log_26 : decode cX11_log 26 = .ok (.isub, 1) := by decide +kernel
theorem dX11_log_27 : decode cX11_log 27 = .ok (.iload_n 2, 1) := by decide +kernel
theorem dX11_log_28 : decode cX11_log 28 = .ok (.invokevirtual 292, 3) := by decide +kernel
theorem dX11_log_31 : decode cX11_log 31 = .ok (.ireturn, 1) := by decide +kernel
theorem dX11_odds_0 : decode cX11_odds 0 = .ok (.aload_n 0, 1) := by decide +kernel
theorem dX11_odds_1 : decode cX11_odds 1 = .ok (.getfield 43, 3) := by decide +kernel
theorem dX11_odds_4 : decode cX11_odds 4 = .ok (.iload_n 1, 1) := by decide +kernel
theorem dX11_odds_5 : decode cX11_odds 5 = .ok (.invokevirtual 221, 3) := by decide +kernel
theorem dX11_odds_8 : decode cX11_odds 8 = .ok (.ifCond .eq 23, 3) := by decide +kernel
theorem dX11_odds_11 : decode cX11_odds 11 = .ok (.aload_n 0, 1) := by decide +kernel
theorem dX11_odds_12 : decode cX11_odds 12 = .ok (.getfield 49, 3) := by decide +kernel
theorem dX11_odds_15 : decode cX11_odds 15 = .ok (.getfield 154, 3) := by decide +kernel
theorem dX11_odds_18 : decode cX11_odds 18 = .ok (.ifCond .eq 13, 3) := by decide +kernel
theorem dX11_odds_21 : decode cX11_odds 21 = .ok (.iload_n 2, 1) := by decide +kernel
theorem dX11_odds_22 : decode cX11_odds 22 = .ok (.ifCond .lt 9, 3) := by decide +kernel
theorem dX11_odds_25 : decode cX11_odds 25 = .ok (.iload_n 2, 1) := by decide +kernel
theorem dX11_odds_26 : decode cX11_odds 26 = .ok (.bipush 100, 2) := by decide +kernel
theorem dX11_odds_28 : decode cX11_odds 28 = .ok (.if_icmp .le 5, 3) := by decide +kernel
theorem dX11_odds_31 : decode cX11_odds 31 = .ok (.iconst (-1), 1) := by decide +kernel
theorem dX11_odds_32 : decode cX11_odds 32 = .ok (.ireturn, 1) := by decide +kernel
theorem dX11_odds_33 : decode cX11_odds 33 = .ok (.aload_n 0, 1) := by decide +kernel
theorem dX11_odds_34 : decode cX11_odds 34 = .ok (.getfield 43, 3) := by decide +kernel
theorem dX11_odds_37 : decode cX11_odds 37 = .ok (.getfield 202, 3) := by decide +kernel
theorem dX11_odds_40 : decode cX11_odds 40 = .ok (.iload_n 1, 1) := by decide +kernel
theorem dX11_odds_41 : decode cX11_odds 41 = .ok (.iaload, 1) := by decide +kernel
theorem dX11_odds_42 : decode cX11_odds 42 = .ok (.bipush 8, 2) := by decide +kernel
theorem dX11_odds_44 : decode cX11_odds 44 = .ok (.if_icmp .le 5, 3) := by decide +kernel
theorem dX11_odds_47 : decode cX11_odds 47 = .ok (.iconst (-1), 1) := by decide +kernel
theorem dX11_odds_48 : decode cX11_odds 48 = .ok (.ireturn, 1) := by decide +kernel
theorem dX11_odds_49 : decode cX11_odds 49 = .ok (.aload_n 0, 1) := by decide +kernel
theorem dX11_odds_50 : decode cX11_odds 50 = .ok (.getfield 90, 3) := by decide +kernel
theorem dX11_odds_53 : decode cX11_odds 53 = .ok (.aload_n 0, 1) := by decide +kernel
theorem dX11_odds_54 : decode cX11_odds 54 = .ok (.getfield 49, 3) := by decide +kernel
theorem dX11_odds_57 : decode cX11_odds 57 = .ok (.aload_n 0, 1) := by decide +kernel
theorem dX11_odds_58 : decode cX11_odds 58 = .ok (.getfield 43, 3) := by decide +kernel
theorem dX11_odds_61 : decode cX11_odds 61 = .ok (.getfield 198, 3) := by decide +kernel
theorem dX11_odds_64 : decode cX11_odds 64 = .ok (.iload_n 1, 1) := by decide +kernel
theorem dX11_odds_65 : decode cX11_odds 65 = .ok (.aaload, 1) := by decide +kernel
theorem dX11_odds_66 : decode cX11_odds 66 = .ok (.aload_n 0, 1) := by decide +kernel
theorem dX11_odds_67 : decode cX11_odds 67 = .ok (.getfield 43, 3) := by decide +kernel
theorem dX11_odds_70 : decode cX11_odds 70 = .ok (.getfield 202, 3) := by decide +kernel
theorem dX11_odds_73 : decode cX11_odds 73 = .ok (.iload_n 1, 1) := by decide +kernel
theorem dX11_odds_74 : decode cX11_odds 74 = .ok (.iaload, 1) := by decide +kernel
theorem dX11_odds_75 : decode cX11_odds 75 = .ok (.iload_n 2, 1) := by decide +kernel
theorem dX11_odds_76 : decode cX11_odds 76 = .ok (.invokevirtual 362, 3) := by decide +kernel
theorem dX11_odds_79 : decode cX11_odds 79 = .ok (.ireturn, 1) := by decide +kernel
theorem dX11_owes_0 : decode cX11_owes 0 = .ok (.aload_n 0, 1) := by decide +kernel
theorem dX11_owes_1 : decode cX11_owes 1 = .ok (.getfield 49, 3) := by decide +kernel
theorem dX11_owes_4 : decode cX11_owes 4 = .ok (.iload_n 1, 1) := by decide +kernel
theorem dX11_owes_5 : decode cX11_owes 5 = .ok (.invokevirtual 157, 3) := by decide +kernel
theorem dX11_owes_8 : decode cX11_owes 8 = .ok (.ifCond .eq 26, 3) := by decide +kernel
theorem dX11_owes_11 : decode cX11_owes 11 = .ok (.aload_n 0, 1) := by decide +kernel
theorem dX11_owes_12 : decode cX11_owes 12 = .ok (.getfield 49, 3) := by decide +kernel
theorem dX11_owes_15 : decode cX11_owes 15 = .ok (.iload_n 2, 1) := by decide +kernel
theorem dX11_owes_16 : decode cX11_owes 16 = .ok (.invokevirtual 157, 3) := by decide +kernel
theorem dX11_owes_19 : decode cX11_owes 19 = .ok (.ifCond .eq 15, 3) := by decide +kernel
theorem dX11_owes_22 : decode cX11_owes 22 = .ok (.aload_n 0, 1) := by decide +kernel
theorem dX11_owes_23 : decode cX11_owes 23 = .ok (.getfield 49, 3) := by decide +kernel
theorem dX11_owes_26 : decode cX11_owes 26 = .ok (.iload_n 1, 1) := by decide +kernel
theorem dX11_owes_27 : decode cX11_owes 27 = .ok (.iload_n 2, 1) := by decide +kernel
theorem dX11_owes_28 : decode cX11_owes 28 = .ok (.invokevirtual 217, 3) := by decide +kernel
theorem dX11_owes_31 : decode cX11_owes 31 = .ok (.goto 5, 3) := by decide +kernel
theorem dX11_owes_34 : decode cX11_owes 34 = .ok (.ldc 220, 2) := by decide +kernel
theorem dX11_owes_36 : decode cX11_owes 36 = .ok (.ireturn, 1) := by decide +kernel
theorem dX11_stir_0 : decode cX11_stir 0 = .ok (.lload_n 0, 1) := by decide +kernel
theorem dX11_stir_1 : decode cX11_stir 1 = .ok (.ldc2_w 278, 3) := by decide +kernel
theorem dX11_stir_4 : decode cX11_stir 4 = .ok (.lmul, 1) := by decide +kernel
theorem dX11_stir_5 : decode cX11_stir 5 = .ok (.ldc2_w 280, 3) := by decide +kernel
theorem dX11_stir_8 : decode cX11_stir 8 = .ok (.ladd, 1) := by decide +kernel
theorem dX11_stir_9 : decode cX11_stir 9 = .ok (.lreturn, 1) := by decide +kernel
theorem dX11_pass_0 : decode cX11_pass 0 = .ok (.aload_n 0, 1) := by decide +kernel
theorem dX11_pass_1 : decode cX11_pass 1 = .ok (.getfield 69, 3) := by decide +kernel
theorem dX11_pass_4 : decode cX11_pass 4 = .ok (.aload_n 0, 1) := by decide +kernel
theorem dX11_pass_5 : decode cX11_pass 5 = .ok (.getfield 49, 3) := by decide +kernel
theorem dX11_pass_8 : decode cX11_pass 8 = .ok (.invokevirtual 238, 3) := by decide +kernel
theorem dX11_pass_11 : decode cX11_pass 11 = .ok (.lload_n 1, 1) := by decide +kernel
theorem dX11_pass_12 : decode cX11_pass 12 = .ok (.invokestatic 271, 3) := by decide +kernel
theorem dX11_pass_15 : decode cX11_pass 15 = .ok (.lstore_n 3, 1) := by decide +kernel
theorem dX11_pass_16 : decode cX11_pass 16 = .ok (.lload_n 3, 1) := by decide +kernel
theorem dX11_pass_17 : decode cX11_pass 17 = .ok (.aload_n 0, 1) := by decide +kernel
theorem dX11_pass_18 : decode cX11_pass 18 = .ok (.getfield 49, 3) := by decide +kernel
theorem dX11_pass_21 : decode cX11_pass 21 = .ok (.getfield 154, 3) := by decide +kernel
theorem dX11_pass_24 : decode cX11_pass 24 = .ok (.invokestatic 274, 3) := by decide +kernel
theorem dX11_pass_27 : decode cX11_pass 27 = .ok (.istore 5, 2) := by decide +kernel
theorem dX11_pass_29 : decode cX11_pass 29 = .ok (.aload_n 0, 1) := by decide +kernel
theorem dX11_pass_30 : decode cX11_pass 30 = .ok (.getfield 49, 3) := by decide +kernel
theorem dX11_pass_33 : decode cX11_pass 33 = .ok (.iload 5, 2) := by decide +kernel
theorem dX11_pass_35 : decode cX11_pass 35 = .ok (.invokevirtual 232, 3) := by decide +kernel
theorem dX11_pass_38 : decode cX11_pass 38 = .ok (.ifCond .eq 9, 3) := by decide +kernel
theorem dX11_pass_41 : decode cX11_pass 41 = .ok (.aload_n 0, 1) := by decide +kernel
theorem dX11_pass_42 : decode cX11_pass 42 = .ok (.iload 5, 2) := by decide +kernel
theorem dX11_pass_44 : decode cX11_pass 44 = .ok (.invokevirtual 241, 3) := by decide +kernel
theorem dX11_pass_47 : decode cX11_pass 47 = .ok (.lload_n 3, 1) := by decide +kernel
theorem dX11_pass_48 : decode cX11_pass 48 = .ok (.invokestatic 271, 3) := by decide +kernel
theorem dX11_pass_51 : decode cX11_pass 51 = .ok (.lstore_n 3, 1) := by decide +kernel
theorem dX11_pass_52 : decode cX11_pass 52 = .ok (.lload_n 3, 1) := by decide +kernel
theorem dX11_pass_53 : decode cX11_pass 53 = .ok (.bipush 10, 2) := by decide +kernel
theorem dX11_pass_55 : decode cX11_pass 55 = .ok (.invokestatic 274, 3) := by decide +kernel
theorem dX11_pass_58 : decode cX11_pass 58 = .ok (.aload_n 0, 1) := by decide +kernel
theorem dX11_pass_59 : decode cX11_pass 59 = .ok (.getfield 107, 3) := by decide +kernel
theorem dX11_pass_62 : decode cX11_pass 62 = .ok (.if_icmp .ge 51, 3) := by decide +kernel
theorem dX11_pass_65 : decode cX11_pass 65 = .ok (.lload_n 3, 1) := by decide +kernel
theorem dX11_pass_66 : decode cX11_pass 66 = .ok (.invokestatic 271, 3) := by decide +kernel
theorem dX11_pass_69 : decode cX11_pass 69 = .ok (.lstore_n 3, 1) := by decide +kernel
theorem dX11_pass_70 : decode cX11_pass 70 = .ok (.lload_n 3, 1) := by decide +kernel
theorem dX11_pass_71 : decode cX11_pass 71 = .ok (.aload_n 0, 1) := by decide +kernel
theorem dX11_pass_72 : decode cX11_pass 72 = .ok (.getfield 49, 3) := by decide +kernel
theorem dX11_pass_75 : decode cX11_pass 75 = .ok (.getfield 154, 3) := by decide +kernel
theorem dX11_pass_78 : decode cX11_pass 78 = .ok (.invokestatic 274, 3) := by decide +kernel
theorem dX11_pass_81 : decode cX11_pass 81 = .ok (.istore 6, 2) := by decide +kernel
theorem dX11_pass_83 : decode cX11_pass 83 = .ok (.lload_n 3, 1) := by decide +kernel
theorem dX11_pass_84 : decode cX11_pass 84 = .ok (.invokestatic 271, 3) := by decide +kernel
theorem dX11_pass_87 : decode cX11_pass 87 = .ok (.lstore_n 3, 1) := by decide +kernel
theorem dX11_pass_88 : decode cX11_pass 88 = .ok (.lload_n 3, 1) := by decide +kernel
theorem dX11_pass_89 : decode cX11_pass 89 = .ok (.aload_n 0, 1) := by decide +kernel
theorem dX11_pass_90 : decode cX11_pass 90 = .ok (.getfield 49, 3) := by decide +kernel
theorem dX11_pass_93 : decode cX11_pass 93 = .ok (.getfield 154, 3) := by decide +kernel
theorem dX11_pass_96 : decode cX11_pass 96 = .ok (.invokestatic 274, 3) := by decide +kernel
theorem dX11_pass_99 : decode cX11_pass 99 = .ok (.istore 7, 2) := by decide +kernel
theorem dX11_pass_101 : decode cX11_pass 101 = .ok (.aload_n 0, 1) := by decide +kernel
theorem dX11_pass_102 : decode cX11_pass 102 = .ok (.getfield 49, 3) := by decide +kernel
theorem dX11_pass_105 : decode cX11_pass 105 = .ok (.iload 6, 2) := by decide +kernel
theorem dX11_pass_107 : decode cX11_pass 107 = .ok (.iload 7, 2) := by decide +kernel
theorem dX11_pass_109 : decode cX11_pass 109 = .ok (.iconst 0, 1) := by decide +kernel
theorem dX11_pass_110 : decode cX11_pass 110 = .ok (.invokevirtual 260, 3) := by decide +kernel
theorem dX11_pass_113 : decode cX11_pass 113 = .ok (.lload_n 3, 1) := by decide +kernel
theorem dX11_pass_114 : decode cX11_pass 114 = .ok (.lreturn, 1) := by decide +kernel
theorem dX11_reach_0 : decode cX11_reach 0 = .ok (.aload_n 0, 1) := by decide +kernel
theorem dX11_reach_1 : decode cX11_reach 1 = .ok (.getfield 49, 3) := by decide +kernel
theorem dX11_reach_4 : decode cX11_reach 4 = .ok (.getfield 154, 3) := by decide +kernel
theorem dX11_reach_7 : decode cX11_reach 7 = .ok (.ifCond .eq 12, 3) := by decide +kernel
theorem dX11_reach_10 : decode cX11_reach 10 = .ok (.iload_n 1, 1) := by decide +kernel
theorem dX11_reach_11 : decode cX11_reach 11 = .ok (.ifCond .lt 8, 3) := by decide +kernel
theorem dX11_reach_14 : decode cX11_reach 14 = .ok (.iload_n 1, 1) := by decide +kernel
theorem dX11_reach_15 : decode cX11_reach 15 = .ok (.iconst 4, 1) := by decide +kernel
theorem dX11_reach_16 : decode cX11_reach 16 = .ok (.if_icmp .le 5, 3) := by decide +kernel
theorem dX11_reach_19 : decode cX11_reach 19 = .ok (.iconst (-1), 1) := by decide +kernel
theorem dX11_reach_20 : decode cX11_reach 20 = .ok (.ireturn, 1) := by decide +kernel
theorem dX11_reach_21 : decode cX11_reach 21 = .ok (.aload_n 0, 1) := by decide +kernel
theorem dX11_reach_22 : decode cX11_reach 22 = .ok (.getfield 83, 3) := by decide +kernel
theorem dX11_reach_25 : decode cX11_reach 25 = .ok (.aload_n 0, 1) := by decide +kernel
theorem dX11_reach_26 : decode cX11_reach 26 = .ok (.getfield 49, 3) := by decide +kernel
theorem dX11_reach_29 : decode cX11_reach 29 = .ok (.iload_n 1, 1) := by decide +kernel
theorem dX11_reach_30 : decode cX11_reach 30 = .ok (.iconst 0, 1) := by decide +kernel
theorem dX11_reach_31 : decode cX11_reach 31 = .ok (.invokevirtual 314, 3) := by decide +kernel
theorem dX11_reach_34 : decode cX11_reach 34 = .ok (.aload_n 0, 1) := by decide +kernel
theorem dX11_reach_35 : decode cX11_reach 35 = .ok (.getfield 83, 3) := by decide +kernel
theorem dX11_reach_38 : decode cX11_reach 38 = .ok (.getfield 318, 3) := by decide +kernel
theorem dX11_reach_41 : decode cX11_reach 41 = .ok (.ireturn, 1) := by decide +kernel
theorem dX11_rests_0 : decode cX11_rests 0 = .ok (.aload_n 0, 1) := by decide +kernel
theorem dX11_rests_1 : decode cX11_rests 1 = .ok (.getfield 49, 3) := by decide +kernel
theorem dX11_rests_4 : decode cX11_rests 4 = .ok (.iload_n 1, 1) := by decide +kernel
theorem dX11_rests_5 : decode cX11_rests 5 = .ok (.invokevirtual 157, 3) := by decide +kernel
theorem dX11_rests_8 : decode cX11_rests 8 = .ok (.ifCond .eq 19, 3) := by decide +kernel
theorem dX11_rests_11 : decode cX11_rests 11 = .ok (.aload_n 0, 1) := by decide +kernel
theorem dX11_rests_12 : decode cX11_rests 12 = .ok (.getfield 49, 3) := by decide +kernel
theorem dX11_rests_15 : decode cX11_rests 15 = .ok (.iload_n 2, 1) := by decide +kernel
theorem dX11_rests_16 : decode cX11_rests 16 = .ok (.invokevirtual 157, 3) := by decide +kernel
theorem dX11_rests_19 : decode cX11_rests 19 = .ok (.ifCond .eq 8, 3) := by decide +kernel
theorem dX11_rests_22 : decode cX11_rests 22 = .ok (.iload_n 1, 1) := by decide +kernel
theorem dX11_rests_23 : decode cX11_rests 23 = .ok (.iload_n 2, 1) := by decide +kernel
theorem dX11_rests_24 : decode cX11_rests 24 = .ok (.if_icmp .ne 5, 3) := by decide +kernel
theorem dX11_rests_27 : decode cX11_rests 27 = .ok (.iconst (-1), 1) := by decide +kernel
theorem dX11_rests_28 : decode cX11_rests 28 = .ok (.ireturn, 1) := by decide +kernel
theorem dX11_rests_29 : decode cX11_rests 29 = .ok (.iconst 0, 1) := by decide +kernel
theorem dX11_rests_30 : decode cX11_rests 30 = .ok (.istore 4, 2) := by decide +kernel
theorem dX11_rests_32 : decode cX11_rests 32 = .ok (.iconst 0, 1) := by decide +kernel
theorem dX11_rests_33 : decode cX11_rests 33 = .ok (.istore 5, 2) := by decide +kernel
theorem dX11_rests_35 : decode cX11_rests 35 = .ok (.iload 5, 2) := by decide +kernel
theorem dX11_rests_37 : decode cX11_rests 37 = .ok (.iconst 4, 1) := by decide +kernel
theorem dX11_rests_38 : decode cX11_rests 38 = .ok (.if_icmp .ge 52, 3) := by decide +kernel
theorem dX11_rests_41 : decode cX11_rests 41 = .ok (.iload 5, 2) := by decide +kernel
theorem dX11_rests_43 : decode cX11_rests 43 = .ok (.iconst 2, 1) := by decide +kernel
theorem dX11_rests_44 : decode cX11_rests 44 = .ok (.idiv, 1) := by decide +kernel
theorem dX11_rests_45 : decode cX11_rests 45 = .ok (.istore 6, 2) := by decide +kernel
theorem dX11_rests_47 : decode cX11_rests 47 = .ok (.iload 5, 2) := by decide +kernel
theorem dX11_rests_49 : decode cX11_rests 49 = .ok (.iconst 2, 1) := by decide +kernel
theorem dX11_rests_50 : decode cX11_rests 50 = .ok (.irem, 1) := by decide +kernel
theorem dX11_rests_51 : decode cX11_rests 51 = .ok (.istore 7, 2) := by decide +kernel
theorem dX11_rests_53 : decode cX11_rests 53 = .ok (.aload_n 0, 1) := by decide +kernel
theorem dX11_rests_54 : decode cX11_rests 54 = .ok (.iload_n 1, 1) := by decide +kernel
theorem dX11_rests_55 : decode cX11_rests 55 = .ok (.iload_n 2, 1) := by decide +kernel
theorem dX11_rests_56 : decode cX11_rests 56 = .ok (.iload 6, 2) := by decide +kernel
theorem dX11_rests_58 : decode cX11_rests 58 = .ok (.iload 7, 2) := by decide +kernel
theorem dX11_rests_60 : decode cX11_rests 60 = .ok (.invokevirtual 354, 3) := by decide +kernel
theorem dX11_rests_63 : decode cX11_rests 63 = .ok (.ifCond .eq 21, 3) := by decide +kernel
theorem dX11_rests_66 : decode cX11_rests 66 = .ok (.iload 4, 2) := by decide +kernel
theorem dX11_rests_68 : decode cX11_rests 68 = .ok (.iload_n 3, 1) := by decide +kernel
theorem dX11_rests_69 : decode cX11_rests 69 = .ok (.if_icmp .ne 12, 3) := by decide +kernel
theorem dX11_rests_72 : decode cX11_rests 72 = .ok (.bipush 10, 2) := by decide +kernel
theorem dX11_rests_74 : decode cX11_rests 74 = .ok (.iload 6, 2) := by decide +kernel
theorem dX11_rests_76 : decode cX11_rests 76 = .ok (.imul, 1) := by decide +kernel
theorem dX11_rests_77 : decode cX11_rests 77 = .ok (.iload 7, 2) := by decide +kernel
theorem dX11_rests_79 : decode cX11_rests 79 = .ok (.iadd, 1) := by decide +kernel
theorem dX11_rests_80 : decode cX11_rests 80 = .ok (.ireturn, 1) := by decide +kernel
theorem dX11_rests_81 : decode cX11_rests 81 = .ok (.iinc 4 1, 3) := by decide +kernel
theorem dX11_rests_84 : decode cX11_rests 84 = .ok (.iinc 5 1, 3) := by decide +kernel
theorem dX11_rests_87 : decode cX11_rests 87 = .ok (.goto (-52), 3) := by decide +kernel
theorem dX11_rests_90 : decode cX11_rests 90 = .ok (.iload_n 3, 1) := by decide +kernel
theorem dX11_rests_91 : decode cX11_rests 91 = .ok (.iconst (-1), 1) := by decide +kernel
theorem dX11_rests_92 : decode cX11_rests 92 = .ok (.if_icmp .ne 8, 3) := by decide +kernel
theorem dX11_rests_95 : decode cX11_rests 95 = .ok (.iload 4, 2) := by decide +kernel
theorem dX11_rests_97 : decode cX11_rests 97 = .ok (.goto 4, 3) := by decide +kernel
theorem dX11_rests_100 : decode cX11_rests 100 = .ok (.iconst (-1), 1) := by decide +kernel
theorem dX11_rests_101 : decode cX11_rests 101 = .ok (.ireturn, 1) := by decide +kernel
theorem dX11_ring_0 : decode cX11_ring 0 = .ok (.iconst (-1), 1) := by decide +kernel
theorem dX11_ring_1 : decode cX11_ring 1 = .ok (.istore_n 1, 1) := by decide +kernel
theorem dX11_ring_2 : decode cX11_ring 2 = .ok (.iconst 0, 1) := by decide +kernel
theorem dX11_ring_3 : decode cX11_ring 3 = .ok (.istore_n 2, 1) := by decide +kernel
theorem dX11_ring_4 : decode cX11_ring 4 = .ok (.iload_n 2, 1) := by decide +kernel
theorem dX11_ring_5 : decode cX11_ring 5 = .ok (.aload_n 0, 1) := by decide +kernel
theorem dX11_ring_6 : decode cX11_ring 6 = .ok (.getfield 49, 3) := by decide +kernel
theorem dX11_ring_9 : decode cX11_ring 9 = .ok (.getfield 154, 3) := by decide +kernel
theorem dX11_ring_12 : decode cX11_ring 12 = .ok (.if_icmp .ge 36, 3) := by decide +kernel
theorem dX11_ring_15 : decode cX11_ring 15 = .ok (.aload_n 0, 1) := by decide +kernel
theorem dX11_ring_16 : decode cX11_ring 16 = .ok (.getfield 49, 3) := by decide +kernel
theorem dX11_ring_19 : decode cX11_ring 19 = .ok (.iload_n 2, 1) := by decide +kernel
theorem dX11_ring_20 : decode cX11_ring 20 = .ok (.iload_n 2, 1) := by decide +kernel
theorem dX11_ring_21 : decode cX11_ring 21 = .ok (.invokevirtual 330, 3) := by decide +kernel
theorem dX11_ring_24 : decode cX11_ring 24 = .ok (.istore_n 3, 1) := by decide +kernel
theorem dX11_ring_25 : decode cX11_ring 25 = .ok (.iload_n 3, 1) := by decide +kernel
theorem dX11_ring_26 : decode cX11_ring 26 = .ok (.iconst (-1), 1) := by decide +kernel
theorem dX11_ring_27 : decode cX11_ring 27 = .ok (.if_icmp .eq 15, 3) := by decide +kernel
theorem dX11_ring_30 : decode cX11_ring 30 = .ok (.iload_n 1, 1) := by decide +kernel
theorem dX11_ring_31 : decode cX11_ring 31 = .ok (.iconst (-1), 1) := by decide +kernel
theorem dX11_ring_32 : decode cX11_ring 32 = .ok (.if_icmp .eq 8, 3) := by decide +kernel
theorem dX11_ring_35 : decode cX11_ring 35 = .ok (.iload_n 3, 1) := by decide +kernel
theorem dX11_ring_36 : decode cX11_ring 36 = .ok (.iload_n 1, 1) := by decide +kernel
theorem dX11_ring_37 : decode cX11_ring 37 = .ok (.if_icmp .ge 5, 3) := by decide +kernel
theorem dX11_ring_40 : decode cX11_ring 40 = .ok (.iload_n 3, 1) := by decide +kernel
theorem dX11_ring_41 : decode cX11_ring 41 = .ok (.istore_n 1, 1) := by decide +kernel
theorem dX11_ring_42 : decode cX11_ring 42 = .ok (.iinc 2 1, 3) := by decide +kernel
theorem dX11_ring_45 : decode cX11_ring 45 = .ok (.goto (-41), 3) := by decide +kernel
theorem dX11_ring_48 : decode cX11_ring 48 = .ok (.iload_n 1, 1) := by decide +kernel
theorem dX11_ring_49 : decode cX11_ring 49 = .ok (.ireturn, 1) := by decide +kernel
theorem dX11_seen_0 : decode cX11_seen 0 = .ok (.aload_n 0, 1) := by decide +kernel
theorem dX11_seen_1 : decode cX11_seen 1 = .ok (.getfield 49, 3) := by decide +kernel
theorem dX11_seen_4 : decode cX11_seen 4 = .ok (.iload_n 1, 1) := by decide +kernel
theorem dX11_seen_5 : decode cX11_seen 5 = .ok (.invokevirtual 157, 3) := by decide +kernel
theorem dX11_seen_8 : decode cX11_seen 8 = .ok (.ifCond .eq 19, 3) := by decide +kernel
theorem dX11_seen_11 : decode cX11_seen 11 = .ok (.aload_n 0, 1) := by decide +kernel
theorem dX11_seen_12 : decode cX11_seen 12 = .ok (.getfield 49, 3) := by decide +kernel
theorem dX11_seen_15 : decode cX11_seen 15 = .ok (.iload_n 2, 1) := by decide +kernel
theorem dX11_seen_16 : decode cX11_seen 16 = .ok (.invokevirtual 157, 3) := by decide +kernel
