theorem dX8_see_25 : decode cX8_see 25 = .ok (.ireturn, 1) := by decide +kernel
theorem dX8_see_26 : decode cX8_see 26 = .ok (.aload_n 0, 1) := by decide +kernel
theorem dX8_see_27 : decode cX8_see 27 = .ok (.getfield 67, 3) := by decide +kernel
theorem dX8_see_30 : decode cX8_see 30 = .ok (.iload_n 1, 1) := by decide +kernel
theorem dX8_see_31 : decode cX8_see 31 = .ok (.iload_n 2, 1) := by decide +kernel
theorem dX8_see_32 : decode cX8_see 32 = .ok (.iload_n 3, 1) := by decide +kernel
theorem dX8_see_33 : decode cX8_see 33 = .ok (.invokevirtual 239, 3) := by decide +kernel
theorem dX8_see_36 : decode cX8_see 36 = .ok (.ifCond .eq 13, 3) := by decide +kernel
theorem dX8_see_39 : decode cX8_see 39 = .ok (.aload_n 0, 1) := by decide +kernel
theorem dX8_see_40 : decode cX8_see 40 = .ok (.getfield 67, 3) := by decide +kernel
theorem dX8_see_43 : decode cX8_see 43 = .ok (.getfield 125, 3) := by decide +kernel
theorem dX8_see_46 : decode cX8_see 46 = .ok (.goto 5, 3) := by decide +kernel
theorem dX8_see_49 : decode cX8_see 49 = .ok (.bipush (-4), 2) := by decide +kernel
theorem dX8_see_51 : decode cX8_see 51 = .ok (.ireturn, 1) := by decide +kernel
theorem dX8_unsee_0 : decode cX8_unsee 0 = .ok (.aload_n 0, 1) := by decide +kernel
theorem dX8_unsee_1 : decode cX8_unsee 1 = .ok (.getfield 67, 3) := by decide +kernel
theorem dX8_unsee_4 : decode cX8_unsee 4 = .ok (.getfield 125, 3) := by decide +kernel
theorem dX8_unsee_7 : decode cX8_unsee 7 = .ok (.istore_n 1, 1) := by decide +kernel
theorem dX8_unsee_8 : decode cX8_unsee 8 = .ok (.aload_n 0, 1) := by decide +kernel
theorem dX8_unsee_9 : decode cX8_unsee 9 = .ok (.getfield 67, 3) := by decide +kernel
theorem dX8_unsee_12 : decode cX8_unsee 12 = .ok (.iconst 0, 1) := by decide +kernel
theorem dX8_unsee_13 : decode cX8_unsee 13 = .ok (.putfield 125, 3) := by decide +kernel
theorem dX8_unsee_16 : decode cX8_unsee 16 = .ok (.iload_n 1, 1) := by decide +kernel
theorem dX8_unsee_17 : decode cX8_unsee 17 = .ok (.ireturn, 1) := by decide +kernel
theorem dX8_stands_0 : decode cX8_stands 0 = .ok (.iconst 0, 1) := by decide +kernel
theorem dX8_stands_1 : decode cX8_stands 1 = .ok (.istore_n 1, 1) := by decide +kernel
theorem dX8_stands_2 : decode cX8_stands 2 = .ok (.iconst 0, 1) := by decide +kernel
theorem dX8_stands_3 : decode cX8_stands 3 = .ok (.istore_n 2, 1) := by decide +kernel
theorem dX8_stands_4 : decode cX8_stands 4 = .ok (.iload_n 2, 1) := by decide +kernel
theorem dX8_stands_5 : decode cX8_stands 5 = .ok (.aload_n 0, 1) := by decide +kernel
theorem dX8_stands_6 : decode cX8_stands 6 = .ok (.getfield 19, 3) := by decide +kernel
theorem dX8_stands_9 : decode cX8_stands 9 = .ok (.getfield 204, 3) := by decide +kernel
theorem dX8_stands_12 : decode cX8_stands 12 = .ok (.if_icmp .ge 30, 3) := by decide +kernel
theorem dX8_stands_15 : decode cX8_stands 15 = .ok (.aload_n 0, 1) := by decide +kernel
theorem dX8_stands_16 : decode cX8_stands 16 = .ok (.getfield 67, 3) := by decide +kernel
theorem dX8_stands_19 : decode cX8_stands 19 = .ok (.aload_n 0, 1) := by decide +kernel
theorem dX8_stands_20 : decode cX8_stands 20 = .ok (.getfield 28, 3) := by decide +kernel
theorem dX8_stands_23 : decode cX8_stands 23 = .ok (.iload_n 2, 1) := by decide +kernel
theorem dX8_stands_24 : decode cX8_stands 24 = .ok (.invokevirtual 241, 3) := by decide +kernel
theorem dX8_stands_27 : decode cX8_stands 27 = .ok (.ifCond .eq 9, 3) := by decide +kernel
theorem dX8_stands_30 : decode cX8_stands 30 = .ok (.iload_n 1, 1) := by decide +kernel
theorem dX8_stands_31 : decode cX8_stands 31 = .ok (.iconst 1, 1) := by decide +kernel
theorem dX8_stands_32 : decode cX8_stands 32 = .ok (.iload_n 2, 1) := by decide +kernel
theorem dX8_stands_33 : decode cX8_stands 33 = .ok (.ishl, 1) := by decide +kernel
theorem dX8_stands_34 : decode cX8_stands 34 = .ok (.ior, 1) := by decide +kernel
theorem dX8_stands_35 : decode cX8_stands 35 = .ok (.istore_n 1, 1) := by decide +kernel
theorem dX8_stands_36 : decode cX8_stands 36 = .ok (.iinc 2 1, 3) := by decide +kernel
theorem dX8_stands_39 : decode cX8_stands 39 = .ok (.goto (-35), 3) := by decide +kernel
theorem dX8_stands_42 : decode cX8_stands 42 = .ok (.iload_n 1, 1) := by decide +kernel
theorem dX8_stands_43 : decode cX8_stands 43 = .ok (.ireturn, 1) := by decide +kernel
theorem dX8_rests_0 : decode cX8_rests 0 = .ok (.aload_n 0, 1) := by decide +kernel
theorem dX8_rests_1 : decode cX8_rests 1 = .ok (.getfield 19, 3) := by decide +kernel
theorem dX8_rests_4 : decode cX8_rests 4 = .ok (.iload_n 1, 1) := by decide +kernel
theorem dX8_rests_5 : decode cX8_rests 5 = .ok (.invokevirtual 139, 3) := by decide +kernel
theorem dX8_rests_8 : decode cX8_rests 8 = .ok (.ifCond .eq 14, 3) := by decide +kernel
theorem dX8_rests_11 : decode cX8_rests 11 = .ok (.aload_n 0, 1) := by decide +kernel
theorem dX8_rests_12 : decode cX8_rests 12 = .ok (.getfield 19, 3) := by decide +kernel
theorem dX8_rests_15 : decode cX8_rests 15 = .ok (.iload_n 2, 1) := by decide +kernel
theorem dX8_rests_16 : decode cX8_rests 16 = .ok (.invokevirtual 139, 3) := by decide +kernel
theorem dX8_rests_19 : decode cX8_rests 19 = .ok (.ifCond .ne 5, 3) := by decide +kernel
theorem dX8_rests_22 : decode cX8_rests 22 = .ok (.iconst (-1), 1) := by decide +kernel
theorem dX8_rests_23 : decode cX8_rests 23 = .ok (.ireturn, 1) := by decide +kernel
theorem dX8_rests_24 : decode cX8_rests 24 = .ok (.iload_n 1, 1) := by decide +kernel
theorem dX8_rests_25 : decode cX8_rests 25 = .ok (.iload_n 2, 1) := by decide +kernel
theorem dX8_rests_26 : decode cX8_rests 26 = .ok (.if_icmp .eq 12, 3) := by decide +kernel
theorem dX8_rests_29 : decode cX8_rests 29 = .ok (.iload_n 3, 1) := by decide +kernel
theorem dX8_rests_30 : decode cX8_rests 30 = .ok (.ifCond .eq 11, 3) := by decide +kernel
theorem dX8_rests_33 : decode cX8_rests 33 = .ok (.iload_n 3, 1) := by decide +kernel
theorem dX8_rests_34 : decode cX8_rests 34 = .ok (.iconst 1, 1) := by decide +kernel
theorem dX8_rests_35 : decode cX8_rests 35 = .ok (.if_icmp .eq 6, 3) := by decide +kernel
theorem dX8_rests_38 : decode cX8_rests 38 = .ok (.bipush (-2), 2) := by decide +kernel
theorem dX8_rests_40 : decode cX8_rests 40 = .ok (.ireturn, 1) := by decide +kernel
theorem dX8_rests_41 : decode cX8_rests 41 = .ok (.aload_n 0, 1) := by decide +kernel
theorem dX8_rests_42 : decode cX8_rests 42 = .ok (.getfield 74, 3) := by decide +kernel
theorem dX8_rests_45 : decode cX8_rests 45 = .ok (.aload_n 0, 1) := by decide +kernel
theorem dX8_rests_46 : decode cX8_rests 46 = .ok (.getfield 28, 3) := by decide +kernel
theorem dX8_rests_49 : decode cX8_rests 49 = .ok (.iload_n 1, 1) := by decide +kernel
theorem dX8_rests_50 : decode cX8_rests 50 = .ok (.invokevirtual 245, 3) := by decide +kernel
theorem dX8_rests_53 : decode cX8_rests 53 = .ok (.aload_n 0, 1) := by decide +kernel
theorem dX8_rests_54 : decode cX8_rests 54 = .ok (.getfield 78, 3) := by decide +kernel
theorem dX8_rests_57 : decode cX8_rests 57 = .ok (.aload_n 0, 1) := by decide +kernel
theorem dX8_rests_58 : decode cX8_rests 58 = .ok (.getfield 28, 3) := by decide +kernel
theorem dX8_rests_61 : decode cX8_rests 61 = .ok (.iload_n 2, 1) := by decide +kernel
theorem dX8_rests_62 : decode cX8_rests 62 = .ok (.invokevirtual 245, 3) := by decide +kernel
theorem dX8_rests_65 : decode cX8_rests 65 = .ok (.iload_n 3, 1) := by decide +kernel
theorem dX8_rests_66 : decode cX8_rests 66 = .ok (.ifCond .ne 10, 3) := by decide +kernel
theorem dX8_rests_69 : decode cX8_rests 69 = .ok (.aload_n 0, 1) := by decide +kernel
theorem dX8_rests_70 : decode cX8_rests 70 = .ok (.invokevirtual 249, 3) := by decide +kernel
theorem dX8_rests_73 : decode cX8_rests 73 = .ok (.goto 7, 3) := by decide +kernel
theorem dX8_rests_76 : decode cX8_rests 76 = .ok (.aload_n 0, 1) := by decide +kernel
theorem dX8_rests_77 : decode cX8_rests 77 = .ok (.invokevirtual 252, 3) := by decide +kernel
theorem dX8_rests_80 : decode cX8_rests 80 = .ok (.ireturn, 1) := by decide +kernel
theorem dX8_strays_0 : decode cX8_strays 0 = .ok (.aload_n 0, 1) := by decide +kernel
theorem dX8_strays_1 : decode cX8_strays 1 = .ok (.getfield 19, 3) := by decide +kernel
theorem dX8_strays_4 : decode cX8_strays 4 = .ok (.iload_n 1, 1) := by decide +kernel
theorem dX8_strays_5 : decode cX8_strays 5 = .ok (.invokevirtual 139, 3) := by decide +kernel
theorem dX8_strays_8 : decode cX8_strays 8 = .ok (.ifCond .ne 5, 3) := by decide +kernel
theorem dX8_strays_11 : decode cX8_strays 11 = .ok (.iconst (-1), 1) := by decide +kernel
theorem dX8_strays_12 : decode cX8_strays 12 = .ok (.ireturn, 1) := by decide +kernel
theorem dX8_strays_13 : decode cX8_strays 13 = .ok (.iload_n 2, 1) := by decide +kernel
theorem dX8_strays_14 : decode cX8_strays 14 = .ok (.iconst 1, 1) := by decide +kernel
theorem dX8_strays_15 : decode cX8_strays 15 = .ok (.if_icmp .lt 8, 3) := by decide +kernel
theorem dX8_strays_18 : decode cX8_strays 18 = .ok (.iload_n 2, 1) := by decide +kernel
theorem dX8_strays_19 : decode cX8_strays 19 = .ok (.iconst 5, 1) := by decide +kernel
theorem dX8_strays_20 : decode cX8_strays 20 = .ok (.if_icmp .le 6, 3) := by decide +kernel
theorem dX8_strays_23 : decode cX8_strays 23 = .ok (.bipush (-2), 2) := by decide +kernel
theorem dX8_strays_25 : decode cX8_strays 25 = .ok (.ireturn, 1) := by decide +kernel
theorem dX8_strays_26 : decode cX8_strays 26 = .ok (.aload_n 0, 1) := by decide +kernel
theorem dX8_strays_27 : decode cX8_strays 27 = .ok (.getfield 28, 3) := by decide +kernel
theorem dX8_strays_30 : decode cX8_strays 30 = .ok (.iload_n 1, 1) := by decide +kernel
theorem dX8_strays_31 : decode cX8_strays 31 = .ok (.aload_n 0, 1) := by decide +kernel
theorem dX8_strays_32 : decode cX8_strays 32 = .ok (.getfield 28, 3) := by decide +kernel
theorem dX8_strays_35 : decode cX8_strays 35 = .ok (.getfield 142, 3) := by decide +kernel
theorem dX8_strays_38 : decode cX8_strays 38 = .ok (.iload_n 1, 1) := by decide +kernel
theorem dX8_strays_39 : decode cX8_strays 39 = .ok (.iaload, 1) := by decide +kernel
theorem dX8_strays_40 : decode cX8_strays 40 = .ok (.iload_n 2, 1) := by decide +kernel
theorem dX8_strays_41 : decode cX8_strays 41 = .ok (.invokestatic 255, 3) := by decide +kernel
theorem dX8_strays_44 : decode cX8_strays 44 = .ok (.getstatic 259, 3) := by decide +kernel
theorem dX8_strays_47 : decode cX8_strays 47 = .ok (.iload_n 2, 1) := by decide +kernel
theorem dX8_strays_48 : decode cX8_strays 48 = .ok (.iaload, 1) := by decide +kernel
theorem dX8_strays_49 : decode cX8_strays 49 = .ok (.iload_n 3, 1) := by decide +kernel
theorem dX8_strays_50 : decode cX8_strays 50 = .ok (.invokestatic 233, 3) := by decide +kernel
theorem dX8_strays_53 : decode cX8_strays 53 = .ok (.ireturn, 1) := by decide +kernel
theorem dX8_seed_0 : decode cX8_seed 0 = .ok (.aload_n 0, 1) := by decide +kernel
theorem dX8_seed_1 : decode cX8_seed 1 = .ok (.getfield 262, 3) := by decide +kernel
theorem dX8_seed_4 : decode cX8_seed 4 = .ok (.lstore_n 3, 1) := by decide +kernel
theorem dX8_seed_5 : decode cX8_seed 5 = .ok (.aload_n 0, 1) := by decide +kernel
theorem dX8_seed_6 : decode cX8_seed 6 = .ok (.lload_n 1, 1) := by decide +kernel
theorem dX8_seed_7 : decode cX8_seed 7 = .ok (.putfield 262, 3) := by decide +kernel
theorem dX8_seed_10 : decode cX8_seed 10 = .ok (.lload_n 3, 1) := by decide +kernel
theorem dX8_seed_11 : decode cX8_seed 11 = .ok (.lreturn, 1) := by decide +kernel
theorem dX8_nights_0 : decode cX8_nights 0 = .ok (.iload_n 1, 1) := by decide +kernel
theorem dX8_nights_1 : decode cX8_nights 1 = .ok (.iconst 1, 1) := by decide +kernel
theorem dX8_nights_2 : decode cX8_nights 2 = .ok (.if_icmp .lt 9, 3) := by decide +kernel
theorem dX8_nights_5 : decode cX8_nights 5 = .ok (.iload_n 1, 1) := by decide +kernel
theorem dX8_nights_6 : decode cX8_nights 6 = .ok (.bipush 30, 2) := by decide +kernel
theorem dX8_nights_8 : decode cX8_nights 8 = .ok (.if_icmp .le 6, 3) := by decide +kernel
theorem dX8_nights_11 : decode cX8_nights 11 = .ok (.bipush (-2), 2) := by decide +kernel
theorem dX8_nights_13 : decode cX8_nights 13 = .ok (.ireturn, 1) := by decide +kernel
theorem dX8_nights_14 : decode cX8_nights 14 = .ok (.aload_n 0, 1) := by decide +kernel
theorem dX8_nights_15 : decode cX8_nights 15 = .ok (.getfield 32, 3) := by decide +kernel
theorem dX8_nights_18 : decode cX8_nights 18 = .ok (.aload_n 0, 1) := by decide +kernel
theorem dX8_nights_19 : decode cX8_nights 19 = .ok (.getfield 28, 3) := by decide +kernel
theorem dX8_nights_22 : decode cX8_nights 22 = .ok (.invokevirtual 221, 3) := by decide +kernel
theorem dX8_nights_25 : decode cX8_nights 25 = .ok (.iconst 0, 1) := by decide +kernel
theorem dX8_nights_26 : decode cX8_nights 26 = .ok (.istore_n 2, 1) := by decide +kernel
theorem dX8_nights_27 : decode cX8_nights 27 = .ok (.iconst 0, 1) := by decide +kernel
theorem dX8_nights_28 : decode cX8_nights 28 = .ok (.istore_n 3, 1) := by decide +kernel
theorem dX8_nights_29 : decode cX8_nights 29 = .ok (.iload_n 3, 1) := by decide +kernel
theorem dX8_nights_30 : decode cX8_nights 30 = .ok (.iload_n 1, 1) := by decide +kernel
theorem dX8_nights_31 : decode cX8_nights 31 = .ok (.if_icmp .ge 51, 3) := by decide +kernel
theorem dX8_nights_34 : decode cX8_nights 34 = .ok (.aload_n 0, 1) := by decide +kernel
theorem dX8_nights_35 : decode cX8_nights 35 = .ok (.aload_n 0, 1) := by decide +kernel
theorem dX8_nights_36 : decode cX8_nights 36 = .ok (.getfield 262, 3) := by decide +kernel
theorem dX8_nights_39 : decode cX8_nights 39 = .ok (.ldc2_w 266, 3) := by decide +kernel
theorem dX8_nights_42 : decode cX8_nights 42 = .ok (.lmul, 1) := by decide +kernel
theorem dX8_nights_43 : decode cX8_nights 43 = .ok (.ldc2_w 268, 3) := by decide +kernel
theorem dX8_nights_46 : decode cX8_nights 46 = .ok (.ladd, 1) := by decide +kernel
theorem dX8_nights_47 : decode cX8_nights 47 = .ok (.putfield 262, 3) := by decide +kernel
theorem dX8_nights_50 : decode cX8_nights 50 = .ok (.aload_n 0, 1) := by decide +kernel
theorem dX8_nights_51 : decode cX8_nights 51 = .ok (.aload_n 0, 1) := by decide +kernel
theorem dX8_nights_52 : decode cX8_nights 52 = .ok (.getfield 262, 3) := by decide +kernel
theorem dX8_nights_55 : decode cX8_nights 55 = .ok (.bipush 33, 2) := by decide +kernel
theorem dX8_nights_57 : decode cX8_nights 57 = .ok (.lushr, 1) := by decide +kernel
theorem dX8_nights_58 : decode cX8_nights 58 = .ok (.ldc2_w 270, 3) := by decide +kernel
theorem dX8_nights_61 : decode cX8_nights 61 = .ok (.lrem, 1) := by decide +kernel
theorem dX8_nights_62 : decode cX8_nights 62 = .ok (.l2i, 1) := by decide +kernel
theorem dX8_nights_63 : decode cX8_nights 63 = .ok (.invokevirtual 272, 3) := by decide +kernel
theorem dX8_nights_66 : decode cX8_nights 66 = .ok (.iload_n 2, 1) := by decide +kernel
theorem dX8_nights_67 : decode cX8_nights 67 = .ok (.aload_n 0, 1) := by decide +kernel
theorem dX8_nights_68 : decode cX8_nights 68 = .ok (.getfield 32, 3) := by decide +kernel
theorem dX8_nights_71 : decode cX8_nights 71 = .ok (.invokevirtual 275, 3) := by decide +kernel
theorem dX8_nights_74 : decode cX8_nights 74 = .ok (.iadd, 1) := by decide +kernel
theorem dX8_nights_75 : decode cX8_nights 75 = .ok (.istore_n 2, 1) := by decide +kernel
theorem dX8_nights_76 : decode cX8_nights 76 = .ok (.iinc 3 1, 3) := by decide +kernel
theorem dX8_nights_79 : decode cX8_nights 79 = .ok (.goto (-50), 3) := by decide +kernel
theorem dX8_nights_82 : decode cX8_nights 82 = .ok (.iload_n 2, 1) := by decide +kernel
theorem dX8_nights_83 : decode cX8_nights 83 = .ok (.ireturn, 1) := by decide +kernel
theorem dX8_keep_0 : decode cX8_keep 0 = .ok (.iload_n 1, 1) := by decide +kernel
theorem dX8_keep_1 : decode cX8_keep 1 = .ok (.ifCond .lt 8, 3) := by decide +kernel
theorem dX8_keep_4 : decode cX8_keep 4 = .ok (.iload_n 1, 1) := by decide +kernel
theorem dX8_keep_5 : decode cX8_keep 5 = .ok (.iconst 2, 1) := by decide +kernel
theorem dX8_keep_6 : decode cX8_keep 6 = .ok (.if_icmp .lt 5, 3) := by decide +kernel
theorem dX8_keep_9 : decode cX8_keep 9 = .ok (.iconst (-1), 1) := by decide +kernel
theorem dX8_keep_10 : decode cX8_keep 10 = .ok (.ireturn, 1) := by decide +kernel
theorem dX8_keep_11 : decode cX8_keep 11 = .ok (.aload_n 0, 1) := by decide +kernel
theorem dX8_keep_12 : decode cX8_keep 12 = .ok (.getfield 42, 3) := by decide +kernel
theorem dX8_keep_15 : decode cX8_keep 15 = .ok (.iload_n 1, 1) := by decide +kernel
theorem dX8_keep_16 : decode cX8_keep 16 = .ok (.aaload, 1) := by decide +kernel
theorem dX8_keep_17 : decode cX8_keep 17 = .ok (.aload_n 0, 1) := by decide +kernel
theorem dX8_keep_18 : decode cX8_keep 18 = .ok (.getfield 28, 3) := by decide +kernel
theorem dX8_keep_21 : decode cX8_keep 21 = .ok (.invokevirtual 221, 3) := by decide +kernel
theorem dX8_keep_24 : decode cX8_keep 24 = .ok (.aload_n 0, 1) := by decide +kernel
theorem dX8_keep_25 : decode cX8_keep 25 = .ok (.getfield 46, 3) := by decide +kernel
theorem dX8_keep_28 : decode cX8_keep 28 = .ok (.iload_n 1, 1) := by decide +kernel
theorem dX8_keep_29 : decode cX8_keep 29 = .ok (.iconst 1, 1) := by decide +kernel
theorem dX8_keep_30 : decode cX8_keep 30 = .ok (.bastore, 1) := by decide +kernel
theorem dX8_keep_31 : decode cX8_keep 31 = .ok (.aload_n 0, 1) := by decide +kernel
theorem dX8_keep_32 : decode cX8_keep 32 = .ok (.getfield 28, 3) := by decide +kernel
theorem dX8_keep_35 : decode cX8_keep 35 = .ok (.invokevirtual 275, 3) := by decide +kernel
theorem dX8_keep_38 : decode cX8_keep 38 = .ok (.ireturn, 1) := by decide +kernel
theorem dX8_goOn_0 : decode cX8_goOn 0 = .ok (.iload_n 1, 1) := by decide +kernel
theorem dX8_goOn_1 : decode cX8_goOn 1 = .ok (.ifCond .lt 8, 3) := by decide +kernel
theorem dX8_goOn_4 : decode cX8_goOn 4 = .ok (.iload_n 1, 1) := by decide +kernel
theorem dX8_goOn_5 : decode cX8_goOn 5 = .ok (.iconst 2, 1) := by decide +kernel
theorem dX8_goOn_6 : decode cX8_goOn 6 = .ok (.if_icmp .lt 5, 3) := by decide +kernel
theorem dX8_goOn_9 : decode cX8_goOn 9 = .ok (.iconst (-1), 1) := by decide +kernel
theorem dX8_goOn_10 : decode cX8_goOn 10 = .ok (.ireturn, 1) := by decide +kernel
theorem dX8_goOn_11 : decode cX8_goOn 11 = .ok (.aload_n 0, 1) := by decide +kernel
theorem dX8_goOn_12 : decode cX8_goOn 12 = .ok (.getfield 46, 3) := by decide +kernel
theorem dX8_goOn_15 : decode cX8_goOn 15 = .ok (.iload_n 1, 1) := by decide +kernel
theorem dX8_goOn_16 : decode cX8_goOn 16 = .ok (.baload, 1) := by decide +kernel
theorem dX8_goOn_17 : decode cX8_goOn 17 = .ok (.ifCond .ne 6, 3) := by decide +kernel
theorem dX8_goOn_20 : decode cX8_goOn 20 = .ok (.bipush (-3), 2) := by decide +kernel
theorem dX8_goOn_22 : decode cX8_goOn 22 = .ok (.ireturn, 1) := by decide +kernel
theorem dX8_goOn_23 : decode cX8_goOn 23 = .ok (.aload_n 0, 1) := by decide +kernel
theorem dX8_goOn_24 : decode cX8_goOn 24 = .ok (.getfield 28, 3) := by decide +kernel
theorem dX8_goOn_27 : decode cX8_goOn 27 = .ok (.aload_n 0, 1) := by decide +kernel
theorem dX8_goOn_28 : decode cX8_goOn 28 = .ok (.getfield 42, 3) := by decide +kernel
theorem dX8_goOn_31 : decode cX8_goOn 31 = .ok (.iload_n 1, 1) := by decide +kernel
theorem dX8_goOn_32 : decode cX8_goOn 32 = .ok (.aaload, 1) := by decide +kernel
theorem dX8_goOn_33 : decode cX8_goOn 33 = .ok (.invokevirtual 221, 3) := by decide +kernel
theorem dX8_goOn_36 : decode cX8_goOn 36 = .ok (.aload_n 0, 1) := by decide +kernel
theorem dX8_goOn_37 : decode cX8_goOn 37 = .ok (.getfield 38, 3) := by decide +kernel
theorem dX8_goOn_40 : decode cX8_goOn 40 = .ok (.invokevirtual 100, 3) := by decide +kernel
theorem dX8_goOn_43 : decode cX8_goOn 43 = .ok (.aload_n 0, 1) := by decide +kernel
theorem dX8_goOn_44 : decode cX8_goOn 44 = .ok (.getfield 28, 3) := by decide +kernel
theorem dX8_goOn_47 : decode cX8_goOn 47 = .ok (.invokevirtual 275, 3) := by decide +kernel
theorem dX8_goOn_50 : decode cX8_goOn 50 = .ok (.ireturn, 1) := by decide +kernel
theorem dX8_isWay_0 : decode cX8_isWay 0 = .ok (.iload_n 0, 1) := by decide +kernel
theorem dX8_isWay_1 : decode cX8_isWay 1 = .ok (.ifCond .lt 12, 3) := by decide +kernel
theorem dX8_isWay_4 : decode cX8_isWay 4 = .ok (.iload_n 0, 1) := by decide +kernel
theorem dX8_isWay_5 : decode cX8_isWay 5 = .ok (.iconst 4, 1) := by decide +kernel
theorem dX8_isWay_6 : decode cX8_isWay 6 = .ok (.if_icmp .ge 7, 3) := by decide +kernel
theorem dX8_isWay_9 : decode cX8_isWay 9 = .ok (.iconst 1, 1) := by decide +kernel
theorem dX8_isWay_10 : decode cX8_isWay 10 = .ok (.goto 4, 3) := by decide +kernel
theorem dX8_isWay_13 : decode cX8_isWay 13 = .ok (.iconst 0, 1) := by decide +kernel
theorem dX8_isWay_14 : decode cX8_isWay 14 = .ok (.ireturn, 1) := by decide +kernel
theorem dX8_inSight_0 : decode cX8_inSight 0 = .ok (.iload_n 0, 1) := by decide +kernel
theorem dX8_inSight_1 : decode cX8_inSight 1 = .ok (.bipush (-4), 2) := by decide +kernel
theorem dX8_inSight_3 : decode cX8_inSight 3 = .ok (.if_icmp .lt 12, 3) := by decide +kernel
theorem dX8_inSight_6 : decode cX8_inSight 6 = .ok (.iload_n 0, 1) := by decide +kernel
theorem dX8_inSight_7 : decode cX8_inSight 7 = .ok (.iconst 4, 1) := by decide +kernel
theorem dX8_inSight_8 : decode cX8_inSight 8 = .ok (.if_icmp .gt 7, 3) := by decide +kernel
theorem dX8_inSight_11 : decode cX8_inSight 11 = .ok (.iconst 1, 1) := by decide +kernel
theorem dX8_inSight_12 : decode cX8_inSight 12 = .ok (.goto 4, 3) := by decide +kernel
theorem dX8_inSight_15 : decode cX8_inSight 15 = .ok (.iconst 0, 1) := by decide +kernel
theorem dX8_inSight_16 : decode cX8_inSight 16 = .ok (.ireturn, 1) := by decide +kernel
theorem dX8_cellOf_0 : decode cX8_cellOf 0 = .ok (.iload_n 0, 1) := by decide +kernel
theorem dX8_cellOf_1 : decode cX8_cellOf 1 = .ok (.bipush 20, 2) := by decide +kernel
theorem dX8_cellOf_3 : decode cX8_cellOf 3 = .ok (.irem, 1) := by decide +kernel
theorem dX8_cellOf_4 : decode cX8_cellOf 4 = .ok (.ireturn, 1) := by decide +kernel
theorem dX8_widthOf_0 : decode cX8_widthOf 0 = .ok (.iload_n 0, 1) := by decide +kernel
theorem dX8_widthOf_1 : decode cX8_widthOf 1 = .ok (.bipush 20, 2) := by decide +kernel
theorem dX8_widthOf_3 : decode cX8_widthOf 3 = .ok (.idiv, 1) := by decide +kernel
theorem dX8_widthOf_4 : decode cX8_widthOf 4 = .ok (.bipush 7, 2) := by decide +kernel
theorem dX8_widthOf_6 : decode cX8_widthOf 6 = .ok (.irem, 1) := by decide +kernel
theorem dX8_widthOf_7 : decode cX8_widthOf 7 = .ok (.ireturn, 1) := by decide +kernel
theorem dX8_heightOf_0 : decode cX8_heightOf 0 = .ok (.iload_n 0, 1) := by decide +kernel
theorem dX8_heightOf_1 : decode cX8_heightOf 1 = .ok (.sipush 140, 3) := by decide +kernel
theorem dX8_heightOf_4 : decode cX8_heightOf 4 = .ok (.idiv, 1) := by decide +kernel
theorem dX8_heightOf_5 : decode cX8_heightOf 5 = .ok (.ireturn, 1) := by decide +kernel
theorem dX8_told_0 : decode cX8_told 0 = .ok (.iload_n 0, 1) := by decide +kernel
theorem dX8_told_1 : decode cX8_told 1 = .ok (.iload_n 1, 1) := by decide +kernel
theorem dX8_told_2 : decode cX8_told 2 = .ok (.invokestatic 278, 3) := by decide +kernel
theorem dX8_told_5 : decode cX8_told 5 = .ok (.istore_n 3, 1) := by decide +kernel
theorem dX8_told_6 : decode cX8_told 6 = .ok (.iload_n 3, 1) := by decide +kernel
theorem dX8_told_7 : decode cX8_told 7 = .ok (.iconst 1, 1) := by decide +kernel
theorem dX8_told_8 : decode cX8_told 8 = .ok (.if_icmp .ge 5, 3) := by decide +kernel
theorem dX8_told_11 : decode cX8_told 11 = .ok (.iconst 0, 1) := by decide +kernel
theorem dX8_told_12 : decode cX8_told 12 = .ok (.ireturn, 1) := by decide +kernel
theorem dX8_told_13 : decode cX8_told 13 = .ok (.iload_n 2, 1) := by decide +kernel
theorem dX8_told_14 : decode cX8_told 14 = .ok (.ifCond .eq 9, 3) := by decide +kernel
theorem dX8_told_17 : decode cX8_told 17 = .ok (.iload_n 0, 1) := by decide +kernel
theorem dX8_told_18 : decode cX8_told 18 = .ok (.iload_n 3, 1) := by decide +kernel
theorem dX8_told_19 : decode cX8_told 19 = .ok (.idiv, 1) := by decide +kernel
theorem dX8_told_20 : decode cX8_told 20 = .ok (.goto 6, 3) := by decide +kernel
theorem dX8_told_23 : decode cX8_told 23 = .ok (.iload_n 1, 1) := by decide +kernel
theorem dX8_told_24 : decode cX8_told 24 = .ok (.iload_n 3, 1) := by decide +kernel
theorem dX8_told_25 : decode cX8_told 25 = .ok (.idiv, 1) := by decide +kernel
theorem dX8_told_26 : decode cX8_told 26 = .ok (.ireturn, 1) := by decide +kernel
theorem dX8_commonDivisor_0 : decode cX8_commonDivisor 0 = .ok (.iload_n 0, 1) := by decide +kernel
theorem dX8_commonDivisor_1 : decode cX8_commonDivisor 1 = .ok (.istore_n 2, 1) := by decide +kernel
theorem dX8_commonDivisor_2 : decode cX8_commonDivisor 2 = .ok (.iload_n 1, 1) := by decide +kernel
theorem dX8_commonDivisor_3 : decode cX8_commonDivisor 3 = .ok (.istore_n 3, 1) := by decide +kernel
theorem dX8_commonDivisor_4 : decode cX8_commonDivisor 4 = .ok (.iconst 0, 1) := by decide +kernel
theorem dX8_commonDivisor_5 : decode cX8_commonDivisor 5 = .ok (.istore 4, 2) := by decide +kernel
theorem dX8_commonDivisor_7 : decode cX8_commonDivisor 7 = .ok (.iload 4, 2) := by decide +kernel
theorem dX8_commonDivisor_9 : decode cX8_commonDivisor 9 = .ok (.bipush 64, 2) := by decide +kernel
theorem dX8_commonDivisor_11 : decode cX8_commonDivisor 11 = .ok (.if_icmp .ge 23, 3) := by decide +kernel
theorem dX8_commonDivisor_14 : decode cX8_commonDivisor 14 = .ok (.iload_n 3, 1) := by decide +kernel
theorem dX8_commonDivisor_15 : decode cX8_commonDivisor 15 = .ok (.ifCond .eq 19, 3) := by decide +kernel
theorem dX8_commonDivisor_18 : decode cX8_commonDivisor 18 = .ok (.iload_n 2, 1) := by decide +kernel
theorem dX8_commonDivisor_19 : decode cX8_commonDivisor 19 = .ok (.iload_n 3, 1) := by decide +kernel
theorem dX8_commonDivisor_20 : decode cX8_commonDivisor 20 = .ok (.irem, 1) := by decide +kernel
theorem dX8_commonDivisor_21 : decode cX8_commonDivisor 21 = .ok (.istore 5, 2) := by decide +kernel
theorem dX8_commonDivisor_23 : decode cX8_commonDivisor 23 = .ok (.iload_n 3, 1) := by decide +kernel
theorem dX8_commonDivisor_24 : decode cX8_commonDivisor 24 = .ok (.istore_n 2, 1) := by decide +kernel
theorem dX8_commonDivisor_25 : decode cX8_commonDivisor 25 = .ok (.iload 5, 2) := by decide +kernel
theorem dX8_commonDivisor_27 : decode cX8_commonDivisor 27 = .ok (.istore_n 3, 1) := by decide +kernel
theorem dX8_commonDivisor_28 : decode cX8_commonDivisor 28 = .ok (.iinc 4 1, 3) := by decide +kernel
theorem dX8_commonDivisor_31 : decode cX8_commonDivisor 31 = .ok (.goto (-24), 3) := by decide +kernel
theorem dX8_commonDivisor_34 : decode cX8_commonDivisor 34 = .ok (.iload_n 2, 1) := by decide +kernel
theorem dX8_commonDivisor_35 : decode cX8_commonDivisor 35 = .ok (.ireturn, 1) := by decide +kernel
theorem dX8_stepsRound_0 : decode cX8_stepsRound 0 = .ok (.aload_n 0, 1) := by decide +kernel
theorem dX8_stepsRound_1 : decode cX8_stepsRound 1 = .ok (.getfield 28, 3) := by decide +kernel
theorem dX8_stepsRound_4 : decode cX8_stepsRound 4 = .ok (.getfield 142, 3) := by decide +kernel
theorem dX8_stepsRound_7 : decode cX8_stepsRound 7 = .ok (.iload_n 1, 1) := by decide +kernel
theorem dX8_stepsRound_8 : decode cX8_stepsRound 8 = .ok (.iaload, 1) := by decide +kernel
theorem dX8_stepsRound_9 : decode cX8_stepsRound 9 = .ok (.invokestatic 146, 3) := by decide +kernel
theorem dX8_stepsRound_12 : decode cX8_stepsRound 12 = .ok (.istore_n 3, 1) := by decide +kernel
theorem dX8_stepsRound_13 : decode cX8_stepsRound 13 = .ok (.aload_n 0, 1) := by decide +kernel
theorem dX8_stepsRound_14 : decode cX8_stepsRound 14 = .ok (.getfield 19, 3) := by decide +kernel
theorem dX8_stepsRound_17 : decode cX8_stepsRound 17 = .ok (.iload_n 1, 1) := by decide +kernel
theorem dX8_stepsRound_18 : decode cX8_stepsRound 18 = .ok (.invokevirtual 281, 3) := by decide +kernel
theorem dX8_stepsRound_21 : decode cX8_stepsRound 21 = .ok (.istore 4, 2) := by decide +kernel
theorem dX8_stepsRound_23 : decode cX8_stepsRound 23 = .ok (.iload_n 3, 1) := by decide +kernel
theorem dX8_stepsRound_24 : decode cX8_stepsRound 24 = .ok (.istore 5, 2) := by decide +kernel
theorem dX8_stepsRound_26 : decode cX8_stepsRound 26 = .ok (.iconst 1, 1) := by decide +kernel
theorem dX8_stepsRound_27 : decode cX8_stepsRound 27 = .ok (.istore 6, 2) := by decide +kernel
theorem dX8_stepsRound_29 : decode cX8_stepsRound 29 = .ok (.iload 6, 2) := by decide +kernel
theorem dX8_stepsRound_31 : decode cX8_stepsRound 31 = .ok (.bipush 20, 2) := by decide +kernel
theorem dX8_stepsRound_33 : decode cX8_stepsRound 33 = .ok (.if_icmp .gt 48, 3) := by decide +kernel
theorem dX8_stepsRound_36 : decode cX8_stepsRound 36 = .ok (.aload_n 0, 1) := by decide +kernel
theorem dX8_stepsRound_37 : decode cX8_stepsRound 37 = .ok (.getfield 19, 3) := by decide +kernel
theorem dX8_stepsRound_40 : decode cX8_stepsRound 40 = .ok (.iload 5, 2) := by decide +kernel
theorem dX8_stepsRound_42 : decode cX8_stepsRound 42 = .ok (.iload_n 2, 1) := by decide +kernel
theorem dX8_stepsRound_43 : decode cX8_stepsRound 43 = .ok (.iload 4, 2) := by decide +kernel
theorem dX8_stepsRound_45 : decode cX8_stepsRound 45 = .ok (.invokevirtual 135, 3) := by decide +kernel
theorem dX8_stepsRound_48 : decode cX8_stepsRound 48 = .ok (.istore 5, 2) := by decide +kernel
theorem dX8_stepsRound_50 : decode cX8_stepsRound 50 = .ok (.aload_n 0, 1) := by decide +kernel
theorem dX8_stepsRound_51 : decode cX8_stepsRound 51 = .ok (.getfield 28, 3) := by decide +kernel
theorem dX8_stepsRound_54 : decode cX8_stepsRound 54 = .ok (.iload_n 1, 1) := by decide +kernel
theorem dX8_stepsRound_55 : decode cX8_stepsRound 55 = .ok (.iload 5, 2) := by decide +kernel
theorem dX8_stepsRound_57 : decode cX8_stepsRound 57 = .ok (.invokevirtual 284, 3) := by decide +kernel
theorem dX8_stepsRound_60 : decode cX8_stepsRound 60 = .ok (.ifCond .ne 6, 3) := by decide +kernel
theorem dX8_stepsRound_63 : decode cX8_stepsRound 63 = .ok (.bipush (-9), 2) := by decide +kernel
theorem dX8_stepsRound_65 : decode cX8_stepsRound 65 = .ok (.ireturn, 1) := by decide +kernel
theorem dX8_stepsRound_66 : decode cX8_stepsRound 66 = .ok (.iload 5, 2) := by decide +kernel
theorem dX8_stepsRound_68 : decode cX8_stepsRound 68 = .ok (.iload_n 3, 1) := by decide +kernel
theorem dX8_stepsRound_69 : decode cX8_stepsRound 69 = .ok (.if_icmp .ne 6, 3) := by decide +kernel
theorem dX8_stepsRound_72 : decode cX8_stepsRound 72 = .ok (.iload 6, 2) := by decide +kernel
theorem dX8_stepsRound_74 : decode cX8_stepsRound 74 = .ok (.ireturn, 1) := by decide +kernel
theorem dX8_stepsRound_75 : decode cX8_stepsRound 75 = .ok (.iinc 6 1, 3) := by decide +kernel
theorem dX8_stepsRound_78 : decode cX8_stepsRound 78 = .ok (.goto (-49), 3) := by decide +kernel
theorem dX8_stepsRound_81 : decode cX8_stepsRound 81 = .ok (.bipush (-9), 2) := by decide +kernel
theorem dX8_stepsRound_83 : decode cX8_stepsRound 83 = .ok (.ireturn, 1) := by decide +kernel
theorem dX8_looksLike_0 : decode cX8_looksLike 0 = .ok (.aload_n 0, 1) := by decide +kernel
theorem dX8_looksLike_1 : decode cX8_looksLike 1 = .ok (.getfield 28, 3) := by decide +kernel
theorem dX8_looksLike_4 : decode cX8_looksLike 4 = .ok (.iload_n 1, 1) := by decide +kernel
theorem dX8_looksLike_5 : decode cX8_looksLike 5 = .ok (.invokevirtual 129, 3) := by decide +kernel
theorem dX8_looksLike_8 : decode cX8_looksLike 8 = .ok (.aload_n 0, 1) := by decide +kernel
theorem dX8_looksLike_9 : decode cX8_looksLike 9 = .ok (.getfield 28, 3) := by decide +kernel
theorem dX8_looksLike_12 : decode cX8_looksLike 12 = .ok (.iload_n 2, 1) := by decide +kernel
theorem dX8_looksLike_13 : decode cX8_looksLike 13 = .ok (.invokevirtual 129, 3) := by decide +kernel
theorem dX8_looksLike_16 : decode cX8_looksLike 16 = .ok (.if_icmp .eq 5, 3) := by decide +kernel
theorem dX8_looksLike_19 : decode cX8_looksLike 19 = .ok (.iconst 0, 1) := by decide +kernel
theorem dX8_looksLike_20 : decode cX8_looksLike 20 = .ok (.ireturn, 1) := by decide +kernel
theorem dX8_looksLike_21 : decode cX8_looksLike 21 = .ok (.iconst 0, 1) := by decide +kernel
theorem dX8_looksLike_22 : decode cX8_looksLike 22 = .ok (.istore_n 3, 1) := by decide +kernel
theorem dX8_looksLike_23 : decode cX8_looksLike 23 = .ok (.iload_n 3, 1) := by decide +kernel
theorem dX8_looksLike_24 : decode cX8_looksLike 24 = .ok (.iconst 4, 1) := by decide +kernel
theorem dX8_looksLike_25 : decode cX8_looksLike 25 = .ok (.if_icmp .ge 52, 3) := by decide +kernel
theorem dX8_looksLike_28 : decode cX8_looksLike 28 = .ok (.aload_n 0, 1) := by decide +kernel
theorem dX8_looksLike_29 : decode cX8_looksLike 29 = .ok (.getfield 28, 3) := by decide +kernel
theorem dX8_looksLike_32 : decode cX8_looksLike 32 = .ok (.aload_n 0, 1) := by decide +kernel
theorem dX8_looksLike_33 : decode cX8_looksLike 33 = .ok (.getfield 19, 3) := by decide +kernel
theorem dX8_looksLike_36 : decode cX8_looksLike 36 = .ok (.iload_n 1, 1) := by decide +kernel
theorem dX8_looksLike_37 : decode cX8_looksLike 37 = .ok (.iload_n 3, 1) := by decide +kernel
theorem dX8_looksLike_38 : decode cX8_looksLike 38 = .ok (.iconst 0, 1) := by decide +kernel
theorem dX8_looksLike_39 : decode cX8_looksLike 39 = .ok (.invokevirtual 135, 3) := by decide +kernel
theorem dX8_looksLike_42 : decode cX8_looksLike 42 = .ok (.invokevirtual 129, 3) := by decide +kernel
theorem dX8_looksLike_45 : decode cX8_looksLike 45 = .ok (.istore 4, 2) := by decide +kernel
theorem dX8_looksLike_47 : decode cX8_looksLike 47 = .ok (.iload 4, 2) := by decide +kernel
theorem dX8_looksLike_49 : decode cX8_looksLike 49 = .ok (.aload_n 0, 1) := by decide +kernel
theorem dX8_looksLike_50 : decode cX8_looksLike 50 = .ok (.getfield 28, 3) := by decide +kernel
theorem dX8_looksLike_53 : decode cX8_looksLike 53 = .ok (.aload_n 0, 1) := by decide +kernel
theorem dX8_looksLike_54 : decode cX8_looksLike 54 = .ok (.getfield 19, 3) := by decide +kernel
theorem dX8_looksLike_57 : decode cX8_looksLike 57 = .ok (.iload_n 2, 1) := by decide +kernel
theorem dX8_looksLike_58 : decode cX8_looksLike 58 = .ok (.iload_n 3, 1) := by decide +kernel
theorem dX8_looksLike_59 : decode cX8_looksLike 59 = .ok (.iconst 0, 1) := by decide +kernel
theorem dX8_looksLike_60 : decode cX8_looksLike 60 = .ok (.invokevirtual 135, 3) := by decide +kernel
theorem dX8_looksLike_63 : decode cX8_looksLike 63 = .ok (.invokevirtual 129, 3) := by decide +kernel
theorem dX8_looksLike_66 : decode cX8_looksLike 66 = .ok (.if_icmp .eq 5, 3) := by decide +kernel
theorem dX8_looksLike_69 : decode cX8_looksLike 69 = .ok (.iconst 0, 1) := by decide +kernel
theorem dX8_looksLike_70 : decode cX8_looksLike 70 = .ok (.ireturn, 1) := by decide +kernel
theorem dX8_looksLike_71 : decode cX8_looksLike 71 = .ok (.iinc 3 1, 3) := by decide +kernel
theorem dX8_looksLike_74 : decode cX8_looksLike 74 = .ok (.goto (-51), 3) := by decide +kernel
theorem dX8_looksLike_77 : decode cX8_looksLike 77 = .ok (.iconst 1, 1) := by decide +kernel
theorem dX8_looksLike_78 : decode cX8_looksLike 78 = .ok (.ireturn, 1) := by decide +kernel
theorem dX8_unlikeRows_0 : decode cX8_unlikeRows 0 = .ok (.iconst 0, 1) := by decide +kernel
theorem dX8_unlikeRows_1 : decode cX8_unlikeRows 1 = .ok (.istore_n 2, 1) := by decide +kernel
theorem dX8_unlikeRows_2 : decode cX8_unlikeRows 2 = .ok (.iconst 0, 1) := by decide +kernel
theorem dX8_unlikeRows_3 : decode cX8_unlikeRows 3 = .ok (.istore_n 3, 1) := by decide +kernel
theorem dX8_unlikeRows_4 : decode cX8_unlikeRows 4 = .ok (.iload_n 3, 1) := by decide +kernel
theorem dX8_unlikeRows_5 : decode cX8_unlikeRows 5 = .ok (.aload_n 0, 1) := by decide +kernel
theorem dX8_unlikeRows_6 : decode cX8_unlikeRows 6 = .ok (.getfield 19, 3) := by decide +kernel
theorem dX8_unlikeRows_9 : decode cX8_unlikeRows 9 = .ok (.getfield 106, 3) := by decide +kernel
theorem dX8_unlikeRows_12 : decode cX8_unlikeRows 12 = .ok (.if_icmp .ge 73, 3) := by decide +kernel
theorem dX8_unlikeRows_15 : decode cX8_unlikeRows 15 = .ok (.iload_n 3, 1) := by decide +kernel
theorem dX8_unlikeRows_16 : decode cX8_unlikeRows 16 = .ok (.aload_n 0, 1) := by decide +kernel
theorem dX8_unlikeRows_17 : decode cX8_unlikeRows 17 = .ok (.getfield 19, 3) := by decide +kernel
theorem dX8_unlikeRows_20 : decode cX8_unlikeRows 20 = .ok (.getfield 103, 3) := by decide +kernel
theorem dX8_unlikeRows_23 : decode cX8_unlikeRows 23 = .ok (.imul, 1) := by decide +kernel
theorem dX8_unlikeRows_24 : decode cX8_unlikeRows 24 = .ok (.aload_n 0, 1) := by decide +kernel
theorem dX8_unlikeRows_25 : decode cX8_unlikeRows 25 = .ok (.getfield 19, 3) := by decide +kernel
theorem dX8_unlikeRows_28 : decode cX8_unlikeRows 28 = .ok (.getfield 103, 3) := by decide +kernel
theorem dX8_unlikeRows_31 : decode cX8_unlikeRows 31 = .ok (.iadd, 1) := by decide +kernel
theorem dX8_unlikeRows_32 : decode cX8_unlikeRows 32 = .ok (.iconst 1, 1) := by decide +kernel
theorem dX8_unlikeRows_33 : decode cX8_unlikeRows 33 = .ok (.isub, 1) := by decide +kernel
theorem dX8_unlikeRows_34 : decode cX8_unlikeRows 34 = .ok (.istore 4, 2) := by decide +kernel
theorem dX8_unlikeRows_36 : decode cX8_unlikeRows 36 = .ok (.aload_n 0, 1) := by decide +kernel
theorem dX8_unlikeRows_37 : decode cX8_unlikeRows 37 = .ok (.getfield 19, 3) := by decide +kernel
theorem dX8_unlikeRows_40 : decode cX8_unlikeRows 40 = .ok (.iload_n 3, 1) := by decide +kernel
theorem dX8_unlikeRows_41 : decode cX8_unlikeRows 41 = .ok (.iload_n 1, 1) := by decide +kernel
theorem dX8_unlikeRows_42 : decode cX8_unlikeRows 42 = .ok (.invokevirtual 287, 3) := by decide +kernel
theorem dX8_unlikeRows_45 : decode cX8_unlikeRows 45 = .ok (.aload_n 0, 1) := by decide +kernel
theorem dX8_unlikeRows_46 : decode cX8_unlikeRows 46 = .ok (.getfield 19, 3) := by decide +kernel
theorem dX8_unlikeRows_49 : decode cX8_unlikeRows 49 = .ok (.getfield 103, 3) := by decide +kernel
theorem dX8_unlikeRows_52 : decode cX8_unlikeRows 52 = .ok (.imul, 1) := by decide +kernel
theorem dX8_unlikeRows_53 : decode cX8_unlikeRows 53 = .ok (.istore 5, 2) := by decide +kernel
theorem dX8_unlikeRows_55 : decode cX8_unlikeRows 55 = .ok (.aload_n 0, 1) := by decide +kernel
theorem dX8_unlikeRows_56 : decode cX8_unlikeRows 56 = .ok (.getfield 28, 3) := by decide +kernel
theorem dX8_unlikeRows_59 : decode cX8_unlikeRows 59 = .ok (.iload 4, 2) := by decide +kernel
theorem dX8_unlikeRows_61 : decode cX8_unlikeRows 61 = .ok (.invokevirtual 129, 3) := by decide +kernel
theorem dX8_unlikeRows_64 : decode cX8_unlikeRows 64 = .ok (.aload_n 0, 1) := by decide +kernel
theorem dX8_unlikeRows_65 : decode cX8_unlikeRows 65 = .ok (.getfield 28, 3) := by decide +kernel
theorem dX8_unlikeRows_68 : decode cX8_unlikeRows 68 = .ok (.iload 5, 2) := by decide +kernel
theorem dX8_unlikeRows_70 : decode cX8_unlikeRows 70 = .ok (.invokevirtual 129, 3) := by decide +kernel
theorem dX8_unlikeRows_73 : decode cX8_unlikeRows 73 = .ok (.if_icmp .eq 6, 3) := by decide +kernel
theorem dX8_unlikeRows_76 : decode cX8_unlikeRows 76 = .ok (.iinc 2 1, 3) := by decide +kernel
theorem dX8_unlikeRows_79 : decode cX8_unlikeRows 79 = .ok (.iinc 3 1, 3) := by decide +kernel
theorem dX8_unlikeRows_82 : decode cX8_unlikeRows 82 = .ok (.goto (-78), 3) := by decide +kernel
theorem dX8_unlikeRows_85 : decode cX8_unlikeRows 85 = .ok (.iload_n 2, 1) := by decide +kernel
theorem dX8_unlikeRows_86 : decode cX8_unlikeRows 86 = .ok (.ireturn, 1) := by decide +kernel
theorem dX8_holds_0 : decode cX8_holds 0 = .ok (.iload_n 2, 1) := by decide +kernel
theorem dX8_holds_1 : decode cX8_holds 1 = .ok (.bipush 10, 2) := by decide +kernel
theorem dX8_holds_3 : decode cX8_holds 3 = .ok (.imul, 1) := by decide +kernel
theorem dX8_holds_4 : decode cX8_holds 4 = .ok (.iload_n 3, 1) := by decide +kernel
theorem dX8_holds_5 : decode cX8_holds 5 = .ok (.iadd, 1) := by decide +kernel
theorem dX8_holds_6 : decode cX8_holds 6 = .ok (.istore 4, 2) := by decide +kernel
theorem dX8_holds_8 : decode cX8_holds 8 = .ok (.iload_n 1, 1) := by decide +kernel
theorem dX8_holds_9 : decode cX8_holds 9 = .ok (.tableswitch 163 1 4 #[31, 67, 93, 131], 31) := by decide +kernel
theorem dX8_holds_40 : decode cX8_holds 40 = .ok (.aload_n 0, 1) := by decide +kernel
theorem dX8_holds_41 : decode cX8_holds 41 = .ok (.getfield 19, 3) := by decide +kernel
theorem dX8_holds_44 : decode cX8_holds 44 = .ok (.iload_n 2, 1) := by decide +kernel
theorem dX8_holds_45 : decode cX8_holds 45 = .ok (.invokevirtual 139, 3) := by decide +kernel
theorem dX8_holds_48 : decode cX8_holds 48 = .ok (.ifCond .eq 26, 3) := by decide +kernel
theorem dX8_holds_51 : decode cX8_holds 51 = .ok (.iload_n 3, 1) := by decide +kernel
theorem dX8_holds_52 : decode cX8_holds 52 = .ok (.invokestatic 132, 3) := by decide +kernel
theorem dX8_holds_55 : decode cX8_holds 55 = .ok (.ifCond .eq 19, 3) := by decide +kernel
theorem dX8_holds_58 : decode cX8_holds 58 = .ok (.aload_n 0, 1) := by decide +kernel
theorem dX8_holds_59 : decode cX8_holds 59 = .ok (.getfield 32, 3) := by decide +kernel
theorem dX8_holds_62 : decode cX8_holds 62 = .ok (.iload_n 2, 1) := by decide +kernel
theorem dX8_holds_63 : decode cX8_holds 63 = .ok (.iload_n 3, 1) := by decide +kernel
theorem dX8_holds_64 : decode cX8_holds 64 = .ok (.invokevirtual 172, 3) := by decide +kernel
theorem dX8_holds_67 : decode cX8_holds 67 = .ok (.ifCond .eq 7, 3) := by decide +kernel
theorem dX8_holds_70 : decode cX8_holds 70 = .ok (.iconst 1, 1) := by decide +kernel
theorem dX8_holds_71 : decode cX8_holds 71 = .ok (.goto 4, 3) := by decide +kernel
theorem dX8_holds_74 : decode cX8_holds 74 = .ok (.iconst 0, 1) := by decide +kernel
theorem dX8_holds_75 : decode cX8_holds 75 = .ok (.ireturn, 1) := by decide +kernel
theorem dX8_holds_76 : decode cX8_holds 76 = .ok (.aload_n 0, 1) := by decide +kernel
theorem dX8_holds_77 : decode cX8_holds 77 = .ok (.getfield 19, 3) := by decide +kernel
theorem dX8_holds_80 : decode cX8_holds 80 = .ok (.iload 4, 2) := by decide +kernel
theorem dX8_holds_82 : decode cX8_holds 82 = .ok (.invokevirtual 126, 3) := by decide +kernel
theorem dX8_holds_85 : decode cX8_holds 85 = .ok (.ifCond .ne 5, 3) := by decide +kernel
theorem dX8_holds_88 : decode cX8_holds 88 = .ok (.iconst 0, 1) := by decide +kernel
theorem dX8_holds_89 : decode cX8_holds 89 = .ok (.ireturn, 1) := by decide +kernel
theorem dX8_holds_90 : decode cX8_holds 90 = .ok (.aload_n 0, 1) := by decide +kernel
theorem dX8_holds_91 : decode cX8_holds 91 = .ok (.getfield 32, 3) := by decide +kernel
theorem dX8_holds_94 : decode cX8_holds 94 = .ok (.iload 4, 2) := by decide +kernel
theorem dX8_holds_96 : decode cX8_holds 96 = .ok (.invokevirtual 176, 3) := by decide +kernel
theorem dX8_holds_99 : decode cX8_holds 99 = .ok (.pop, 1) := by decide +kernel
theorem dX8_holds_100 : decode cX8_holds 100 = .ok (.iconst 1, 1) := by decide +kernel
theorem dX8_holds_101 : decode cX8_holds 101 = .ok (.ireturn, 1) := by decide +kernel
theorem dX8_holds_102 : decode cX8_holds 102 = .ok (.aload_n 0, 1) := by decide +kernel
theorem dX8_holds_103 : decode cX8_holds 103 = .ok (.getfield 19, 3) := by decide +kernel
theorem dX8_holds_106 : decode cX8_holds 106 = .ok (.iload 4, 2) := by decide +kernel
theorem dX8_holds_108 : decode cX8_holds 108 = .ok (.invokevirtual 126, 3) := by decide +kernel
theorem dX8_holds_111 : decode cX8_holds 111 = .ok (.ifCond .eq 16, 3) := by decide +kernel
theorem dX8_holds_114 : decode cX8_holds 114 = .ok (.aload_n 0, 1) := by decide +kernel
theorem dX8_holds_115 : decode cX8_holds 115 = .ok (.getfield 32, 3) := by decide +kernel
theorem dX8_holds_118 : decode cX8_holds 118 = .ok (.iload 4, 2) := by decide +kernel
theorem dX8_holds_120 : decode cX8_holds 120 = .ok (.invokevirtual 129, 3) := by decide +kernel
theorem dX8_holds_123 : decode cX8_holds 123 = .ok (.iconst 1, 1) := by decide +kernel
theorem dX8_holds_124 : decode cX8_holds 124 = .ok (.if_icmp .eq 5, 3) := by decide +kernel
theorem dX8_holds_127 : decode cX8_holds 127 = .ok (.iconst 0, 1) := by decide +kernel
theorem dX8_holds_128 : decode cX8_holds 128 = .ok (.ireturn, 1) := by decide +kernel
theorem dX8_holds_129 : decode cX8_holds 129 = .ok (.aload_n 0, 1) := by decide +kernel
theorem dX8_holds_130 : decode cX8_holds 130 = .ok (.getfield 32, 3) := by decide +kernel
theorem dX8_holds_133 : decode cX8_holds 133 = .ok (.iload 4, 2) := by decide +kernel
theorem dX8_holds_135 : decode cX8_holds 135 = .ok (.invokevirtual 179, 3) := by decide +kernel
theorem dX8_holds_138 : decode cX8_holds 138 = .ok (.iconst 1, 1) := by decide +kernel
theorem dX8_holds_139 : decode cX8_holds 139 = .ok (.ireturn, 1) := by decide +kernel
theorem dX8_holds_140 : decode cX8_holds 140 = .ok (.iload_n 2, 1) := by decide +kernel
theorem dX8_holds_141 : decode cX8_holds 141 = .ok (.ifCond .ne 29, 3) := by decide +kernel
theorem dX8_holds_144 : decode cX8_holds 144 = .ok (.aload_n 0, 1) := by decide +kernel
theorem dX8_holds_145 : decode cX8_holds 145 = .ok (.getfield 19, 3) := by decide +kernel
theorem dX8_holds_148 : decode cX8_holds 148 = .ok (.iload_n 3, 1) := by decide +kernel
theorem dX8_holds_149 : decode cX8_holds 149 = .ok (.invokevirtual 139, 3) := by decide +kernel
theorem dX8_holds_152 : decode cX8_holds 152 = .ok (.ifCond .eq 18, 3) := by decide +kernel
theorem dX8_holds_155 : decode cX8_holds 155 = .ok (.aload_n 0, 1) := by decide +kernel
theorem dX8_holds_156 : decode cX8_holds 156 = .ok (.getfield 32, 3) := by decide +kernel
theorem dX8_holds_159 : decode cX8_holds 159 = .ok (.iload_n 3, 1) := by decide +kernel
theorem dX8_holds_160 : decode cX8_holds 160 = .ok (.invokevirtual 290, 3) := by decide +kernel
theorem dX8_holds_163 : decode cX8_holds 163 = .ok (.ifCond .eq 7, 3) := by decide +kernel
theorem dX8_holds_166 : decode cX8_holds 166 = .ok (.iconst 1, 1) := by decide +kernel
theorem dX8_holds_167 : decode cX8_holds 167 = .ok (.goto 4, 3) := by decide +kernel
theorem dX8_holds_170 : decode cX8_holds 170 = .ok (.iconst 0, 1) := by decide +kernel
theorem dX8_holds_171 : decode cX8_holds 171 = .ok (.ireturn, 1) := by decide +kernel
theorem dX8_holds_172 : decode cX8_holds 172 = .ok (.iconst 0, 1) := by decide +kernel
theorem dX8_holds_173 : decode cX8_holds 173 = .ok (.ireturn, 1) := by decide +kernel
theorem dX8_happens_0 : decode cX8_happens 0 = .ok (.iload_n 1, 1) := by decide +kernel
theorem dX8_happens_1 : decode cX8_happens 1 = .ok (.bipush 20, 2) := by decide +kernel
theorem dX8_happens_3 : decode cX8_happens 3 = .ok (.if_icmp .ge 33, 3) := by decide +kernel
theorem dX8_happens_6 : decode cX8_happens 6 = .ok (.iload_n 1, 1) := by decide +kernel
theorem dX8_happens_7 : decode cX8_happens 7 = .ok (.iconst 4, 1) := by decide +kernel
theorem dX8_happens_8 : decode cX8_happens 8 = .ok (.idiv, 1) := by decide +kernel
theorem dX8_happens_9 : decode cX8_happens 9 = .ok (.istore_n 2, 1) := by decide +kernel
theorem dX8_happens_10 : decode cX8_happens 10 = .ok (.aload_n 0, 1) := by decide +kernel
theorem dX8_happens_11 : decode cX8_happens 11 = .ok (.getfield 19, 3) := by decide +kernel
theorem dX8_happens_14 : decode cX8_happens 14 = .ok (.iload_n 2, 1) := by decide +kernel
theorem dX8_happens_15 : decode cX8_happens 15 = .ok (.invokevirtual 139, 3) := by decide +kernel
theorem dX8_happens_18 : decode cX8_happens 18 = .ok (.ifCond .eq 15, 3) := by decide +kernel
theorem dX8_happens_21 : decode cX8_happens 21 = .ok (.aload_n 0, 1) := by decide +kernel
theorem dX8_happens_22 : decode cX8_happens 22 = .ok (.getfield 32, 3) := by decide +kernel
theorem dX8_happens_25 : decode cX8_happens 25 = .ok (.iload_n 2, 1) := by decide +kernel
theorem dX8_happens_26 : decode cX8_happens 26 = .ok (.iload_n 1, 1) := by decide +kernel
theorem dX8_happens_27 : decode cX8_happens 27 = .ok (.iconst 4, 1) := by decide +kernel
theorem dX8_happens_28 : decode cX8_happens 28 = .ok (.irem, 1) := by decide +kernel
theorem dX8_happens_29 : decode cX8_happens 29 = .ok (.invokevirtual 172, 3) := by decide +kernel
theorem dX8_happens_32 : decode cX8_happens 32 = .ok (.pop, 1) := by decide +kernel
theorem dX8_happens_33 : decode cX8_happens 33 = .ok (.goto 29, 3) := by decide +kernel
theorem dX8_happens_36 : decode cX8_happens 36 = .ok (.aload_n 0, 1) := by decide +kernel
theorem dX8_happens_37 : decode cX8_happens 37 = .ok (.getfield 19, 3) := by decide +kernel
theorem dX8_happens_40 : decode cX8_happens 40 = .ok (.iload_n 1, 1) := by decide +kernel
theorem dX8_happens_41 : decode cX8_happens 41 = .ok (.bipush 20, 2) := by decide +kernel
theorem dX8_happens_43 : decode cX8_happens 43 = .ok (.isub, 1) := by decide +kernel
theorem dX8_happens_44 : decode cX8_happens 44 = .ok (.invokevirtual 126, 3) := by decide +kernel
theorem dX8_happens_47 : decode cX8_happens 47 = .ok (.ifCond .eq 15, 3) := by decide +kernel
theorem dX8_happens_50 : decode cX8_happens 50 = .ok (.aload_n 0, 1) := by decide +kernel
theorem dX8_happens_51 : decode cX8_happens 51 = .ok (.getfield 32, 3) := by decide +kernel
theorem dX8_happens_54 : decode cX8_happens 54 = .ok (.iload_n 1, 1) := by decide +kernel
theorem dX8_happens_55 : decode cX8_happens 55 = .ok (.bipush 20, 2) := by decide +kernel
theorem dX8_happens_57 : decode cX8_happens 57 = .ok (.isub, 1) := by decide +kernel
theorem dX8_happens_58 : decode cX8_happens 58 = .ok (.invokevirtual 176, 3) := by decide +kernel
theorem dX8_happens_61 : decode cX8_happens 61 = .ok (.pop, 1) := by decide +kernel
theorem dX8_happens_62 : decode cX8_happens 62 = .ok (.return_, 1) := by decide +kernel
theorem dX8_isRest_0 : decode cX8_isRest 0 = .ok (.aload_n 0, 1) := by decide +kernel
theorem dX8_isRest_1 : decode cX8_isRest 1 = .ok (.getfield 74, 3) := by decide +kernel
theorem dX8_isRest_4 : decode cX8_isRest 4 = .ok (.iload_n 1, 1) := by decide +kernel
theorem dX8_isRest_5 : decode cX8_isRest 5 = .ok (.aload_n 0, 1) := by decide +kernel
theorem dX8_isRest_6 : decode cX8_isRest 6 = .ok (.getfield 78, 3) := by decide +kernel
theorem dX8_isRest_9 : decode cX8_isRest 9 = .ok (.iload_n 2, 1) := by decide +kernel
theorem dX8_isRest_10 : decode cX8_isRest 10 = .ok (.invokevirtual 293, 3) := by decide +kernel
theorem dX8_isRest_13 : decode cX8_isRest 13 = .ok (.istore_n 3, 1) := by decide +kernel
theorem dX8_isRest_14 : decode cX8_isRest 14 = .ok (.aload_n 0, 1) := by decide +kernel
theorem dX8_isRest_15 : decode cX8_isRest 15 = .ok (.getfield 78, 3) := by decide +kernel
theorem dX8_isRest_18 : decode cX8_isRest 18 = .ok (.iload_n 2, 1) := by decide +kernel
theorem dX8_isRest_19 : decode cX8_isRest 19 = .ok (.aload_n 0, 1) := by decide +kernel
theorem dX8_isRest_20 : decode cX8_isRest 20 = .ok (.getfield 74, 3) := by decide +kernel
theorem dX8_isRest_23 : decode cX8_isRest 23 = .ok (.iload_n 1, 1) := by decide +kernel
theorem dX8_isRest_24 : decode cX8_isRest 24 = .ok (.invokevirtual 293, 3) := by decide +kernel
theorem dX8_isRest_27 : decode cX8_isRest 27 = .ok (.istore 4, 2) := by decide +kernel
theorem dX8_isRest_29 : decode cX8_isRest 29 = .ok (.iconst 0, 1) := by decide +kernel
theorem dX8_isRest_30 : decode cX8_isRest 30 = .ok (.istore 5, 2) := by decide +kernel
theorem dX8_isRest_32 : decode cX8_isRest 32 = .ok (.iload 5, 2) := by decide +kernel
theorem dX8_isRest_34 : decode cX8_isRest 34 = .ok (.iconst 4, 1) := by decide +kernel
theorem dX8_isRest_35 : decode cX8_isRest 35 = .ok (.if_icmp .ge 48, 3) := by decide +kernel
theorem dX8_isRest_38 : decode cX8_isRest 38 = .ok (.aload_n 0, 1) := by decide +kernel
theorem dX8_isRest_39 : decode cX8_isRest 39 = .ok (.getfield 74, 3) := by decide +kernel
theorem dX8_isRest_42 : decode cX8_isRest 42 = .ok (.iload 5, 2) := by decide +kernel
theorem dX8_isRest_44 : decode cX8_isRest 44 = .ok (.aload_n 0, 1) := by decide +kernel
theorem dX8_isRest_45 : decode cX8_isRest 45 = .ok (.getfield 78, 3) := by decide +kernel
theorem dX8_isRest_48 : decode cX8_isRest 48 = .ok (.iload_n 2, 1) := by decide +kernel
theorem dX8_isRest_49 : decode cX8_isRest 49 = .ok (.invokevirtual 293, 3) := by decide +kernel
theorem dX8_isRest_52 : decode cX8_isRest 52 = .ok (.iload_n 3, 1) := by decide +kernel
theorem dX8_isRest_53 : decode cX8_isRest 53 = .ok (.if_icmp .gt 22, 3) := by decide +kernel
theorem dX8_isRest_56 : decode cX8_isRest 56 = .ok (.aload_n 0, 1) := by decide +kernel
theorem dX8_isRest_57 : decode cX8_isRest 57 = .ok (.getfield 78, 3) := by decide +kernel
theorem dX8_isRest_60 : decode cX8_isRest 60 = .ok (.iload 5, 2) := by decide +kernel
theorem dX8_isRest_62 : decode cX8_isRest 62 = .ok (.aload_n 0, 1) := by decide +kernel
theorem dX8_isRest_63 : decode cX8_isRest 63 = .ok (.getfield 74, 3) := by decide +kernel
theorem dX8_isRest_66 : decode cX8_isRest 66 = .ok (.iload_n 1, 1) := by decide +kernel
theorem dX8_isRest_67 : decode cX8_isRest 67 = .ok (.invokevirtual 293, 3) := by decide +kernel
theorem dX8_isRest_70 : decode cX8_isRest 70 = .ok (.iload 4, 2) := by decide +kernel
theorem dX8_isRest_72 : decode cX8_isRest 72 = .ok (.if_icmp .le 5, 3) := by decide +kernel
theorem dX8_isRest_75 : decode cX8_isRest 75 = .ok (.iconst 0, 1) := by decide +kernel
theorem dX8_isRest_76 : decode cX8_isRest 76 = .ok (.ireturn, 1) := by decide +kernel
theorem dX8_isRest_77 : decode cX8_isRest 77 = .ok (.iinc 5 1, 3) := by decide +kernel
theorem dX8_isRest_80 : decode cX8_isRest 80 = .ok (.goto (-48), 3) := by decide +kernel
theorem dX8_isRest_83 : decode cX8_isRest 83 = .ok (.iconst 1, 1) := by decide +kernel
theorem dX8_isRest_84 : decode cX8_isRest 84 = .ok (.ireturn, 1) := by decide +kernel
theorem dX8_countOfRests_0 : decode cX8_countOfRests 0 = .ok (.iconst 0, 1) := by decide +kernel
theorem dX8_countOfRests_1 : decode cX8_countOfRests 1 = .ok (.istore_n 1, 1) := by decide +kernel
theorem dX8_countOfRests_2 : decode cX8_countOfRests 2 = .ok (.iconst 0, 1) := by decide +kernel
theorem dX8_countOfRests_3 : decode cX8_countOfRests 3 = .ok (.istore_n 2, 1) := by decide +kernel
theorem dX8_countOfRests_4 : decode cX8_countOfRests 4 = .ok (.iload_n 2, 1) := by decide +kernel
theorem dX8_countOfRests_5 : decode cX8_countOfRests 5 = .ok (.iconst 4, 1) := by decide +kernel
theorem dX8_countOfRests_6 : decode cX8_countOfRests 6 = .ok (.if_icmp .ge 34, 3) := by decide +kernel
theorem dX8_countOfRests_9 : decode cX8_countOfRests 9 = .ok (.iconst 0, 1) := by decide +kernel
theorem dX8_countOfRests_10 : decode cX8_countOfRests 10 = .ok (.istore_n 3, 1) := by decide +kernel
theorem dX8_countOfRests_11 : decode cX8_countOfRests 11 = .ok (.iload_n 3, 1) := by decide +kernel
theorem dX8_countOfRests_12 : decode cX8_countOfRests 12 = .ok (.iconst 4, 1) := by decide +kernel
theorem dX8_countOfRests_13 : decode cX8_countOfRests 13 = .ok (.if_icmp .ge 21, 3) := by decide +kernel
theorem dX8_countOfRests_16 : decode cX8_countOfRests 16 = .ok (.aload_n 0, 1) := by decide +kernel
theorem dX8_countOfRests_17 : decode cX8_countOfRests 17 = .ok (.iload_n 2, 1) := by decide +kernel
theorem dX8_countOfRests_18 : decode cX8_countOfRests 18 = .ok (.iload_n 3, 1) := by decide +kernel
theorem dX8_countOfRests_19 : decode cX8_countOfRests 19 = .ok (.invokevirtual 297, 3) := by decide +kernel
theorem dX8_countOfRests_22 : decode cX8_countOfRests 22 = .ok (.ifCond .eq 6, 3) := by decide +kernel
theorem dX8_countOfRests_25 : decode cX8_countOfRests 25 = .ok (.iinc 1 1, 3) := by decide +kernel
theorem dX8_countOfRests_28 : decode cX8_countOfRests 28 = .ok (.iinc 3 1, 3) := by decide +kernel
theorem dX8_countOfRests_31 : decode cX8_countOfRests 31 = .ok (.goto (-20), 3) := by decide +kernel
theorem dX8_countOfRests_34 : decode cX8_countOfRests 34 = .ok (.iinc 2 1, 3) := by decide +kernel
theorem dX8_countOfRests_37 : decode cX8_countOfRests 37 = .ok (.goto (-33), 3) := by decide +kernel
theorem dX8_countOfRests_40 : decode cX8_countOfRests 40 = .ok (.iload_n 1, 1) := by decide +kernel
theorem dX8_countOfRests_41 : decode cX8_countOfRests 41 = .ok (.ireturn, 1) := by decide +kernel
theorem dX8_firstRest_0 : decode cX8_firstRest 0 = .ok (.iconst 0, 1) := by decide +kernel
theorem dX8_firstRest_1 : decode cX8_firstRest 1 = .ok (.istore_n 1, 1) := by decide +kernel
theorem dX8_firstRest_2 : decode cX8_firstRest 2 = .ok (.iload_n 1, 1) := by decide +kernel
theorem dX8_firstRest_3 : decode cX8_firstRest 3 = .ok (.iconst 4, 1) := by decide +kernel
theorem dX8_firstRest_4 : decode cX8_firstRest 4 = .ok (.if_icmp .ge 38, 3) := by decide +kernel
theorem dX8_firstRest_7 : decode cX8_firstRest 7 = .ok (.iconst 0, 1) := by decide +kernel
theorem dX8_firstRest_8 : decode cX8_firstRest 8 = .ok (.istore_n 2, 1) := by decide +kernel
theorem dX8_firstRest_9 : decode cX8_firstRest 9 = .ok (.iload_n 2, 1) := by decide +kernel
theorem dX8_firstRest_10 : decode cX8_firstRest 10 = .ok (.iconst 4, 1) := by decide +kernel
theorem dX8_firstRest_11 : decode cX8_firstRest 11 = .ok (.if_icmp .ge 25, 3) := by decide +kernel
theorem dX8_firstRest_14 : decode cX8_firstRest 14 = .ok (.aload_n 0, 1) := by decide +kernel
theorem dX8_firstRest_15 : decode cX8_firstRest 15 = .ok (.iload_n 1, 1) := by decide +kernel
theorem dX8_firstRest_16 : decode cX8_firstRest 16 = .ok (.iload_n 2, 1) := by decide +kernel
theorem dX8_firstRest_17 : decode cX8_firstRest 17 = .ok (.invokevirtual 297, 3) := by decide +kernel
theorem dX8_firstRest_20 : decode cX8_firstRest 20 = .ok (.ifCond .eq 10, 3) := by decide +kernel
theorem dX8_firstRest_23 : decode cX8_firstRest 23 = .ok (.bipush 10, 2) := by decide +kernel
theorem dX8_firstRest_25 : decode cX8_firstRest 25 = .ok (.iload_n 1, 1) := by decide +kernel
theorem dX8_firstRest_26 : decode cX8_firstRest 26 = .ok (.imul, 1) := by decide +kernel
theorem dX8_firstRest_27 : decode cX8_firstRest 27 = .ok (.iload_n 2, 1) := by decide +kernel
theorem dX8_firstRest_28 : decode cX8_firstRest 28 = .ok (.iadd, 1) := by decide +kernel
theorem dX8_firstRest_29 : decode cX8_firstRest 29 = .ok (.ireturn, 1) := by decide +kernel
theorem dX8_firstRest_30 : decode cX8_firstRest 30 = .ok (.iinc 2 1, 3) := by decide +kernel
theorem dX8_firstRest_33 : decode cX8_firstRest 33 = .ok (.goto (-24), 3) := by decide +kernel
theorem dX8_firstRest_36 : decode cX8_firstRest 36 = .ok (.iinc 1 1, 3) := by decide +kernel
theorem dX8_firstRest_39 : decode cX8_firstRest 39 = .ok (.goto (-37), 3) := by decide +kernel
theorem dX8_firstRest_42 : decode cX8_firstRest 42 = .ok (.bipush (-9), 2) := by decide +kernel
theorem dX8_firstRest_44 : decode cX8_firstRest 44 = .ok (.ireturn, 1) := by decide +kernel
theorem dX8_walksHome_0 : decode cX8_walksHome 0 = .ok (.iload_n 3, 1) := by decide +kernel
theorem dX8_walksHome_1 : decode cX8_walksHome 1 = .ok (.ifCond .gt 18, 3) := by decide +kernel
theorem dX8_walksHome_4 : decode cX8_walksHome 4 = .ok (.iload_n 2, 1) := by decide +kernel
theorem dX8_walksHome_5 : decode cX8_walksHome 5 = .ok (.aload_n 0, 1) := by decide +kernel
theorem dX8_walksHome_6 : decode cX8_walksHome 6 = .ok (.iload_n 1, 1) := by decide +kernel
theorem dX8_walksHome_7 : decode cX8_walksHome 7 = .ok (.invokevirtual 300, 3) := by decide +kernel
theorem dX8_walksHome_10 : decode cX8_walksHome 10 = .ok (.if_icmp .ne 7, 3) := by decide +kernel
theorem dX8_walksHome_13 : decode cX8_walksHome 13 = .ok (.iconst 1, 1) := by decide +kernel
theorem dX8_walksHome_14 : decode cX8_walksHome 14 = .ok (.goto 4, 3) := by decide +kernel
theorem dX8_walksHome_17 : decode cX8_walksHome 17 = .ok (.iconst 0, 1) := by decide +kernel
theorem dX8_walksHome_18 : decode cX8_walksHome 18 = .ok (.ireturn, 1) := by decide +kernel
theorem dX8_walksHome_19 : decode cX8_walksHome 19 = .ok (.iconst 0, 1) := by decide +kernel
theorem dX8_walksHome_20 : decode cX8_walksHome 20 = .ok (.istore 4, 2) := by decide +kernel
theorem dX8_walksHome_22 : decode cX8_walksHome 22 = .ok (.iconst 0, 1) := by decide +kernel
theorem dX8_walksHome_23 : decode cX8_walksHome 23 = .ok (.istore 5, 2) := by decide +kernel
theorem dX8_walksHome_25 : decode cX8_walksHome 25 = .ok (.iload 5, 2) := by decide +kernel
theorem dX8_walksHome_27 : decode cX8_walksHome 27 = .ok (.iconst 4, 1) := by decide +kernel
theorem dX8_walksHome_28 : decode cX8_walksHome 28 = .ok (.if_icmp .ge 44, 3) := by decide +kernel
theorem dX8_walksHome_31 : decode cX8_walksHome 31 = .ok (.aload_n 0, 1) := by decide +kernel
theorem dX8_walksHome_32 : decode cX8_walksHome 32 = .ok (.iload_n 1, 1) := by decide +kernel
theorem dX8_walksHome_33 : decode cX8_walksHome 33 = .ok (.iload_n 2, 1) := by decide +kernel
theorem dX8_walksHome_34 : decode cX8_walksHome 34 = .ok (.iload 5, 2) := by decide +kernel
theorem dX8_walksHome_36 : decode cX8_walksHome 36 = .ok (.invokevirtual 164, 3) := by decide +kernel
theorem dX8_walksHome_39 : decode cX8_walksHome 39 = .ok (.istore 6, 2) := by decide +kernel
theorem dX8_walksHome_41 : decode cX8_walksHome 41 = .ok (.iload 4, 2) := by decide +kernel
theorem dX8_walksHome_43 : decode cX8_walksHome 43 = .ok (.aload_n 0, 1) := by decide +kernel
theorem dX8_walksHome_44 : decode cX8_walksHome 44 = .ok (.iload_n 1, 1) := by decide +kernel
theorem dX8_walksHome_45 : decode cX8_walksHome 45 = .ok (.iload 6, 2) := by decide +kernel
theorem dX8_walksHome_47 : decode cX8_walksHome 47 = .ok (.iconst (-1), 1) := by decide +kernel
theorem dX8_walksHome_48 : decode cX8_walksHome 48 = .ok (.if_icmp .ne 7, 3) := by decide +kernel
theorem dX8_walksHome_51 : decode cX8_walksHome 51 = .ok (.iload_n 2, 1) := by decide +kernel
theorem dX8_walksHome_52 : decode cX8_walksHome 52 = .ok (.goto 5, 3) := by decide +kernel
theorem dX8_walksHome_55 : decode cX8_walksHome 55 = .ok (.iload 6, 2) := by decide +kernel
theorem dX8_walksHome_57 : decode cX8_walksHome 57 = .ok (.iload_n 3, 1) := by decide +kernel
theorem dX8_walksHome_58 : decode cX8_walksHome 58 = .ok (.iconst 1, 1) := by decide +kernel
theorem dX8_walksHome_59 : decode cX8_walksHome 59 = .ok (.isub, 1) := by decide +kernel
theorem dX8_walksHome_60 : decode cX8_walksHome 60 = .ok (.invokestatic 255, 3) := by decide +kernel
theorem dX8_walksHome_63 : decode cX8_walksHome 63 = .ok (.iadd, 1) := by decide +kernel
theorem dX8_walksHome_64 : decode cX8_walksHome 64 = .ok (.istore 4, 2) := by decide +kernel
theorem dX8_walksHome_66 : decode cX8_walksHome 66 = .ok (.iinc 5 1, 3) := by decide +kernel
theorem dX8_walksHome_69 : decode cX8_walksHome 69 = .ok (.goto (-44), 3) := by decide +kernel
theorem dX8_walksHome_72 : decode cX8_walksHome 72 = .ok (.iload 4, 2) := by decide +kernel
theorem dX8_walksHome_74 : decode cX8_walksHome 74 = .ok (.ireturn, 1) := by decide +kernel
theorem dX9_init_0 : decode cX9_init 0 = .ok (.aload_n 0, 1) := by decide +kernel
theorem dX9_init_1 : decode cX9_init 1 = .ok (.invokespecial 1, 3) := by decide +kernel
theorem dX9_init_4 : decode cX9_init 4 = .ok (.aload_n 0, 1) := by decide +kernel
theorem dX9_init_5 : decode cX9_init 5 = .ok (.bipush 48, 2) := by decide +kernel
theorem dX9_init_7 : decode cX9_init 7 = .ok (.newarray .int, 2) := by decide +kernel
theorem dX9_init_9 : decode cX9_init 9 = .ok (.putfield 7, 3) := by decide +kernel
theorem dX9_init_12 : decode cX9_init 12 = .ok (.aload_n 0, 1) := by decide +kernel
theorem dX9_init_13 : decode cX9_init 13 = .ok (.iconst 2, 1) := by decide +kernel
theorem dX9_init_14 : decode cX9_init 14 = .ok (.putfield 13, 3) := by decide +kernel
theorem dX9_init_17 : decode cX9_init 17 = .ok (.aload_n 0, 1) := by decide +kernel
theorem dX9_init_18 : decode cX9_init 18 = .ok (.iconst 2, 1) := by decide +kernel
theorem dX9_init_19 : decode cX9_init 19 = .ok (.putfield 17, 3) := by decide +kernel
theorem dX9_init_22 : decode cX9_init 22 = .ok (.aload_n 0, 1) := by decide +kernel
theorem dX9_init_23 : decode cX9_init 23 = .ok (.bipush 20, 2) := by decide +kernel
theorem dX9_init_25 : decode cX9_init 25 = .ok (.newarray .int, 2) := by decide +kernel
theorem dX9_init_27 : decode cX9_init 27 = .ok (.putfield 20, 3) := by decide +kernel
theorem dX9_init_30 : decode cX9_init 30 = .ok (.aload_n 0, 1) := by decide +kernel
theorem dX9_init_31 : decode cX9_init 31 = .ok (.iconst 5, 1) := by decide +kernel
theorem dX9_init_32 : decode cX9_init 32 = .ok (.newarray .int, 2) := by decide +kernel
theorem dX9_init_34 : decode cX9_init 34 = .ok (.putfield 23, 3) := by decide +kernel
theorem dX9_init_37 : decode cX9_init 37 = .ok (.aload_n 0, 1) := by decide +kernel
theorem dX9_init_38 : decode cX9_init 38 = .ok (.iconst 5, 1) := by decide +kernel
theorem dX9_init_39 : decode cX9_init 39 = .ok (.newarray .int, 2) := by decide +kernel
theorem dX9_init_41 : decode cX9_init 41 = .ok (.putfield 26, 3) := by decide +kernel
theorem dX9_init_44 : decode cX9_init 44 = .ok (.aload_n 0, 1) := by decide +kernel
theorem dX9_init_45 : decode cX9_init 45 = .ok (.bipush 20, 2) := by decide +kernel
theorem dX9_init_47 : decode cX9_init 47 = .ok (.newarray .int, 2) := by decide +kernel
theorem dX9_init_49 : decode cX9_init 49 = .ok (.putfield 29, 3) := by decide +kernel
theorem dX9_init_52 : decode cX9_init 52 = .ok (.aload_n 0, 1) := by decide +kernel
theorem dX9_init_53 : decode cX9_init 53 = .ok (.bipush 10, 2) := by decide +kernel
theorem dX9_init_55 : decode cX9_init 55 = .ok (.newarray .int, 2) := by decide +kernel
theorem dX9_init_57 : decode cX9_init 57 = .ok (.putfield 32, 3) := by decide +kernel
theorem dX9_init_60 : decode cX9_init 60 = .ok (.aload_n 0, 1) := by decide +kernel
theorem dX9_init_61 : decode cX9_init 61 = .ok (.bipush 16, 2) := by decide +kernel
theorem dX9_init_63 : decode cX9_init 63 = .ok (.newarray .int, 2) := by decide +kernel
theorem dX9_init_65 : decode cX9_init 65 = .ok (.putfield 35, 3) := by decide +kernel
theorem dX9_init_68 : decode cX9_init 68 = .ok (.aload_n 0, 1) := by decide +kernel
theorem dX9_init_69 : decode cX9_init 69 = .ok (.bipush 16, 2) := by decide +kernel
theorem dX9_init_71 : decode cX9_init 71 = .ok (.newarray .int, 2) := by decide +kernel
theorem dX9_init_73 : decode cX9_init 73 = .ok (.putfield 38, 3) := by decide +kernel
theorem dX9_init_76 : decode cX9_init 76 = .ok (.aload_n 0, 1) := by decide +kernel
theorem dX9_init_77 : decode cX9_init 77 = .ok (.sipush 224, 3) := by decide +kernel
theorem dX9_init_80 : decode cX9_init 80 = .ok (.newarray .int, 2) := by decide +kernel
theorem dX9_init_82 : decode cX9_init 82 = .ok (.putfield 41, 3) := by decide +kernel
theorem dX9_init_85 : decode cX9_init 85 = .ok (.aload_n 0, 1) := by decide +kernel
theorem dX9_init_86 : decode cX9_init 86 = .ok (.bipush 32, 2) := by decide +kernel
theorem dX9_init_88 : decode cX9_init 88 = .ok (.newarray .int, 2) := by decide +kernel
theorem dX9_init_90 : decode cX9_init 90 = .ok (.putfield 44, 3) := by decide +kernel
theorem dX9_init_93 : decode cX9_init 93 = .ok (.aload_n 0, 1) := by decide +kernel
theorem dX9_init_94 : decode cX9_init 94 = .ok (.iconst 2, 1) := by decide +kernel
theorem dX9_init_95 : decode cX9_init 95 = .ok (.newarray .boolean, 2) := by decide +kernel
theorem dX9_init_97 : decode cX9_init 97 = .ok (.putfield 47, 3) := by decide +kernel
theorem dX9_init_100 : decode cX9_init 100 = .ok (.aload_n 0, 1) := by decide +kernel
theorem dX9_init_101 : decode cX9_init 101 = .ok (.bipush 6, 2) := by decide +kernel
theorem dX9_init_103 : decode cX9_init 103 = .ok (.newarray .int, 2) := by decide +kernel
theorem dX9_init_105 : decode cX9_init 105 = .ok (.putfield 51, 3) := by decide +kernel
theorem dX9_init_108 : decode cX9_init 108 = .ok (.aload_n 0, 1) := by decide +kernel
theorem dX9_init_109 : decode cX9_init 109 = .ok (.bipush 6, 2) := by decide +kernel
theorem dX9_init_111 : decode cX9_init 111 = .ok (.newarray .int, 2) := by decide +kernel
theorem dX9_init_113 : decode cX9_init 113 = .ok (.putfield 54, 3) := by decide +kernel
theorem dX9_init_116 : decode cX9_init 116 = .ok (.aload_n 0, 1) := by decide +kernel
theorem dX9_init_117 : decode cX9_init 117 = .ok (.bipush 6, 2) := by decide +kernel
theorem dX9_init_119 : decode cX9_init 119 = .ok (.newarray .int, 2) := by decide +kernel
theorem dX9_init_121 : decode cX9_init 121 = .ok (.putfield 57, 3) := by decide +kernel
theorem dX9_init_124 : decode cX9_init 124 = .ok (.aload_n 0, 1) := by decide +kernel
theorem dX9_init_125 : decode cX9_init 125 = .ok (.iconst 3, 1) := by decide +kernel
theorem dX9_init_126 : decode cX9_init 126 = .ok (.newarray .int, 2) := by decide +kernel
theorem dX9_init_128 : decode cX9_init 128 = .ok (.putfield 60, 3) := by decide +kernel
theorem dX9_init_131 : decode cX9_init 131 = .ok (.aload_n 0, 1) := by decide +kernel
theorem dX9_init_132 : decode cX9_init 132 = .ok (.sipush 980, 3) := by decide +kernel
theorem dX9_init_135 : decode cX9_init 135 = .ok (.newarray .int, 2) := by decide +kernel
theorem dX9_init_137 : decode cX9_init 137 = .ok (.putfield 63, 3) := by decide +kernel
theorem dX9_init_140 : decode cX9_init 140 = .ok (.aload_n 0, 1) := by decide +kernel
theorem dX9_init_141 : decode cX9_init 141 = .ok (.sipush 980, 3) := by decide +kernel
theorem dX9_init_144 : decode cX9_init 144 = .ok (.newarray .int, 2) := by decide +kernel
theorem dX9_init_146 : decode cX9_init 146 = .ok (.putfield 66, 3) := by decide +kernel
theorem dX9_init_149 : decode cX9_init 149 = .ok (.aload_n 0, 1) := by decide +kernel
theorem dX9_init_150 : decode cX9_init 150 = .ok (.bipush 32, 2) := by decide +kernel
theorem dX9_init_152 : decode cX9_init 152 = .ok (.newarray .int, 2) := by decide +kernel
theorem dX9_init_154 : decode cX9_init 154 = .ok (.putfield 69, 3) := by decide +kernel
theorem dX9_init_157 : decode cX9_init 157 = .ok (.aload_n 0, 1) := by decide +kernel
theorem dX9_init_158 : decode cX9_init 158 = .ok (.bipush 32, 2) := by decide +kernel
theorem dX9_init_160 : decode cX9_init 160 = .ok (.newarray .int, 2) := by decide +kernel
theorem dX9_init_162 : decode cX9_init 162 = .ok (.putfield 72, 3) := by decide +kernel
theorem dX9_init_165 : decode cX9_init 165 = .ok (.aload_n 0, 1) := by decide +kernel
theorem dX9_init_166 : decode cX9_init 166 = .ok (.getfield 35, 3) := by decide +kernel
theorem dX9_init_169 : decode cX9_init 169 = .ok (.bipush 15, 2) := by decide +kernel
theorem dX9_init_171 : decode cX9_init 171 = .ok (.iconst 0, 1) := by decide +kernel
theorem dX9_init_172 : decode cX9_init 172 = .ok (.iastore, 1) := by decide +kernel
theorem dX9_init_173 : decode cX9_init 173 = .ok (.return_, 1) := by decide +kernel
theorem dX9_in_0 : decode cX9_in 0 = .ok (.lload_n 0, 1) := by decide +kernel
theorem dX9_in_1 : decode cX9_in 1 = .ok (.lload_n 2, 1) := by decide +kernel
theorem dX9_in_2 : decode cX9_in 2 = .ok (.lcmp, 1) := by decide +kernel
theorem dX9_in_3 : decode cX9_in 3 = .ok (.ifCond .lt 14, 3) := by decide +kernel
theorem dX9_in_6 : decode cX9_in 6 = .ok (.lload_n 0, 1) := by decide +kernel
theorem dX9_in_7 : decode cX9_in 7 = .ok (.lload 4, 2) := by decide +kernel
theorem dX9_in_9 : decode cX9_in 9 = .ok (.lcmp, 1) := by decide +kernel
theorem dX9_in_10 : decode cX9_in 10 = .ok (.ifCond .gt 7, 3) := by decide +kernel
theorem dX9_in_13 : decode cX9_in 13 = .ok (.iconst 1, 1) := by decide +kernel
theorem dX9_in_14 : decode cX9_in 14 = .ok (.goto 4, 3) := by decide +kernel
theorem dX9_in_17 : decode cX9_in 17 = .ok (.iconst 0, 1) := by decide +kernel
theorem dX9_in_18 : decode cX9_in 18 = .ok (.ireturn, 1) := by decide +kernel
theorem dX9_has_0 : decode cX9_has 0 = .ok (.iload_n 0, 1) := by decide +kernel
theorem dX9_has_1 : decode cX9_has 1 = .ok (.iload_n 1, 1) := by decide +kernel
theorem dX9_has_2 : decode cX9_has 2 = .ok (.ishr, 1) := by decide +kernel
theorem dX9_has_3 : decode cX9_has 3 = .ok (.iconst 1, 1) := by decide +kernel
theorem dX9_has_4 : decode cX9_has 4 = .ok (.iand, 1) := by decide +kernel
theorem dX9_has_5 : decode cX9_has 5 = .ok (.iconst 1, 1) := by decide +kernel
theorem dX9_has_6 : decode cX9_has 6 = .ok (.if_icmp .ne 7, 3) := by decide +kernel
theorem dX9_has_9 : decode cX9_has 9 = .ok (.iconst 1, 1) := by decide +kernel
theorem dX9_has_10 : decode cX9_has 10 = .ok (.goto 4, 3) := by decide +kernel
theorem dX9_has_13 : decode cX9_has 13 = .ok (.iconst 0, 1) := by decide +kernel
theorem dX9_has_14 : decode cX9_has 14 = .ok (.ireturn, 1) := by decide +kernel
theorem dX9_many_0 : decode cX9_many 0 = .ok (.iconst 0, 1) := by decide +kernel
theorem dX9_many_1 : decode cX9_many 1 = .ok (.istore_n 1, 1) := by decide +kernel
theorem dX9_many_2 : decode cX9_many 2 = .ok (.iconst 0, 1) := by decide +kernel
theorem dX9_many_3 : decode cX9_many 3 = .ok (.istore_n 2, 1) := by decide +kernel
theorem dX9_many_4 : decode cX9_many 4 = .ok (.iload_n 2, 1) := by decide +kernel
theorem dX9_many_5 : decode cX9_many 5 = .ok (.bipush 20, 2) := by decide +kernel
theorem dX9_many_7 : decode cX9_many 7 = .ok (.if_icmp .ge 17, 3) := by decide +kernel
theorem dX9_many_10 : decode cX9_many 10 = .ok (.iload_n 1, 1) := by decide +kernel
theorem dX9_many_11 : decode cX9_many 11 = .ok (.iload_n 0, 1) := by decide +kernel
theorem dX9_many_12 : decode cX9_many 12 = .ok (.iload_n 2, 1) := by decide +kernel
theorem dX9_many_13 : decode cX9_many 13 = .ok (.ishr, 1) := by decide +kernel
theorem dX9_many_14 : decode cX9_many 14 = .ok (.iconst 1, 1) := by decide +kernel
theorem dX9_many_15 : decode cX9_many 15 = .ok (.iand, 1) := by decide +kernel
theorem dX9_many_16 : decode cX9_many 16 = .ok (.iadd, 1) := by decide +kernel
theorem dX9_many_17 : decode cX9_many 17 = .ok (.istore_n 1, 1) := by decide +kernel
theorem dX9_many_18 : decode cX9_many 18 = .ok (.iinc 2 1, 3) := by decide +kernel
theorem dX9_many_21 : decode cX9_many 21 = .ok (.goto (-17), 3) := by decide +kernel
theorem dX9_many_24 : decode cX9_many 24 = .ok (.iload_n 1, 1) := by decide +kernel
theorem dX9_many_25 : decode cX9_many 25 = .ok (.ireturn, 1) := by decide +kernel
theorem dX9_power_0 : decode cX9_power 0 = .ok (.iconst 1, 1) := by decide +kernel
theorem dX9_power_1 : decode cX9_power 1 = .ok (.istore_n 2, 1) := by decide +kernel
theorem dX9_power_2 : decode cX9_power 2 = .ok (.iconst 0, 1) := by decide +kernel
theorem dX9_power_3 : decode cX9_power 3 = .ok (.istore_n 3, 1) := by decide +kernel
theorem dX9_power_4 : decode cX9_power 4 = .ok (.iload_n 3, 1) := by decide +kernel
theorem dX9_power_5 : decode cX9_power 5 = .ok (.iload_n 1, 1) := by decide +kernel
theorem dX9_power_6 : decode cX9_power 6 = .ok (.if_icmp .ge 13, 3) := by decide +kernel
theorem dX9_power_9 : decode cX9_power 9 = .ok (.iload_n 2, 1) := by decide +kernel
theorem dX9_power_10 : decode cX9_power 10 = .ok (.iload_n 0, 1) := by decide +kernel
theorem dX9_power_11 : decode cX9_power 11 = .ok (.imul, 1) := by decide +kernel
theorem dX9_power_12 : decode cX9_power 12 = .ok (.istore_n 2, 1) := by decide +kernel
theorem dX9_power_13 : decode cX9_power 13 = .ok (.iinc 3 1, 3) := by decide +kernel
theorem dX9_power_16 : decode cX9_power 16 = .ok (.goto (-12), 3) := by decide +kernel
theorem dX9_power_19 : decode cX9_power 19 = .ok (.iload_n 2, 1) := by decide +kernel
theorem dX9_power_20 : decode cX9_power 20 = .ok (.ireturn, 1) := by decide +kernel
theorem dX9_noBoy_0 : decode cX9_noBoy 0 = .ok (.iload_n 1, 1) := by decide +kernel
theorem dX9_noBoy_1 : decode cX9_noBoy 1 = .ok (.i2l, 1) := by decide +kernel
theorem dX9_noBoy_2 : decode cX9_noBoy 2 = .ok (.lconst 0, 1) := by decide +kernel
theorem dX9_noBoy_3 : decode cX9_noBoy 3 = .ok (.aload_n 0, 1) := by decide +kernel
theorem dX9_noBoy_4 : decode cX9_noBoy 4 = .ok (.getfield 78, 3) := by decide +kernel
theorem dX9_noBoy_7 : decode cX9_noBoy 7 = .ok (.iconst 1, 1) := by decide +kernel
theorem dX9_noBoy_8 : decode cX9_noBoy 8 = .ok (.isub, 1) := by decide +kernel
theorem dX9_noBoy_9 : decode cX9_noBoy 9 = .ok (.i2l, 1) := by decide +kernel
theorem dX9_noBoy_10 : decode cX9_noBoy 10 = .ok (.invokestatic 81, 3) := by decide +kernel
theorem dX9_noBoy_13 : decode cX9_noBoy 13 = .ok (.ifCond .ne 7, 3) := by decide +kernel
theorem dX9_noBoy_16 : decode cX9_noBoy 16 = .ok (.iconst 1, 1) := by decide +kernel
theorem dX9_noBoy_17 : decode cX9_noBoy 17 = .ok (.goto 4, 3) := by decide +kernel
theorem dX9_noBoy_20 : decode cX9_noBoy 20 = .ok (.iconst 0, 1) := by decide +kernel
theorem dX9_noBoy_21 : decode cX9_noBoy 21 = .ok (.ireturn, 1) := by decide +kernel
theorem dX9_noCell_0 : decode cX9_noCell 0 = .ok (.iload_n 1, 1) := by decide +kernel
theorem dX9_noCell_1 : decode cX9_noCell 1 = .ok (.i2l, 1) := by decide +kernel
theorem dX9_noCell_2 : decode cX9_noCell 2 = .ok (.lconst 0, 1) := by decide +kernel
theorem dX9_noCell_3 : decode cX9_noCell 3 = .ok (.aload_n 0, 1) := by decide +kernel
theorem dX9_noCell_4 : decode cX9_noCell 4 = .ok (.getfield 13, 3) := by decide +kernel
theorem dX9_noCell_7 : decode cX9_noCell 7 = .ok (.aload_n 0, 1) := by decide +kernel
theorem dX9_noCell_8 : decode cX9_noCell 8 = .ok (.getfield 17, 3) := by decide +kernel
theorem dX9_noCell_11 : decode cX9_noCell 11 = .ok (.imul, 1) := by decide +kernel
theorem dX9_noCell_12 : decode cX9_noCell 12 = .ok (.iconst 1, 1) := by decide +kernel
theorem dX9_noCell_13 : decode cX9_noCell 13 = .ok (.isub, 1) := by decide +kernel
theorem dX9_noCell_14 : decode cX9_noCell 14 = .ok (.i2l, 1) := by decide +kernel
theorem dX9_noCell_15 : decode cX9_noCell 15 = .ok (.invokestatic 81, 3) := by decide +kernel
theorem dX9_noCell_18 : decode cX9_noCell 18 = .ok (.ifCond .ne 7, 3) := by decide +kernel
theorem dX9_noCell_21 : decode cX9_noCell 21 = .ok (.iconst 1, 1) := by decide +kernel
theorem dX9_noCell_22 : decode cX9_noCell 22 = .ok (.goto 4, 3) := by decide +kernel
theorem dX9_noCell_25 : decode cX9_noCell 25 = .ok (.iconst 0, 1) := by decide +kernel
theorem dX9_noCell_26 : decode cX9_noCell 26 = .ok (.ireturn, 1) := by decide +kernel
theorem dX9_noWay_0 : decode cX9_noWay 0 = .ok (.iload_n 0, 1) := by decide +kernel
theorem dX9_noWay_1 : decode cX9_noWay 1 = .ok (.i2l, 1) := by decide +kernel
theorem dX9_noWay_2 : decode cX9_noWay 2 = .ok (.lconst 0, 1) := by decide +kernel
theorem dX9_noWay_3 : decode cX9_noWay 3 = .ok (.ldc2_w 85, 3) := by decide +kernel
theorem dX9_noWay_6 : decode cX9_noWay 6 = .ok (.invokestatic 81, 3) := by decide +kernel
theorem dX9_noWay_9 : decode cX9_noWay 9 = .ok (.ifCond .ne 7, 3) := by decide +kernel
theorem dX9_noWay_12 : decode cX9_noWay 12 = .ok (.iconst 1, 1) := by decide +kernel
theorem dX9_noWay_13 : decode cX9_noWay 13 = .ok (.goto 4, 3) := by decide +kernel
theorem dX9_noWay_16 : decode cX9_noWay 16 = .ok (.iconst 0, 1) := by decide +kernel
theorem dX9_noWay_17 : decode cX9_noWay 17 = .ok (.ireturn, 1) := by decide +kernel
theorem dX9_write_0 : decode cX9_write 0 = .ok (.aload_n 0, 1) := by decide +kernel
theorem dX9_write_1 : decode cX9_write 1 = .ok (.iconst 0, 1) := by decide +kernel
theorem dX9_write_2 : decode cX9_write 2 = .ok (.putfield 75, 3) := by decide +kernel
theorem dX9_write_5 : decode cX9_write 5 = .ok (.iload_n 1, 1) := by decide +kernel
theorem dX9_write_6 : decode cX9_write 6 = .ok (.i2l, 1) := by decide +kernel
theorem dX9_write_7 : decode cX9_write 7 = .ok (.lconst 0, 1) := by decide +kernel
theorem dX9_write_8 : decode cX9_write 8 = .ok (.ldc2_w 87, 3) := by decide +kernel
theorem dX9_write_11 : decode cX9_write 11 = .ok (.invokestatic 81, 3) := by decide +kernel
theorem dX9_write_14 : decode cX9_write 14 = .ok (.ifCond .ne 6, 3) := by decide +kernel
theorem dX9_write_17 : decode cX9_write 17 = .ok (.bipush (-2), 2) := by decide +kernel
theorem dX9_write_19 : decode cX9_write 19 = .ok (.ireturn, 1) := by decide +kernel
theorem dX9_write_20 : decode cX9_write 20 = .ok (.aload_n 0, 1) := by decide +kernel
theorem dX9_write_21 : decode cX9_write 21 = .ok (.getfield 89, 3) := by decide +kernel
theorem dX9_write_24 : decode cX9_write 24 = .ok (.bipush 48, 2) := by decide +kernel
theorem dX9_write_26 : decode cX9_write 26 = .ok (.if_icmp .ne 6, 3) := by decide +kernel
theorem dX9_write_29 : decode cX9_write 29 = .ok (.bipush (-4), 2) := by decide +kernel
theorem dX9_write_31 : decode cX9_write 31 = .ok (.ireturn, 1) := by decide +kernel
theorem dX9_write_32 : decode cX9_write 32 = .ok (.aload_n 0, 1) := by decide +kernel
theorem dX9_write_33 : decode cX9_write 33 = .ok (.getfield 7, 3) := by decide +kernel
theorem dX9_write_36 : decode cX9_write 36 = .ok (.aload_n 0, 1) := by decide +kernel
theorem dX9_write_37 : decode cX9_write 37 = .ok (.getfield 89, 3) := by decide +kernel
theorem dX9_write_40 : decode cX9_write 40 = .ok (.iload_n 1, 1) := by decide +kernel
theorem dX9_write_41 : decode cX9_write 41 = .ok (.iastore, 1) := by decide +kernel
theorem dX9_write_42 : decode cX9_write 42 = .ok (.aload_n 0, 1) := by decide +kernel
theorem dX9_write_43 : decode cX9_write 43 = .ok (.dup, 1) := by decide +kernel
theorem dX9_write_44 : decode cX9_write 44 = .ok (.getfield 89, 3) := by decide +kernel
theorem dX9_write_47 : decode cX9_write 47 = .ok (.iconst 1, 1) := by decide +kernel
theorem dX9_write_48 : decode cX9_write 48 = .ok (.iadd, 1) := by decide +kernel
theorem dX9_write_49 : decode cX9_write 49 = .ok (.putfield 89, 3) := by decide +kernel
theorem dX9_write_52 : decode cX9_write 52 = .ok (.aload_n 0, 1) := by decide +kernel
theorem dX9_write_53 : decode cX9_write 53 = .ok (.getfield 89, 3) := by decide +kernel
theorem dX9_write_56 : decode cX9_write 56 = .ok (.ireturn, 1) := by decide +kernel
theorem dX9_wipe_0 : decode cX9_wipe 0 = .ok (.aload_n 0, 1) := by decide +kernel
theorem dX9_wipe_1 : decode cX9_wipe 1 = .ok (.iconst 0, 1) := by decide +kernel
theorem dX9_wipe_2 : decode cX9_wipe 2 = .ok (.putfield 75, 3) := by decide +kernel
theorem dX9_wipe_5 : decode cX9_wipe 5 = .ok (.aload_n 0, 1) := by decide +kernel
theorem dX9_wipe_6 : decode cX9_wipe 6 = .ok (.getfield 89, 3) := by decide +kernel
theorem dX9_wipe_9 : decode cX9_wipe 9 = .ok (.istore_n 1, 1) := by decide +kernel
theorem dX9_wipe_10 : decode cX9_wipe 10 = .ok (.aload_n 0, 1) := by decide +kernel
theorem dX9_wipe_11 : decode cX9_wipe 11 = .ok (.iconst 0, 1) := by decide +kernel
theorem dX9_wipe_12 : decode cX9_wipe 12 = .ok (.putfield 89, 3) := by decide +kernel
theorem dX9_wipe_15 : decode cX9_wipe 15 = .ok (.iload_n 1, 1) := by decide +kernel
theorem dX9_wipe_16 : decode cX9_wipe 16 = .ok (.ireturn, 1) := by decide +kernel
theorem dX9_from_0 : decode cX9_from 0 = .ok (.aload_n 0, 1) := by decide +kernel
theorem dX9_from_1 : decode cX9_from 1 = .ok (.getfield 92, 3) := by decide +kernel
theorem dX9_from_4 : decode cX9_from 4 = .ok (.aload_n 0, 1) := by decide +kernel
theorem dX9_from_5 : decode cX9_from 5 = .ok (.getfield 89, 3) := by decide +kernel
theorem dX9_from_8 : decode cX9_from 8 = .ok (.if_icmp .eq 25, 3) := by decide +kernel
theorem dX9_from_11 : decode cX9_from 11 = .ok (.aload_n 0, 1) := by decide +kernel
theorem dX9_from_12 : decode cX9_from 12 = .ok (.getfield 7, 3) := by decide +kernel
theorem dX9_from_15 : decode cX9_from 15 = .ok (.aload_n 0, 1) := by decide +kernel
theorem dX9_from_16 : decode cX9_from 16 = .ok (.getfield 92, 3) := by decide +kernel
theorem dX9_from_19 : decode cX9_from 19 = .ok (.iaload, 1) := by decide +kernel
theorem dX9_from_20 : decode cX9_from 20 = .ok (.iload_n 1, 1) := by decide +kernel
theorem dX9_from_21 : decode cX9_from 21 = .ok (.isub, 1) := by decide +kernel
theorem dX9_from_22 : decode cX9_from 22 = .ok (.i2l, 1) := by decide +kernel
theorem dX9_from_23 : decode cX9_from 23 = .ok (.iload_n 2, 1) := by decide +kernel
theorem dX9_from_24 : decode cX9_from 24 = .ok (.i2l, 1) := by decide +kernel
theorem dX9_from_25 : decode cX9_from 25 = .ok (.iload_n 3, 1) := by decide +kernel
theorem dX9_from_26 : decode cX9_from 26 = .ok (.i2l, 1) := by decide +kernel
theorem dX9_from_27 : decode cX9_from 27 = .ok (.invokestatic 81, 3) := by decide +kernel
theorem dX9_from_30 : decode cX9_from 30 = .ok (.ifCond .ne 6, 3) := by decide +kernel
theorem dX9_from_33 : decode cX9_from 33 = .ok (.bipush (-9), 2) := by decide +kernel
theorem dX9_from_35 : decode cX9_from 35 = .ok (.ireturn, 1) := by decide +kernel
theorem dX9_from_36 : decode cX9_from 36 = .ok (.aload_n 0, 1) := by decide +kernel
theorem dX9_from_37 : decode cX9_from 37 = .ok (.dup, 1) := by decide +kernel
theorem dX9_from_38 : decode cX9_from 38 = .ok (.getfield 92, 3) := by decide +kernel
theorem dX9_from_41 : decode cX9_from 41 = .ok (.iconst 1, 1) := by decide +kernel
theorem dX9_from_42 : decode cX9_from 42 = .ok (.iadd, 1) := by decide +kernel
theorem dX9_from_43 : decode cX9_from 43 = .ok (.putfield 92, 3) := by decide +kernel
theorem dX9_from_46 : decode cX9_from 46 = .ok (.aload_n 0, 1) := by decide +kernel
theorem dX9_from_47 : decode cX9_from 47 = .ok (.getfield 7, 3) := by decide +kernel
theorem dX9_from_50 : decode cX9_from 50 = .ok (.aload_n 0, 1) := by decide +kernel
theorem dX9_from_51 : decode cX9_from 51 = .ok (.getfield 92, 3) := by decide +kernel
theorem dX9_from_54 : decode cX9_from 54 = .ok (.iconst 1, 1) := by decide +kernel
theorem dX9_from_55 : decode cX9_from 55 = .ok (.isub, 1) := by decide +kernel
theorem dX9_from_56 : decode cX9_from 56 = .ok (.iaload, 1) := by decide +kernel
theorem dX9_from_57 : decode cX9_from 57 = .ok (.iload_n 1, 1) := by decide +kernel
theorem dX9_from_58 : decode cX9_from 58 = .ok (.isub, 1) := by decide +kernel
theorem dX9_from_59 : decode cX9_from 59 = .ok (.ireturn, 1) := by decide +kernel
theorem dX9_readKind_0 : decode cX9_readKind 0 = .ok (.aload_n 0, 1) := by decide +kernel
theorem dX9_readKind_1 : decode cX9_readKind 1 = .ok (.getfield 92, 3) := by decide +kernel
theorem dX9_readKind_4 : decode cX9_readKind 4 = .ok (.aload_n 0, 1) := by decide +kernel
theorem dX9_readKind_5 : decode cX9_readKind 5 = .ok (.getfield 89, 3) := by decide +kernel
theorem dX9_readKind_8 : decode cX9_readKind 8 = .ok (.if_icmp .ne 6, 3) := by decide +kernel
theorem dX9_readKind_11 : decode cX9_readKind 11 = .ok (.bipush (-9), 2) := by decide +kernel
theorem dX9_readKind_13 : decode cX9_readKind 13 = .ok (.ireturn, 1) := by decide +kernel
theorem dX9_readKind_14 : decode cX9_readKind 14 = .ok (.aload_n 0, 1) := by decide +kernel
theorem dX9_readKind_15 : decode cX9_readKind 15 = .ok (.getfield 7, 3) := by decide +kernel
theorem dX9_readKind_18 : decode cX9_readKind 18 = .ok (.aload_n 0, 1) := by decide +kernel
theorem dX9_readKind_19 : decode cX9_readKind 19 = .ok (.getfield 92, 3) := by decide +kernel
theorem dX9_readKind_22 : decode cX9_readKind 22 = .ok (.iaload, 1) := by decide +kernel
theorem dX9_readKind_23 : decode cX9_readKind 23 = .ok (.istore_n 1, 1) := by decide +kernel
theorem dX9_readKind_24 : decode cX9_readKind 24 = .ok (.iload_n 1, 1) := by decide +kernel
theorem dX9_readKind_25 : decode cX9_readKind 25 = .ok (.bipush 108, 2) := by decide +kernel
theorem dX9_readKind_27 : decode cX9_readKind 27 = .ok (.if_icmp .ne 7, 3) := by decide +kernel
theorem dX9_readKind_30 : decode cX9_readKind 30 = .ok (.iconst 0, 1) := by decide +kernel
theorem dX9_readKind_31 : decode cX9_readKind 31 = .ok (.goto 35, 3) := by decide +kernel
theorem dX9_readKind_34 : decode cX9_readKind 34 = .ok (.iload_n 1, 1) := by decide +kernel
theorem dX9_readKind_35 : decode cX9_readKind 35 = .ok (.bipush 116, 2) := by decide +kernel
theorem dX9_readKind_37 : decode cX9_readKind 37 = .ok (.if_icmp .ne 7, 3) := by decide +kernel
theorem dX9_readKind_40 : decode cX9_readKind 40 = .ok (.iconst 1, 1) := by decide +kernel
theorem dX9_readKind_41 : decode cX9_readKind 41 = .ok (.goto 25, 3) := by decide +kernel
theorem dX9_readKind_44 : decode cX9_readKind 44 = .ok (.iload_n 1, 1) := by decide +kernel
theorem dX9_readKind_45 : decode cX9_readKind 45 = .ok (.bipush 98, 2) := by decide +kernel
theorem dX9_readKind_47 : decode cX9_readKind 47 = .ok (.if_icmp .ne 7, 3) := by decide +kernel
theorem dX9_readKind_50 : decode cX9_readKind 50 = .ok (.iconst 2, 1) := by decide +kernel
theorem dX9_readKind_51 : decode cX9_readKind 51 = .ok (.goto 15, 3) := by decide +kernel
theorem dX9_readKind_54 : decode cX9_readKind 54 = .ok (.iload_n 1, 1) := by decide +kernel
theorem dX9_readKind_55 : decode cX9_readKind 55 = .ok (.bipush 114, 2) := by decide +kernel
theorem dX9_readKind_57 : decode cX9_readKind 57 = .ok (.if_icmp .ne 7, 3) := by decide +kernel
theorem dX9_readKind_60 : decode cX9_readKind 60 = .ok (.iconst 3, 1) := by decide +kernel
theorem dX9_readKind_61 : decode cX9_readKind 61 = .ok (.goto 5, 3) := by decide +kernel
theorem dX9_readKind_64 : decode cX9_readKind 64 = .ok (.bipush (-9), 2) := by decide +kernel
theorem dX9_readKind_66 : decode cX9_readKind 66 = .ok (.istore_n 2, 1) := by decide +kernel
theorem dX9_readKind_67 : decode cX9_readKind 67 = .ok (.aload_n 0, 1) := by decide +kernel
theorem dX9_readKind_68 : decode cX9_readKind 68 = .ok (.dup, 1) := by decide +kernel
theorem dX9_readKind_69 : decode cX9_readKind 69 = .ok (.getfield 92, 3) := by decide +kernel
theorem dX9_readKind_72 : decode cX9_readKind 72 = .ok (.iload_n 2, 1) := by decide +kernel
theorem dX9_readKind_73 : decode cX9_readKind 73 = .ok (.bipush (-9), 2) := by decide +kernel
theorem dX9_readKind_75 : decode cX9_readKind 75 = .ok (.if_icmp .ne 7, 3) := by decide +kernel
theorem dX9_readKind_78 : decode cX9_readKind 78 = .ok (.iconst 0, 1) := by decide +kernel
theorem dX9_readKind_79 : decode cX9_readKind 79 = .ok (.goto 4, 3) := by decide +kernel
theorem dX9_readKind_82 : decode cX9_readKind 82 = .ok (.iconst 1, 1) := by decide +kernel
theorem dX9_readKind_83 : decode cX9_readKind 83 = .ok (.iadd, 1) := by decide +kernel
theorem dX9_readKind_84 : decode cX9_readKind 84 = .ok (.putfield 92, 3) := by decide +kernel
theorem dX9_readKind_87 : decode cX9_readKind 87 = .ok (.iload_n 2, 1) := by decide +kernel
theorem dX9_readKind_88 : decode cX9_readKind 88 = .ok (.ireturn, 1) := by decide +kernel
theorem dX9_hasRoom_0 : decode cX9_hasRoom 0 = .ok (.iconst 0, 1) := by decide +kernel
theorem dX9_hasRoom_1 : decode cX9_hasRoom 1 = .ok (.istore_n 1, 1) := by decide +kernel
theorem dX9_hasRoom_2 : decode cX9_hasRoom 2 = .ok (.iconst 0, 1) := by decide +kernel
theorem dX9_hasRoom_3 : decode cX9_hasRoom 3 = .ok (.istore_n 2, 1) := by decide +kernel
theorem dX9_hasRoom_4 : decode cX9_hasRoom 4 = .ok (.iload_n 2, 1) := by decide +kernel
theorem dX9_hasRoom_5 : decode cX9_hasRoom 5 = .ok (.aload_n 0, 1) := by decide +kernel
theorem dX9_hasRoom_6 : decode cX9_hasRoom 6 = .ok (.getfield 95, 3) := by decide +kernel
theorem dX9_hasRoom_9 : decode cX9_hasRoom 9 = .ok (.aload_n 0, 1) := by decide +kernel
theorem dX9_hasRoom_10 : decode cX9_hasRoom 10 = .ok (.getfield 98, 3) := by decide +kernel
theorem dX9_hasRoom_13 : decode cX9_hasRoom 13 = .ok (.imul, 1) := by decide +kernel
theorem dX9_hasRoom_14 : decode cX9_hasRoom 14 = .ok (.if_icmp .ge 29, 3) := by decide +kernel
theorem dX9_hasRoom_17 : decode cX9_hasRoom 17 = .ok (.iload_n 1, 1) := by decide +kernel
theorem dX9_hasRoom_18 : decode cX9_hasRoom 18 = .ok (.ifCond .ne 13, 3) := by decide +kernel
theorem dX9_hasRoom_21 : decode cX9_hasRoom 21 = .ok (.aload_n 0, 1) := by decide +kernel
theorem dX9_hasRoom_22 : decode cX9_hasRoom 22 = .ok (.getfield 29, 3) := by decide +kernel
theorem dX9_hasRoom_25 : decode cX9_hasRoom 25 = .ok (.iload_n 2, 1) := by decide +kernel
theorem dX9_hasRoom_26 : decode cX9_hasRoom 26 = .ok (.iaload, 1) := by decide +kernel
theorem dX9_hasRoom_27 : decode cX9_hasRoom 27 = .ok (.iconst 1, 1) := by decide +kernel
theorem dX9_hasRoom_28 : decode cX9_hasRoom 28 = .ok (.if_icmp .eq 7, 3) := by decide +kernel
theorem dX9_hasRoom_31 : decode cX9_hasRoom 31 = .ok (.iconst 1, 1) := by decide +kernel
theorem dX9_hasRoom_32 : decode cX9_hasRoom 32 = .ok (.goto 4, 3) := by decide +kernel
theorem dX9_hasRoom_35 : decode cX9_hasRoom 35 = .ok (.iconst 0, 1) := by decide +kernel
theorem dX9_hasRoom_36 : decode cX9_hasRoom 36 = .ok (.istore_n 1, 1) := by decide +kernel
theorem dX9_hasRoom_37 : decode cX9_hasRoom 37 = .ok (.iinc 2 1, 3) := by decide +kernel
theorem dX9_hasRoom_40 : decode cX9_hasRoom 40 = .ok (.goto (-36), 3) := by decide +kernel
theorem dX9_hasRoom_43 : decode cX9_hasRoom 43 = .ok (.iload_n 1, 1) := by decide +kernel
theorem dX9_hasRoom_44 : decode cX9_hasRoom 44 = .ok (.ireturn, 1) := by decide +kernel
theorem dX9_readOneBoy_0 : decode cX9_readOneBoy 0 = .ok (.aload_n 0, 1) := by decide +kernel
theorem dX9_readOneBoy_1 : decode cX9_readOneBoy 1 = .ok (.getfield 7, 3) := by decide +kernel
theorem dX9_readOneBoy_4 : decode cX9_readOneBoy 4 = .ok (.aload_n 0, 1) := by decide +kernel
theorem dX9_readOneBoy_5 : decode cX9_readOneBoy 5 = .ok (.getfield 92, 3) := by decide +kernel
theorem dX9_readOneBoy_8 : decode cX9_readOneBoy 8 = .ok (.iaload, 1) := by decide +kernel
theorem dX9_readOneBoy_9 : decode cX9_readOneBoy 9 = .ok (.bipush 80, 2) := by decide +kernel
theorem dX9_readOneBoy_11 : decode cX9_readOneBoy 11 = .ok (.if_icmp .ne 18, 3) := by decide +kernel
theorem dX9_readOneBoy_14 : decode cX9_readOneBoy 14 = .ok (.aload_n 0, 1) := by decide +kernel
theorem dX9_readOneBoy_15 : decode cX9_readOneBoy 15 = .ok (.getfield 101, 3) := by decide +kernel
theorem dX9_readOneBoy_18 : decode cX9_readOneBoy 18 = .ok (.iconst 5, 1) := by decide +kernel
theorem dX9_readOneBoy_19 : decode cX9_readOneBoy 19 = .ok (.if_icmp .eq 10, 3) := by decide +kernel
theorem dX9_readOneBoy_22 : decode cX9_readOneBoy 22 = .ok (.aload_n 0, 1) := by decide +kernel
theorem dX9_readOneBoy_23 : decode cX9_readOneBoy 23 = .ok (.invokevirtual 104, 3) := by decide +kernel
theorem dX9_readOneBoy_26 : decode cX9_readOneBoy 26 = .ok (.ifCond .ne 5, 3) := by decide +kernel
theorem dX9_readOneBoy_29 : decode cX9_readOneBoy 29 = .ok (.iconst 0, 1) := by decide +kernel
theorem dX9_readOneBoy_30 : decode cX9_readOneBoy 30 = .ok (.ireturn, 1) := by decide +kernel
theorem dX9_readOneBoy_31 : decode cX9_readOneBoy 31 = .ok (.aload_n 0, 1) := by decide +kernel
theorem dX9_readOneBoy_32 : decode cX9_readOneBoy 32 = .ok (.dup, 1) := by decide +kernel
theorem dX9_readOneBoy_33 : decode cX9_readOneBoy 33 = .ok (.getfield 92, 3) := by decide +kernel
theorem dX9_readOneBoy_36 : decode cX9_readOneBoy 36 = .ok (.iconst 1, 1) := by decide +kernel
theorem dX9_readOneBoy_37 : decode cX9_readOneBoy 37 = .ok (.iadd, 1) := by decide +kernel
theorem dX9_readOneBoy_38 : decode cX9_readOneBoy 38 = .ok (.putfield 92, 3) := by decide +kernel
theorem dX9_readOneBoy_41 : decode cX9_readOneBoy 41 = .ok (.aload_n 0, 1) := by decide +kernel
theorem dX9_readOneBoy_42 : decode cX9_readOneBoy 42 = .ok (.bipush 97, 2) := by decide +kernel
theorem dX9_readOneBoy_44 : decode cX9_readOneBoy 44 = .ok (.iconst 0, 1) := by decide +kernel
theorem dX9_readOneBoy_45 : decode cX9_readOneBoy 45 = .ok (.aload_n 0, 1) := by decide +kernel
theorem dX9_readOneBoy_46 : decode cX9_readOneBoy 46 = .ok (.getfield 95, 3) := by decide +kernel
theorem dX9_readOneBoy_49 : decode cX9_readOneBoy 49 = .ok (.aload_n 0, 1) := by decide +kernel
theorem dX9_readOneBoy_50 : decode cX9_readOneBoy 50 = .ok (.getfield 98, 3) := by decide +kernel
theorem dX9_readOneBoy_53 : decode cX9_readOneBoy 53 = .ok (.imul, 1) := by decide +kernel
theorem dX9_readOneBoy_54 : decode cX9_readOneBoy 54 = .ok (.iconst 1, 1) := by decide +kernel
theorem dX9_readOneBoy_55 : decode cX9_readOneBoy 55 = .ok (.isub, 1) := by decide +kernel
theorem dX9_readOneBoy_56 : decode cX9_readOneBoy 56 = .ok (.invokevirtual 108, 3) := by decide +kernel
theorem dX9_readOneBoy_59 : decode cX9_readOneBoy 59 = .ok (.istore_n 1, 1) := by decide +kernel
theorem dX9_readOneBoy_60 : decode cX9_readOneBoy 60 = .ok (.iload_n 1, 1) := by decide +kernel
theorem dX9_readOneBoy_61 : decode cX9_readOneBoy 61 = .ok (.bipush (-9), 2) := by decide +kernel
theorem dX9_readOneBoy_63 : decode cX9_readOneBoy 63 = .ok (.if_icmp .eq 25, 3) := by decide +kernel
theorem dX9_readOneBoy_66 : decode cX9_readOneBoy 66 = .ok (.aload_n 0, 1) := by decide +kernel
theorem dX9_readOneBoy_67 : decode cX9_readOneBoy 67 = .ok (.getfield 29, 3) := by decide +kernel
theorem dX9_readOneBoy_70 : decode cX9_readOneBoy 70 = .ok (.iload_n 1, 1) := by decide +kernel
theorem dX9_readOneBoy_71 : decode cX9_readOneBoy 71 = .ok (.iaload, 1) := by decide +kernel
theorem dX9_readOneBoy_72 : decode cX9_readOneBoy 72 = .ok (.iconst 1, 1) := by decide +kernel
theorem dX9_readOneBoy_73 : decode cX9_readOneBoy 73 = .ok (.if_icmp .ne 15, 3) := by decide +kernel
theorem dX9_readOneBoy_76 : decode cX9_readOneBoy 76 = .ok (.aload_n 0, 1) := by decide +kernel
theorem dX9_readOneBoy_77 : decode cX9_readOneBoy 77 = .ok (.dup, 1) := by decide +kernel
theorem dX9_readOneBoy_78 : decode cX9_readOneBoy 78 = .ok (.getfield 92, 3) := by decide +kernel
theorem dX9_readOneBoy_81 : decode cX9_readOneBoy 81 = .ok (.iconst 1, 1) := by decide +kernel
theorem dX9_readOneBoy_82 : decode cX9_readOneBoy 82 = .ok (.isub, 1) := by decide +kernel
theorem dX9_readOneBoy_83 : decode cX9_readOneBoy 83 = .ok (.putfield 92, 3) := by decide +kernel
theorem dX9_readOneBoy_86 : decode cX9_readOneBoy 86 = .ok (.iconst 0, 1) := by decide +kernel
theorem dX9_readOneBoy_87 : decode cX9_readOneBoy 87 = .ok (.ireturn, 1) := by decide +kernel
theorem dX9_readOneBoy_88 : decode cX9_readOneBoy 88 = .ok (.iload_n 1, 1) := by decide +kernel
theorem dX9_readOneBoy_89 : decode cX9_readOneBoy 89 = .ok (.bipush (-9), 2) := by decide +kernel
theorem dX9_readOneBoy_91 : decode cX9_readOneBoy 91 = .ok (.if_icmp .ne 8, 3) := by decide +kernel
theorem dX9_readOneBoy_94 : decode cX9_readOneBoy 94 = .ok (.bipush (-9), 2) := by decide +kernel
theorem dX9_readOneBoy_96 : decode cX9_readOneBoy 96 = .ok (.goto 11, 3) := by decide +kernel
theorem dX9_readOneBoy_99 : decode cX9_readOneBoy 99 = .ok (.aload_n 0, 1) := by decide +kernel
theorem dX9_readOneBoy_100 : decode cX9_readOneBoy 100 = .ok (.bipush 48, 2) := by decide +kernel
theorem dX9_readOneBoy_102 : decode cX9_readOneBoy 102 = .ok (.iconst 0, 1) := by decide +kernel
theorem dX9_readOneBoy_103 : decode cX9_readOneBoy 103 = .ok (.iconst 3, 1) := by decide +kernel
theorem dX9_readOneBoy_104 : decode cX9_readOneBoy 104 = .ok (.invokevirtual 108, 3) := by decide +kernel
theorem dX9_readOneBoy_107 : decode cX9_readOneBoy 107 = .ok (.istore_n 2, 1) := by decide +kernel
theorem dX9_readOneBoy_108 : decode cX9_readOneBoy 108 = .ok (.iload_n 2, 1) := by decide +kernel
theorem dX9_readOneBoy_109 : decode cX9_readOneBoy 109 = .ok (.bipush (-9), 2) := by decide +kernel
theorem dX9_readOneBoy_111 : decode cX9_readOneBoy 111 = .ok (.if_icmp .ne 5, 3) := by decide +kernel
theorem dX9_readOneBoy_114 : decode cX9_readOneBoy 114 = .ok (.iconst 0, 1) := by decide +kernel
theorem dX9_readOneBoy_115 : decode cX9_readOneBoy 115 = .ok (.ireturn, 1) := by decide +kernel
theorem dX9_readOneBoy_116 : decode cX9_readOneBoy 116 = .ok (.aload_n 0, 1) := by decide +kernel
theorem dX9_readOneBoy_117 : decode cX9_readOneBoy 117 = .ok (.getfield 32, 3) := by decide +kernel
theorem dX9_readOneBoy_120 : decode cX9_readOneBoy 120 = .ok (.iconst 2, 1) := by decide +kernel
theorem dX9_readOneBoy_121 : decode cX9_readOneBoy 121 = .ok (.aload_n 0, 1) := by decide +kernel
theorem dX9_readOneBoy_122 : decode cX9_readOneBoy 122 = .ok (.getfield 101, 3) := by decide +kernel
theorem dX9_readOneBoy_125 : decode cX9_readOneBoy 125 = .ok (.imul, 1) := by decide +kernel
theorem dX9_readOneBoy_126 : decode cX9_readOneBoy 126 = .ok (.iload_n 1, 1) := by decide +kernel
theorem dX9_readOneBoy_127 : decode cX9_readOneBoy 127 = .ok (.iastore, 1) := by decide +kernel
theorem dX9_readOneBoy_128 : decode cX9_readOneBoy 128 = .ok (.aload_n 0, 1) := by decide +kernel
theorem dX9_readOneBoy_129 : decode cX9_readOneBoy 129 = .ok (.getfield 32, 3) := by decide +kernel
theorem dX9_readOneBoy_132 : decode cX9_readOneBoy 132 = .ok (.iconst 2, 1) := by decide +kernel
theorem dX9_readOneBoy_133 : decode cX9_readOneBoy 133 = .ok (.aload_n 0, 1) := by decide +kernel
theorem dX9_readOneBoy_134 : decode cX9_readOneBoy 134 = .ok (.getfield 101, 3) := by decide +kernel
theorem dX9_readOneBoy_137 : decode cX9_readOneBoy 137 = .ok (.imul, 1) := by decide +kernel
theorem dX9_readOneBoy_138 : decode cX9_readOneBoy 138 = .ok (.iconst 1, 1) := by decide +kernel
theorem dX9_readOneBoy_139 : decode cX9_readOneBoy 139 = .ok (.iadd, 1) := by decide +kernel
theorem dX9_readOneBoy_140 : decode cX9_readOneBoy 140 = .ok (.iload_n 2, 1) := by decide +kernel
theorem dX9_readOneBoy_141 : decode cX9_readOneBoy 141 = .ok (.iastore, 1) := by decide +kernel
theorem dX9_readOneBoy_142 : decode cX9_readOneBoy 142 = .ok (.aload_n 0, 1) := by decide +kernel
theorem dX9_readOneBoy_143 : decode cX9_readOneBoy 143 = .ok (.dup, 1) := by decide +kernel
theorem dX9_readOneBoy_144 : decode cX9_readOneBoy 144 = .ok (.getfield 101, 3) := by decide +kernel
theorem dX9_readOneBoy_147 : decode cX9_readOneBoy 147 = .ok (.iconst 1, 1) := by decide +kernel
theorem dX9_readOneBoy_148 : decode cX9_readOneBoy 148 = .ok (.iadd, 1) := by decide +kernel
theorem dX9_readOneBoy_149 : decode cX9_readOneBoy 149 = .ok (.putfield 101, 3) := by decide +kernel
theorem dX9_readOneBoy_152 : decode cX9_readOneBoy 152 = .ok (.iconst 1, 1) := by decide +kernel
theorem dX9_readOneBoy_153 : decode cX9_readOneBoy 153 = .ok (.ireturn, 1) := by decide +kernel
theorem dX9_readPattern_0 : decode cX9_readPattern 0 = .ok (.aload_n 0, 1) := by decide +kernel
theorem dX9_readPattern_1 : decode cX9_readPattern 1 = .ok (.aload_n 0, 1) := by decide +kernel
theorem dX9_readPattern_2 : decode cX9_readPattern 2 = .ok (.bipush 48, 2) := by decide +kernel
theorem dX9_readPattern_4 : decode cX9_readPattern 4 = .ok (.iconst 2, 1) := by decide +kernel
theorem dX9_readPattern_5 : decode cX9_readPattern 5 = .ok (.iconst 5, 1) := by decide +kernel
theorem dX9_readPattern_6 : decode cX9_readPattern 6 = .ok (.invokevirtual 108, 3) := by decide +kernel
theorem dX9_readPattern_9 : decode cX9_readPattern 9 = .ok (.putfield 95, 3) := by decide +kernel
theorem dX9_readPattern_12 : decode cX9_readPattern 12 = .ok (.aload_n 0, 1) := by decide +kernel
theorem dX9_readPattern_13 : decode cX9_readPattern 13 = .ok (.aload_n 0, 1) := by decide +kernel
theorem dX9_readPattern_14 : decode cX9_readPattern 14 = .ok (.getfield 95, 3) := by decide +kernel
theorem dX9_readPattern_17 : decode cX9_readPattern 17 = .ok (.bipush (-9), 2) := by decide +kernel
theorem dX9_readPattern_19 : decode cX9_readPattern 19 = .ok (.if_icmp .ne 8, 3) := by decide +kernel
theorem dX9_readPattern_22 : decode cX9_readPattern 22 = .ok (.bipush (-9), 2) := by decide +kernel
theorem dX9_readPattern_24 : decode cX9_readPattern 24 = .ok (.goto 11, 3) := by decide +kernel
theorem dX9_readPattern_27 : decode cX9_readPattern 27 = .ok (.aload_n 0, 1) := by decide +kernel
theorem dX9_readPattern_28 : decode cX9_readPattern 28 = .ok (.bipush 48, 2) := by decide +kernel
theorem dX9_readPattern_30 : decode cX9_readPattern 30 = .ok (.iconst 2, 1) := by decide +kernel
theorem dX9_readPattern_31 : decode cX9_readPattern 31 = .ok (.iconst 4, 1) := by decide +kernel
theorem dX9_readPattern_32 : decode cX9_readPattern 32 = .ok (.invokevirtual 108, 3) := by decide +kernel
theorem dX9_readPattern_35 : decode cX9_readPattern 35 = .ok (.putfield 98, 3) := by decide +kernel
theorem dX9_readPattern_38 : decode cX9_readPattern 38 = .ok (.aload_n 0, 1) := by decide +kernel
theorem dX9_readPattern_39 : decode cX9_readPattern 39 = .ok (.aload_n 0, 1) := by decide +kernel
theorem dX9_readPattern_40 : decode cX9_readPattern 40 = .ok (.getfield 98, 3) := by decide +kernel
theorem dX9_readPattern_43 : decode cX9_readPattern 43 = .ok (.bipush (-9), 2) := by decide +kernel
theorem dX9_readPattern_45 : decode cX9_readPattern 45 = .ok (.if_icmp .ne 8, 3) := by decide +kernel
theorem dX9_readPattern_48 : decode cX9_readPattern 48 = .ok (.bipush (-9), 2) := by decide +kernel
