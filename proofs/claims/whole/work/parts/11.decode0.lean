theorem dX0_init_0 : decode cX0_init 0 = .ok (.aload_n 0, 1) := by decide +kernel
theorem dX0_init_1 : decode cX0_init 1 = .ok (.invokespecial 3, 3) := by decide +kernel
theorem dX0_init_4 : decode cX0_init 4 = .ok (.aload_n 0, 1) := by decide +kernel
theorem dX0_init_5 : decode cX0_init 5 = .ok (.bipush 14, 2) := by decide +kernel
theorem dX0_init_7 : decode cX0_init 7 = .ok (.anewarray 9, 3) := by decide +kernel
theorem dX0_init_10 : decode cX0_init 10 = .ok (.putfield 11, 3) := by decide +kernel
theorem dX0_init_13 : decode cX0_init 13 = .ok (.iconst 0, 1) := by decide +kernel
theorem dX0_init_14 : decode cX0_init 14 = .ok (.istore_n 2, 1) := by decide +kernel
theorem dX0_init_15 : decode cX0_init 15 = .ok (.iload_n 2, 1) := by decide +kernel
theorem dX0_init_16 : decode cX0_init 16 = .ok (.bipush 14, 2) := by decide +kernel
theorem dX0_init_18 : decode cX0_init 18 = .ok (.if_icmp .ge 23, 3) := by decide +kernel
theorem dX0_init_21 : decode cX0_init 21 = .ok (.aload_n 0, 1) := by decide +kernel
theorem dX0_init_22 : decode cX0_init 22 = .ok (.getfield 11, 3) := by decide +kernel
theorem dX0_init_25 : decode cX0_init 25 = .ok (.iload_n 2, 1) := by decide +kernel
theorem dX0_init_26 : decode cX0_init 26 = .ok (.new 9, 3) := by decide +kernel
theorem dX0_init_29 : decode cX0_init 29 = .ok (.dup, 1) := by decide +kernel
theorem dX0_init_30 : decode cX0_init 30 = .ok (.aload_n 1, 1) := by decide +kernel
theorem dX0_init_31 : decode cX0_init 31 = .ok (.invokespecial 17, 3) := by decide +kernel
theorem dX0_init_34 : decode cX0_init 34 = .ok (.aastore, 1) := by decide +kernel
theorem dX0_init_35 : decode cX0_init 35 = .ok (.iinc 2 1, 3) := by decide +kernel
theorem dX0_init_38 : decode cX0_init 38 = .ok (.goto (-23), 3) := by decide +kernel
theorem dX0_init_41 : decode cX0_init 41 = .ok (.return_, 1) := by decide +kernel
theorem dX0_remember_0 : decode cX0_remember 0 = .ok (.aload_n 0, 1) := by decide +kernel
theorem dX0_remember_1 : decode cX0_remember 1 = .ok (.getfield 11, 3) := by decide +kernel
theorem dX0_remember_4 : decode cX0_remember 4 = .ok (.aload_n 0, 1) := by decide +kernel
theorem dX0_remember_5 : decode cX0_remember 5 = .ok (.getfield 20, 3) := by decide +kernel
theorem dX0_remember_8 : decode cX0_remember 8 = .ok (.aaload, 1) := by decide +kernel
theorem dX0_remember_9 : decode cX0_remember 9 = .ok (.aload_n 1, 1) := by decide +kernel
theorem dX0_remember_10 : decode cX0_remember 10 = .ok (.invokevirtual 24, 3) := by decide +kernel
theorem dX0_remember_13 : decode cX0_remember 13 = .ok (.aload_n 0, 1) := by decide +kernel
theorem dX0_remember_14 : decode cX0_remember 14 = .ok (.aload_n 0, 1) := by decide +kernel
theorem dX0_remember_15 : decode cX0_remember 15 = .ok (.getfield 20, 3) := by decide +kernel
theorem dX0_remember_18 : decode cX0_remember 18 = .ok (.iconst 1, 1) := by decide +kernel
theorem dX0_remember_19 : decode cX0_remember 19 = .ok (.iadd, 1) := by decide +kernel
theorem dX0_remember_20 : decode cX0_remember 20 = .ok (.bipush 14, 2) := by decide +kernel
theorem dX0_remember_22 : decode cX0_remember 22 = .ok (.if_icmp .ge 12, 3) := by decide +kernel
theorem dX0_remember_25 : decode cX0_remember 25 = .ok (.aload_n 0, 1) := by decide +kernel
theorem dX0_remember_26 : decode cX0_remember 26 = .ok (.getfield 20, 3) := by decide +kernel
theorem dX0_remember_29 : decode cX0_remember 29 = .ok (.iconst 1, 1) := by decide +kernel
theorem dX0_remember_30 : decode cX0_remember 30 = .ok (.iadd, 1) := by decide +kernel
theorem dX0_remember_31 : decode cX0_remember 31 = .ok (.goto 4, 3) := by decide +kernel
theorem dX0_remember_34 : decode cX0_remember 34 = .ok (.iconst 0, 1) := by decide +kernel
theorem dX0_remember_35 : decode cX0_remember 35 = .ok (.putfield 20, 3) := by decide +kernel
theorem dX0_remember_38 : decode cX0_remember 38 = .ok (.aload_n 0, 1) := by decide +kernel
theorem dX0_remember_39 : decode cX0_remember 39 = .ok (.aload_n 0, 1) := by decide +kernel
theorem dX0_remember_40 : decode cX0_remember 40 = .ok (.getfield 28, 3) := by decide +kernel
theorem dX0_remember_43 : decode cX0_remember 43 = .ok (.iconst 1, 1) := by decide +kernel
theorem dX0_remember_44 : decode cX0_remember 44 = .ok (.iadd, 1) := by decide +kernel
theorem dX0_remember_45 : decode cX0_remember 45 = .ok (.bipush 14, 2) := by decide +kernel
theorem dX0_remember_47 : decode cX0_remember 47 = .ok (.invokestatic 31, 3) := by decide +kernel
theorem dX0_remember_50 : decode cX0_remember 50 = .ok (.putfield 28, 3) := by decide +kernel
theorem dX0_remember_53 : decode cX0_remember 53 = .ok (.return_, 1) := by decide +kernel
theorem dX0_takeBack_0 : decode cX0_takeBack 0 = .ok (.aload_n 0, 1) := by decide +kernel
theorem dX0_takeBack_1 : decode cX0_takeBack 1 = .ok (.getfield 28, 3) := by decide +kernel
theorem dX0_takeBack_4 : decode cX0_takeBack 4 = .ok (.ifCond .ne 5, 3) := by decide +kernel
theorem dX0_takeBack_7 : decode cX0_takeBack 7 = .ok (.iconst 0, 1) := by decide +kernel
theorem dX0_takeBack_8 : decode cX0_takeBack 8 = .ok (.ireturn, 1) := by decide +kernel
theorem dX0_takeBack_9 : decode cX0_takeBack 9 = .ok (.aload_n 0, 1) := by decide +kernel
theorem dX0_takeBack_10 : decode cX0_takeBack 10 = .ok (.dup, 1) := by decide +kernel
theorem dX0_takeBack_11 : decode cX0_takeBack 11 = .ok (.getfield 28, 3) := by decide +kernel
theorem dX0_takeBack_14 : decode cX0_takeBack 14 = .ok (.iconst 1, 1) := by decide +kernel
theorem dX0_takeBack_15 : decode cX0_takeBack 15 = .ok (.isub, 1) := by decide +kernel
theorem dX0_takeBack_16 : decode cX0_takeBack 16 = .ok (.putfield 28, 3) := by decide +kernel
theorem dX0_takeBack_19 : decode cX0_takeBack 19 = .ok (.aload_n 0, 1) := by decide +kernel
theorem dX0_takeBack_20 : decode cX0_takeBack 20 = .ok (.aload_n 0, 1) := by decide +kernel
theorem dX0_takeBack_21 : decode cX0_takeBack 21 = .ok (.getfield 20, 3) := by decide +kernel
theorem dX0_takeBack_24 : decode cX0_takeBack 24 = .ok (.ifCond .le 12, 3) := by decide +kernel
theorem dX0_takeBack_27 : decode cX0_takeBack 27 = .ok (.aload_n 0, 1) := by decide +kernel
theorem dX0_takeBack_28 : decode cX0_takeBack 28 = .ok (.getfield 20, 3) := by decide +kernel
theorem dX0_takeBack_31 : decode cX0_takeBack 31 = .ok (.iconst 1, 1) := by decide +kernel
theorem dX0_takeBack_32 : decode cX0_takeBack 32 = .ok (.isub, 1) := by decide +kernel
theorem dX0_takeBack_33 : decode cX0_takeBack 33 = .ok (.goto 5, 3) := by decide +kernel
theorem dX0_takeBack_36 : decode cX0_takeBack 36 = .ok (.bipush 13, 2) := by decide +kernel
theorem dX0_takeBack_38 : decode cX0_takeBack 38 = .ok (.putfield 20, 3) := by decide +kernel
theorem dX0_takeBack_41 : decode cX0_takeBack 41 = .ok (.aload_n 1, 1) := by decide +kernel
theorem dX0_takeBack_42 : decode cX0_takeBack 42 = .ok (.aload_n 0, 1) := by decide +kernel
theorem dX0_takeBack_43 : decode cX0_takeBack 43 = .ok (.getfield 11, 3) := by decide +kernel
theorem dX0_takeBack_46 : decode cX0_takeBack 46 = .ok (.aload_n 0, 1) := by decide +kernel
theorem dX0_takeBack_47 : decode cX0_takeBack 47 = .ok (.getfield 20, 3) := by decide +kernel
theorem dX0_takeBack_50 : decode cX0_takeBack 50 = .ok (.aaload, 1) := by decide +kernel
theorem dX0_takeBack_51 : decode cX0_takeBack 51 = .ok (.invokevirtual 24, 3) := by decide +kernel
theorem dX0_takeBack_54 : decode cX0_takeBack 54 = .ok (.iconst 1, 1) := by decide +kernel
theorem dX0_takeBack_55 : decode cX0_takeBack 55 = .ok (.ireturn, 1) := by decide +kernel
theorem dX0_forgetAll_0 : decode cX0_forgetAll 0 = .ok (.aload_n 0, 1) := by decide +kernel
theorem dX0_forgetAll_1 : decode cX0_forgetAll 1 = .ok (.iconst 0, 1) := by decide +kernel
theorem dX0_forgetAll_2 : decode cX0_forgetAll 2 = .ok (.putfield 28, 3) := by decide +kernel
theorem dX0_forgetAll_5 : decode cX0_forgetAll 5 = .ok (.return_, 1) := by decide +kernel
theorem dX1_init_0 : decode cX1_init 0 = .ok (.aload_n 0, 1) := by decide +kernel
theorem dX1_init_1 : decode cX1_init 1 = .ok (.invokespecial 3, 3) := by decide +kernel
theorem dX1_init_4 : decode cX1_init 4 = .ok (.aload_n 0, 1) := by decide +kernel
theorem dX1_init_5 : decode cX1_init 5 = .ok (.bipush 32, 2) := by decide +kernel
theorem dX1_init_7 : decode cX1_init 7 = .ok (.newarray .int, 2) := by decide +kernel
theorem dX1_init_9 : decode cX1_init 9 = .ok (.putfield 11, 3) := by decide +kernel
theorem dX1_init_12 : decode cX1_init 12 = .ok (.return_, 1) := by decide +kernel
theorem dX1_cellsToCall_0 : decode cX1_cellsToCall 0 = .ok (.aload_n 1, 1) := by decide +kernel
theorem dX1_cellsToCall_1 : decode cX1_cellsToCall 1 = .ok (.invokevirtual 15, 3) := by decide +kernel
theorem dX1_cellsToCall_4 : decode cX1_cellsToCall 4 = .ok (.istore_n 2, 1) := by decide +kernel
theorem dX1_cellsToCall_5 : decode cX1_cellsToCall 5 = .ok (.iconst 1, 1) := by decide +kernel
theorem dX1_cellsToCall_6 : decode cX1_cellsToCall 6 = .ok (.aload_n 1, 1) := by decide +kernel
theorem dX1_cellsToCall_7 : decode cX1_cellsToCall 7 = .ok (.getfield 21, 3) := by decide +kernel
theorem dX1_cellsToCall_10 : decode cX1_cellsToCall 10 = .ok (.getfield 25, 3) := by decide +kernel
theorem dX1_cellsToCall_13 : decode cX1_cellsToCall 13 = .ok (.ishl, 1) := by decide +kernel
theorem dX1_cellsToCall_14 : decode cX1_cellsToCall 14 = .ok (.iconst 1, 1) := by decide +kernel
theorem dX1_cellsToCall_15 : decode cX1_cellsToCall 15 = .ok (.isub, 1) := by decide +kernel
theorem dX1_cellsToCall_16 : decode cX1_cellsToCall 16 = .ok (.istore_n 3, 1) := by decide +kernel
theorem dX1_cellsToCall_17 : decode cX1_cellsToCall 17 = .ok (.iconst 0, 1) := by decide +kernel
theorem dX1_cellsToCall_18 : decode cX1_cellsToCall 18 = .ok (.istore 4, 2) := by decide +kernel
theorem dX1_cellsToCall_20 : decode cX1_cellsToCall 20 = .ok (.iload 4, 2) := by decide +kernel
theorem dX1_cellsToCall_22 : decode cX1_cellsToCall 22 = .ok (.bipush 32, 2) := by decide +kernel
theorem dX1_cellsToCall_24 : decode cX1_cellsToCall 24 = .ok (.if_icmp .ge 18, 3) := by decide +kernel
theorem dX1_cellsToCall_27 : decode cX1_cellsToCall 27 = .ok (.aload_n 0, 1) := by decide +kernel
theorem dX1_cellsToCall_28 : decode cX1_cellsToCall 28 = .ok (.getfield 11, 3) := by decide +kernel
theorem dX1_cellsToCall_31 : decode cX1_cellsToCall 31 = .ok (.iload 4, 2) := by decide +kernel
theorem dX1_cellsToCall_33 : decode cX1_cellsToCall 33 = .ok (.ldc 31, 2) := by decide +kernel
theorem dX1_cellsToCall_35 : decode cX1_cellsToCall 35 = .ok (.iastore, 1) := by decide +kernel
theorem dX1_cellsToCall_36 : decode cX1_cellsToCall 36 = .ok (.iinc 4 1, 3) := by decide +kernel
theorem dX1_cellsToCall_39 : decode cX1_cellsToCall 39 = .ok (.goto (-19), 3) := by decide +kernel
theorem dX1_cellsToCall_42 : decode cX1_cellsToCall 42 = .ok (.aload_n 0, 1) := by decide +kernel
theorem dX1_cellsToCall_43 : decode cX1_cellsToCall 43 = .ok (.getfield 11, 3) := by decide +kernel
theorem dX1_cellsToCall_46 : decode cX1_cellsToCall 46 = .ok (.iload_n 2, 1) := by decide +kernel
theorem dX1_cellsToCall_47 : decode cX1_cellsToCall 47 = .ok (.iload_n 3, 1) := by decide +kernel
theorem dX1_cellsToCall_48 : decode cX1_cellsToCall 48 = .ok (.iand, 1) := by decide +kernel
theorem dX1_cellsToCall_49 : decode cX1_cellsToCall 49 = .ok (.iconst 0, 1) := by decide +kernel
theorem dX1_cellsToCall_50 : decode cX1_cellsToCall 50 = .ok (.iastore, 1) := by decide +kernel
theorem dX1_cellsToCall_51 : decode cX1_cellsToCall 51 = .ok (.iconst 0, 1) := by decide +kernel
theorem dX1_cellsToCall_52 : decode cX1_cellsToCall 52 = .ok (.istore 4, 2) := by decide +kernel
theorem dX1_cellsToCall_54 : decode cX1_cellsToCall 54 = .ok (.iload 4, 2) := by decide +kernel
theorem dX1_cellsToCall_56 : decode cX1_cellsToCall 56 = .ok (.aload_n 1, 1) := by decide +kernel
theorem dX1_cellsToCall_57 : decode cX1_cellsToCall 57 = .ok (.getfield 21, 3) := by decide +kernel
theorem dX1_cellsToCall_60 : decode cX1_cellsToCall 60 = .ok (.getfield 32, 3) := by decide +kernel
theorem dX1_cellsToCall_63 : decode cX1_cellsToCall 63 = .ok (.if_icmp .ge 22, 3) := by decide +kernel
theorem dX1_cellsToCall_66 : decode cX1_cellsToCall 66 = .ok (.aload_n 0, 1) := by decide +kernel
theorem dX1_cellsToCall_67 : decode cX1_cellsToCall 67 = .ok (.iload 4, 2) := by decide +kernel
theorem dX1_cellsToCall_69 : decode cX1_cellsToCall 69 = .ok (.aload_n 0, 1) := by decide +kernel
theorem dX1_cellsToCall_70 : decode cX1_cellsToCall 70 = .ok (.aload_n 1, 1) := by decide +kernel
theorem dX1_cellsToCall_71 : decode cX1_cellsToCall 71 = .ok (.iload 4, 2) := by decide +kernel
theorem dX1_cellsToCall_73 : decode cX1_cellsToCall 73 = .ok (.invokevirtual 35, 3) := by decide +kernel
theorem dX1_cellsToCall_76 : decode cX1_cellsToCall 76 = .ok (.invokevirtual 39, 3) := by decide +kernel
theorem dX1_cellsToCall_79 : decode cX1_cellsToCall 79 = .ok (.iinc 4 1, 3) := by decide +kernel
theorem dX1_cellsToCall_82 : decode cX1_cellsToCall 82 = .ok (.goto (-28), 3) := by decide +kernel
theorem dX1_cellsToCall_85 : decode cX1_cellsToCall 85 = .ok (.aload_n 0, 1) := by decide +kernel
theorem dX1_cellsToCall_86 : decode cX1_cellsToCall 86 = .ok (.getfield 11, 3) := by decide +kernel
theorem dX1_cellsToCall_89 : decode cX1_cellsToCall 89 = .ok (.iload_n 3, 1) := by decide +kernel
theorem dX1_cellsToCall_90 : decode cX1_cellsToCall 90 = .ok (.iaload, 1) := by decide +kernel
theorem dX1_cellsToCall_91 : decode cX1_cellsToCall 91 = .ok (.ldc 43, 2) := by decide +kernel
theorem dX1_cellsToCall_93 : decode cX1_cellsToCall 93 = .ok (.iand, 1) := by decide +kernel
theorem dX1_cellsToCall_94 : decode cX1_cellsToCall 94 = .ok (.ireturn, 1) := by decide +kernel
theorem dX1_addCell_0 : decode cX1_addCell 0 = .ok (.iconst 0, 1) := by decide +kernel
theorem dX1_addCell_1 : decode cX1_addCell 1 = .ok (.istore_n 3, 1) := by decide +kernel
theorem dX1_addCell_2 : decode cX1_addCell 2 = .ok (.iload_n 3, 1) := by decide +kernel
theorem dX1_addCell_3 : decode cX1_addCell 3 = .ok (.bipush 32, 2) := by decide +kernel
theorem dX1_addCell_5 : decode cX1_addCell 5 = .ok (.if_icmp .ge 55, 3) := by decide +kernel
theorem dX1_addCell_8 : decode cX1_addCell 8 = .ok (.aload_n 0, 1) := by decide +kernel
theorem dX1_addCell_9 : decode cX1_addCell 9 = .ok (.getfield 11, 3) := by decide +kernel
theorem dX1_addCell_12 : decode cX1_addCell 12 = .ok (.iload_n 3, 1) := by decide +kernel
theorem dX1_addCell_13 : decode cX1_addCell 13 = .ok (.iaload, 1) := by decide +kernel
theorem dX1_addCell_14 : decode cX1_addCell 14 = .ok (.ldc 31, 2) := by decide +kernel
theorem dX1_addCell_16 : decode cX1_addCell 16 = .ok (.if_icmp .eq 38, 3) := by decide +kernel
theorem dX1_addCell_19 : decode cX1_addCell 19 = .ok (.iload_n 3, 1) := by decide +kernel
theorem dX1_addCell_20 : decode cX1_addCell 20 = .ok (.iload_n 2, 1) := by decide +kernel
theorem dX1_addCell_21 : decode cX1_addCell 21 = .ok (.ior, 1) := by decide +kernel
theorem dX1_addCell_22 : decode cX1_addCell 22 = .ok (.istore 4, 2) := by decide +kernel
theorem dX1_addCell_24 : decode cX1_addCell 24 = .ok (.aload_n 0, 1) := by decide +kernel
theorem dX1_addCell_25 : decode cX1_addCell 25 = .ok (.getfield 11, 3) := by decide +kernel
theorem dX1_addCell_28 : decode cX1_addCell 28 = .ok (.iload 4, 2) := by decide +kernel
theorem dX1_addCell_30 : decode cX1_addCell 30 = .ok (.aload_n 0, 1) := by decide +kernel
theorem dX1_addCell_31 : decode cX1_addCell 31 = .ok (.getfield 11, 3) := by decide +kernel
theorem dX1_addCell_34 : decode cX1_addCell 34 = .ok (.iload 4, 2) := by decide +kernel
theorem dX1_addCell_36 : decode cX1_addCell 36 = .ok (.iaload, 1) := by decide +kernel
theorem dX1_addCell_37 : decode cX1_addCell 37 = .ok (.aload_n 0, 1) := by decide +kernel
theorem dX1_addCell_38 : decode cX1_addCell 38 = .ok (.getfield 11, 3) := by decide +kernel
theorem dX1_addCell_41 : decode cX1_addCell 41 = .ok (.iload_n 3, 1) := by decide +kernel
theorem dX1_addCell_42 : decode cX1_addCell 42 = .ok (.iaload, 1) := by decide +kernel
theorem dX1_addCell_43 : decode cX1_addCell 43 = .ok (.ldc 44, 2) := by decide +kernel
theorem dX1_addCell_45 : decode cX1_addCell 45 = .ok (.iadd, 1) := by decide +kernel
theorem dX1_addCell_46 : decode cX1_addCell 46 = .ok (.iconst 1, 1) := by decide +kernel
theorem dX1_addCell_47 : decode cX1_addCell 47 = .ok (.iload_n 1, 1) := by decide +kernel
theorem dX1_addCell_48 : decode cX1_addCell 48 = .ok (.ishl, 1) := by decide +kernel
theorem dX1_addCell_49 : decode cX1_addCell 49 = .ok (.iadd, 1) := by decide +kernel
theorem dX1_addCell_50 : decode cX1_addCell 50 = .ok (.invokestatic 45, 3) := by decide +kernel
theorem dX1_addCell_53 : decode cX1_addCell 53 = .ok (.iastore, 1) := by decide +kernel
theorem dX1_addCell_54 : decode cX1_addCell 54 = .ok (.iinc 3 1, 3) := by decide +kernel
theorem dX1_addCell_57 : decode cX1_addCell 57 = .ok (.goto (-55), 3) := by decide +kernel
theorem dX1_addCell_60 : decode cX1_addCell 60 = .ok (.return_, 1) := by decide +kernel
theorem dX1_hearers_0 : decode cX1_hearers 0 = .ok (.iconst 0, 1) := by decide +kernel
theorem dX1_hearers_1 : decode cX1_hearers 1 = .ok (.istore_n 3, 1) := by decide +kernel
theorem dX1_hearers_2 : decode cX1_hearers 2 = .ok (.iconst 0, 1) := by decide +kernel
theorem dX1_hearers_3 : decode cX1_hearers 3 = .ok (.istore 4, 2) := by decide +kernel
theorem dX1_hearers_5 : decode cX1_hearers 5 = .ok (.iload 4, 2) := by decide +kernel
theorem dX1_hearers_7 : decode cX1_hearers 7 = .ok (.aload_n 1, 1) := by decide +kernel
theorem dX1_hearers_8 : decode cX1_hearers 8 = .ok (.getfield 21, 3) := by decide +kernel
theorem dX1_hearers_11 : decode cX1_hearers 11 = .ok (.getfield 25, 3) := by decide +kernel
theorem dX1_hearers_14 : decode cX1_hearers 14 = .ok (.if_icmp .ge 26, 3) := by decide +kernel
theorem dX1_hearers_17 : decode cX1_hearers 17 = .ok (.aload_n 1, 1) := by decide +kernel
theorem dX1_hearers_18 : decode cX1_hearers 18 = .ok (.iload 4, 2) := by decide +kernel
theorem dX1_hearers_20 : decode cX1_hearers 20 = .ok (.iload_n 2, 1) := by decide +kernel
theorem dX1_hearers_21 : decode cX1_hearers 21 = .ok (.invokevirtual 51, 3) := by decide +kernel
theorem dX1_hearers_24 : decode cX1_hearers 24 = .ok (.ifCond .eq 10, 3) := by decide +kernel
theorem dX1_hearers_27 : decode cX1_hearers 27 = .ok (.iload_n 3, 1) := by decide +kernel
theorem dX1_hearers_28 : decode cX1_hearers 28 = .ok (.iconst 1, 1) := by decide +kernel
theorem dX1_hearers_29 : decode cX1_hearers 29 = .ok (.iload 4, 2) := by decide +kernel
theorem dX1_hearers_31 : decode cX1_hearers 31 = .ok (.ishl, 1) := by decide +kernel
theorem dX1_hearers_32 : decode cX1_hearers 32 = .ok (.ior, 1) := by decide +kernel
theorem dX1_hearers_33 : decode cX1_hearers 33 = .ok (.istore_n 3, 1) := by decide +kernel
theorem dX1_hearers_34 : decode cX1_hearers 34 = .ok (.iinc 4 1, 3) := by decide +kernel
theorem dX1_hearers_37 : decode cX1_hearers 37 = .ok (.goto (-32), 3) := by decide +kernel
theorem dX1_hearers_40 : decode cX1_hearers 40 = .ok (.iload_n 3, 1) := by decide +kernel
theorem dX1_hearers_41 : decode cX1_hearers 41 = .ok (.ireturn, 1) := by decide +kernel
theorem dX2_init_0 : decode cX2_init 0 = .ok (.aload_n 0, 1) := by decide +kernel
theorem dX2_init_1 : decode cX2_init 1 = .ok (.invokespecial 3, 3) := by decide +kernel
theorem dX2_init_4 : decode cX2_init 4 = .ok (.aload_n 0, 1) := by decide +kernel
theorem dX2_init_5 : decode cX2_init 5 = .ok (.iconst 4, 1) := by decide +kernel
theorem dX2_init_6 : decode cX2_init 6 = .ok (.newarray .int, 2) := by decide +kernel
theorem dX2_init_8 : decode cX2_init 8 = .ok (.putfield 9, 3) := by decide +kernel
theorem dX2_init_11 : decode cX2_init 11 = .ok (.aload_n 0, 1) := by decide +kernel
theorem dX2_init_12 : decode cX2_init 12 = .ok (.iconst 4, 1) := by decide +kernel
theorem dX2_init_13 : decode cX2_init 13 = .ok (.newarray .int, 2) := by decide +kernel
theorem dX2_init_15 : decode cX2_init 15 = .ok (.putfield 15, 3) := by decide +kernel
theorem dX2_init_18 : decode cX2_init 18 = .ok (.return_, 1) := by decide +kernel
theorem dX2_lookAt_0 : decode cX2_lookAt 0 = .ok (.aload_n 1, 1) := by decide +kernel
theorem dX2_lookAt_1 : decode cX2_lookAt 1 = .ok (.getfield 18, 3) := by decide +kernel
theorem dX2_lookAt_4 : decode cX2_lookAt 4 = .ok (.iload_n 2, 1) := by decide +kernel
theorem dX2_lookAt_5 : decode cX2_lookAt 5 = .ok (.iaload, 1) := by decide +kernel
theorem dX2_lookAt_6 : decode cX2_lookAt 6 = .ok (.istore_n 3, 1) := by decide +kernel
theorem dX2_lookAt_7 : decode cX2_lookAt 7 = .ok (.iconst 0, 1) := by decide +kernel
theorem dX2_lookAt_8 : decode cX2_lookAt 8 = .ok (.istore 4, 2) := by decide +kernel
theorem dX2_lookAt_10 : decode cX2_lookAt 10 = .ok (.iload 4, 2) := by decide +kernel
theorem dX2_lookAt_12 : decode cX2_lookAt 12 = .ok (.iconst 4, 1) := by decide +kernel
theorem dX2_lookAt_13 : decode cX2_lookAt 13 = .ok (.if_icmp .ge 79, 3) := by decide +kernel
theorem dX2_lookAt_16 : decode cX2_lookAt 16 = .ok (.aload_n 1, 1) := by decide +kernel
theorem dX2_lookAt_17 : decode cX2_lookAt 17 = .ok (.iload_n 2, 1) := by decide +kernel
theorem dX2_lookAt_18 : decode cX2_lookAt 18 = .ok (.iload_n 3, 1) := by decide +kernel
theorem dX2_lookAt_19 : decode cX2_lookAt 19 = .ok (.iload 4, 2) := by decide +kernel
theorem dX2_lookAt_21 : decode cX2_lookAt 21 = .ok (.invokevirtual 23, 3) := by decide +kernel
theorem dX2_lookAt_24 : decode cX2_lookAt 24 = .ok (.istore 5, 2) := by decide +kernel
theorem dX2_lookAt_26 : decode cX2_lookAt 26 = .ok (.iload 5, 2) := by decide +kernel
theorem dX2_lookAt_28 : decode cX2_lookAt 28 = .ok (.iconst (-1), 1) := by decide +kernel
theorem dX2_lookAt_29 : decode cX2_lookAt 29 = .ok (.if_icmp .ne 7, 3) := by decide +kernel
theorem dX2_lookAt_32 : decode cX2_lookAt 32 = .ok (.iload_n 3, 1) := by decide +kernel
theorem dX2_lookAt_33 : decode cX2_lookAt 33 = .ok (.goto 5, 3) := by decide +kernel
theorem dX2_lookAt_36 : decode cX2_lookAt 36 = .ok (.iload 5, 2) := by decide +kernel
theorem dX2_lookAt_38 : decode cX2_lookAt 38 = .ok (.invokestatic 27, 3) := by decide +kernel
theorem dX2_lookAt_41 : decode cX2_lookAt 41 = .ok (.istore 6, 2) := by decide +kernel
theorem dX2_lookAt_43 : decode cX2_lookAt 43 = .ok (.aload_n 0, 1) := by decide +kernel
theorem dX2_lookAt_44 : decode cX2_lookAt 44 = .ok (.getfield 9, 3) := by decide +kernel
theorem dX2_lookAt_47 : decode cX2_lookAt 47 = .ok (.iload 4, 2) := by decide +kernel
theorem dX2_lookAt_49 : decode cX2_lookAt 49 = .ok (.iload 6, 2) := by decide +kernel
theorem dX2_lookAt_51 : decode cX2_lookAt 51 = .ok (.iastore, 1) := by decide +kernel
theorem dX2_lookAt_52 : decode cX2_lookAt 52 = .ok (.aload_n 0, 1) := by decide +kernel
theorem dX2_lookAt_53 : decode cX2_lookAt 53 = .ok (.getfield 15, 3) := by decide +kernel
theorem dX2_lookAt_56 : decode cX2_lookAt 56 = .ok (.iload 4, 2) := by decide +kernel
theorem dX2_lookAt_58 : decode cX2_lookAt 58 = .ok (.iload 5, 2) := by decide +kernel
theorem dX2_lookAt_60 : decode cX2_lookAt 60 = .ok (.iconst (-1), 1) := by decide +kernel
theorem dX2_lookAt_61 : decode cX2_lookAt 61 = .ok (.if_icmp .ne 7, 3) := by decide +kernel
theorem dX2_lookAt_64 : decode cX2_lookAt 64 = .ok (.iconst 0, 1) := by decide +kernel
theorem dX2_lookAt_65 : decode cX2_lookAt 65 = .ok (.goto 4, 3) := by decide +kernel
theorem dX2_lookAt_68 : decode cX2_lookAt 68 = .ok (.iconst 1, 1) := by decide +kernel
theorem dX2_lookAt_69 : decode cX2_lookAt 69 = .ok (.aload_n 1, 1) := by decide +kernel
theorem dX2_lookAt_70 : decode cX2_lookAt 70 = .ok (.iload 6, 2) := by decide +kernel
theorem dX2_lookAt_72 : decode cX2_lookAt 72 = .ok (.invokevirtual 31, 3) := by decide +kernel
theorem dX2_lookAt_75 : decode cX2_lookAt 75 = .ok (.iconst 3, 1) := by decide +kernel
theorem dX2_lookAt_76 : decode cX2_lookAt 76 = .ok (.if_icmp .ne 7, 3) := by decide +kernel
theorem dX2_lookAt_79 : decode cX2_lookAt 79 = .ok (.iconst 1, 1) := by decide +kernel
theorem dX2_lookAt_80 : decode cX2_lookAt 80 = .ok (.goto 4, 3) := by decide +kernel
theorem dX2_lookAt_83 : decode cX2_lookAt 83 = .ok (.iconst 0, 1) := by decide +kernel
theorem dX2_lookAt_84 : decode cX2_lookAt 84 = .ok (.iadd, 1) := by decide +kernel
theorem dX2_lookAt_85 : decode cX2_lookAt 85 = .ok (.iastore, 1) := by decide +kernel
theorem dX2_lookAt_86 : decode cX2_lookAt 86 = .ok (.iinc 4 1, 3) := by decide +kernel
theorem dX2_lookAt_89 : decode cX2_lookAt 89 = .ok (.goto (-79), 3) := by decide +kernel
theorem dX2_lookAt_92 : decode cX2_lookAt 92 = .ok (.return_, 1) := by decide +kernel
theorem dX2_worth_0 : decode cX2_worth 0 = .ok (.aload_n 0, 1) := by decide +kernel
theorem dX2_worth_1 : decode cX2_worth 1 = .ok (.getfield 15, 3) := by decide +kernel
theorem dX2_worth_4 : decode cX2_worth 4 = .ok (.iload_n 1, 1) := by decide +kernel
theorem dX2_worth_5 : decode cX2_worth 5 = .ok (.iaload, 1) := by decide +kernel
theorem dX2_worth_6 : decode cX2_worth 6 = .ok (.aload_n 0, 1) := by decide +kernel
theorem dX2_worth_7 : decode cX2_worth 7 = .ok (.getfield 9, 3) := by decide +kernel
theorem dX2_worth_10 : decode cX2_worth 10 = .ok (.iload_n 1, 1) := by decide +kernel
theorem dX2_worth_11 : decode cX2_worth 11 = .ok (.iaload, 1) := by decide +kernel
theorem dX2_worth_12 : decode cX2_worth 12 = .ok (.aload_n 2, 1) := by decide +kernel
theorem dX2_worth_13 : decode cX2_worth 13 = .ok (.getfield 9, 3) := by decide +kernel
theorem dX2_worth_16 : decode cX2_worth 16 = .ok (.iload_n 3, 1) := by decide +kernel
theorem dX2_worth_17 : decode cX2_worth 17 = .ok (.iaload, 1) := by decide +kernel
theorem dX2_worth_18 : decode cX2_worth 18 = .ok (.if_icmp .ne 7, 3) := by decide +kernel
theorem dX2_worth_21 : decode cX2_worth 21 = .ok (.iconst 3, 1) := by decide +kernel
theorem dX2_worth_22 : decode cX2_worth 22 = .ok (.goto 4, 3) := by decide +kernel
theorem dX2_worth_25 : decode cX2_worth 25 = .ok (.iconst 0, 1) := by decide +kernel
theorem dX2_worth_26 : decode cX2_worth 26 = .ok (.iadd, 1) := by decide +kernel
theorem dX2_worth_27 : decode cX2_worth 27 = .ok (.ireturn, 1) := by decide +kernel
theorem dX3_init_0 : decode cX3_init 0 = .ok (.aload_n 0, 1) := by decide +kernel
theorem dX3_init_1 : decode cX3_init 1 = .ok (.invokespecial 3, 3) := by decide +kernel
theorem dX3_init_4 : decode cX3_init 4 = .ok (.aload_n 0, 1) := by decide +kernel
theorem dX3_init_5 : decode cX3_init 5 = .ok (.iconst 2, 1) := by decide +kernel
theorem dX3_init_6 : decode cX3_init 6 = .ok (.putfield 9, 3) := by decide +kernel
theorem dX3_init_9 : decode cX3_init 9 = .ok (.aload_n 0, 1) := by decide +kernel
theorem dX3_init_10 : decode cX3_init 10 = .ok (.iconst 2, 1) := by decide +kernel
theorem dX3_init_11 : decode cX3_init 11 = .ok (.putfield 15, 3) := by decide +kernel
theorem dX3_init_14 : decode cX3_init 14 = .ok (.aload_n 0, 1) := by decide +kernel
theorem dX3_init_15 : decode cX3_init 15 = .ok (.bipush 20, 2) := by decide +kernel
theorem dX3_init_17 : decode cX3_init 17 = .ok (.newarray .int, 2) := by decide +kernel
theorem dX3_init_19 : decode cX3_init 19 = .ok (.putfield 18, 3) := by decide +kernel
theorem dX3_init_22 : decode cX3_init 22 = .ok (.aload_n 0, 1) := by decide +kernel
theorem dX3_init_23 : decode cX3_init 23 = .ok (.iconst 5, 1) := by decide +kernel
theorem dX3_init_24 : decode cX3_init 24 = .ok (.newarray .int, 2) := by decide +kernel
theorem dX3_init_26 : decode cX3_init 26 = .ok (.putfield 22, 3) := by decide +kernel
theorem dX3_init_29 : decode cX3_init 29 = .ok (.aload_n 0, 1) := by decide +kernel
theorem dX3_init_30 : decode cX3_init 30 = .ok (.iconst 5, 1) := by decide +kernel
theorem dX3_init_31 : decode cX3_init 31 = .ok (.newarray .int, 2) := by decide +kernel
theorem dX3_init_33 : decode cX3_init 33 = .ok (.putfield 25, 3) := by decide +kernel
theorem dX3_init_36 : decode cX3_init 36 = .ok (.aload_n 0, 1) := by decide +kernel
theorem dX3_init_37 : decode cX3_init 37 = .ok (.bipush 80, 2) := by decide +kernel
theorem dX3_init_39 : decode cX3_init 39 = .ok (.newarray .int, 2) := by decide +kernel
theorem dX3_init_41 : decode cX3_init 41 = .ok (.putfield 28, 3) := by decide +kernel
theorem dX3_init_44 : decode cX3_init 44 = .ok (.aload_n 0, 1) := by decide +kernel
theorem dX3_init_45 : decode cX3_init 45 = .ok (.bipush 80, 2) := by decide +kernel
theorem dX3_init_47 : decode cX3_init 47 = .ok (.newarray .int, 2) := by decide +kernel
theorem dX3_init_49 : decode cX3_init 49 = .ok (.putfield 31, 3) := by decide +kernel
theorem dX3_init_52 : decode cX3_init 52 = .ok (.aload_n 0, 1) := by decide +kernel
theorem dX3_init_53 : decode cX3_init 53 = .ok (.bipush 80, 2) := by decide +kernel
theorem dX3_init_55 : decode cX3_init 55 = .ok (.newarray .int, 2) := by decide +kernel
theorem dX3_init_57 : decode cX3_init 57 = .ok (.putfield 34, 3) := by decide +kernel
theorem dX3_init_60 : decode cX3_init 60 = .ok (.aload_n 0, 1) := by decide +kernel
theorem dX3_init_61 : decode cX3_init 61 = .ok (.invokevirtual 37, 3) := by decide +kernel
theorem dX3_init_64 : decode cX3_init 64 = .ok (.return_, 1) := by decide +kernel
theorem dX3_readFrom_0 : decode cX3_readFrom 0 = .ok (.aload_n 0, 1) := by decide +kernel
theorem dX3_readFrom_1 : decode cX3_readFrom 1 = .ok (.aload_n 1, 1) := by decide +kernel
theorem dX3_readFrom_2 : decode cX3_readFrom 2 = .ok (.iconst 1, 1) := by decide +kernel
theorem dX3_readFrom_3 : decode cX3_readFrom 3 = .ok (.invokevirtual 40, 3) := by decide +kernel
theorem dX3_readFrom_6 : decode cX3_readFrom 6 = .ok (.putfield 9, 3) := by decide +kernel
theorem dX3_readFrom_9 : decode cX3_readFrom 9 = .ok (.aload_n 0, 1) := by decide +kernel
theorem dX3_readFrom_10 : decode cX3_readFrom 10 = .ok (.aload_n 1, 1) := by decide +kernel
theorem dX3_readFrom_11 : decode cX3_readFrom 11 = .ok (.iconst 2, 1) := by decide +kernel
theorem dX3_readFrom_12 : decode cX3_readFrom 12 = .ok (.invokevirtual 40, 3) := by decide +kernel
theorem dX3_readFrom_15 : decode cX3_readFrom 15 = .ok (.putfield 15, 3) := by decide +kernel
theorem dX3_readFrom_18 : decode cX3_readFrom 18 = .ok (.aload_n 0, 1) := by decide +kernel
theorem dX3_readFrom_19 : decode cX3_readFrom 19 = .ok (.aload_n 1, 1) := by decide +kernel
theorem dX3_readFrom_20 : decode cX3_readFrom 20 = .ok (.iconst 3, 1) := by decide +kernel
theorem dX3_readFrom_21 : decode cX3_readFrom 21 = .ok (.invokevirtual 40, 3) := by decide +kernel
theorem dX3_readFrom_24 : decode cX3_readFrom 24 = .ok (.putfield 46, 3) := by decide +kernel
theorem dX3_readFrom_27 : decode cX3_readFrom 27 = .ok (.aload_n 0, 1) := by decide +kernel
theorem dX3_readFrom_28 : decode cX3_readFrom 28 = .ok (.aload_n 1, 1) := by decide +kernel
theorem dX3_readFrom_29 : decode cX3_readFrom 29 = .ok (.invokevirtual 49, 3) := by decide +kernel
theorem dX3_readFrom_32 : decode cX3_readFrom 32 = .ok (.iconst 5, 1) := by decide +kernel
theorem dX3_readFrom_33 : decode cX3_readFrom 33 = .ok (.invokestatic 53, 3) := by decide +kernel
theorem dX3_readFrom_36 : decode cX3_readFrom 36 = .ok (.putfield 59, 3) := by decide +kernel
theorem dX3_readFrom_39 : decode cX3_readFrom 39 = .ok (.aload_n 0, 1) := by decide +kernel
theorem dX3_readFrom_40 : decode cX3_readFrom 40 = .ok (.invokevirtual 37, 3) := by decide +kernel
theorem dX3_readFrom_43 : decode cX3_readFrom 43 = .ok (.iconst 0, 1) := by decide +kernel
theorem dX3_readFrom_44 : decode cX3_readFrom 44 = .ok (.istore_n 2, 1) := by decide +kernel
theorem dX3_readFrom_45 : decode cX3_readFrom 45 = .ok (.iload_n 2, 1) := by decide +kernel
theorem dX3_readFrom_46 : decode cX3_readFrom 46 = .ok (.aload_n 0, 1) := by decide +kernel
theorem dX3_readFrom_47 : decode cX3_readFrom 47 = .ok (.getfield 61, 3) := by decide +kernel
theorem dX3_readFrom_50 : decode cX3_readFrom 50 = .ok (.if_icmp .ge 20, 3) := by decide +kernel
theorem dX3_readFrom_53 : decode cX3_readFrom 53 = .ok (.aload_n 0, 1) := by decide +kernel
theorem dX3_readFrom_54 : decode cX3_readFrom 54 = .ok (.getfield 18, 3) := by decide +kernel
theorem dX3_readFrom_57 : decode cX3_readFrom 57 = .ok (.iload_n 2, 1) := by decide +kernel
theorem dX3_readFrom_58 : decode cX3_readFrom 58 = .ok (.aload_n 1, 1) := by decide +kernel
theorem dX3_readFrom_59 : decode cX3_readFrom 59 = .ok (.iload_n 2, 1) := by decide +kernel
theorem dX3_readFrom_60 : decode cX3_readFrom 60 = .ok (.invokevirtual 64, 3) := by decide +kernel
theorem dX3_readFrom_63 : decode cX3_readFrom 63 = .ok (.iastore, 1) := by decide +kernel
theorem dX3_readFrom_64 : decode cX3_readFrom 64 = .ok (.iinc 2 1, 3) := by decide +kernel
theorem dX3_readFrom_67 : decode cX3_readFrom 67 = .ok (.goto (-22), 3) := by decide +kernel
theorem dX3_readFrom_70 : decode cX3_readFrom 70 = .ok (.iconst 0, 1) := by decide +kernel
theorem dX3_readFrom_71 : decode cX3_readFrom 71 = .ok (.istore_n 2, 1) := by decide +kernel
theorem dX3_readFrom_72 : decode cX3_readFrom 72 = .ok (.iload_n 2, 1) := by decide +kernel
theorem dX3_readFrom_73 : decode cX3_readFrom 73 = .ok (.aload_n 0, 1) := by decide +kernel
theorem dX3_readFrom_74 : decode cX3_readFrom 74 = .ok (.getfield 59, 3) := by decide +kernel
theorem dX3_readFrom_77 : decode cX3_readFrom 77 = .ok (.if_icmp .ge 31, 3) := by decide +kernel
theorem dX3_readFrom_80 : decode cX3_readFrom 80 = .ok (.aload_n 0, 1) := by decide +kernel
theorem dX3_readFrom_81 : decode cX3_readFrom 81 = .ok (.getfield 22, 3) := by decide +kernel
theorem dX3_readFrom_84 : decode cX3_readFrom 84 = .ok (.iload_n 2, 1) := by decide +kernel
theorem dX3_readFrom_85 : decode cX3_readFrom 85 = .ok (.aload_n 1, 1) := by decide +kernel
theorem dX3_readFrom_86 : decode cX3_readFrom 86 = .ok (.iload_n 2, 1) := by decide +kernel
theorem dX3_readFrom_87 : decode cX3_readFrom 87 = .ok (.invokevirtual 67, 3) := by decide +kernel
theorem dX3_readFrom_90 : decode cX3_readFrom 90 = .ok (.iastore, 1) := by decide +kernel
theorem dX3_readFrom_91 : decode cX3_readFrom 91 = .ok (.aload_n 0, 1) := by decide +kernel
theorem dX3_readFrom_92 : decode cX3_readFrom 92 = .ok (.getfield 25, 3) := by decide +kernel
theorem dX3_readFrom_95 : decode cX3_readFrom 95 = .ok (.iload_n 2, 1) := by decide +kernel
theorem dX3_readFrom_96 : decode cX3_readFrom 96 = .ok (.aload_n 1, 1) := by decide +kernel
theorem dX3_readFrom_97 : decode cX3_readFrom 97 = .ok (.iload_n 2, 1) := by decide +kernel
theorem dX3_readFrom_98 : decode cX3_readFrom 98 = .ok (.invokevirtual 70, 3) := by decide +kernel
theorem dX3_readFrom_101 : decode cX3_readFrom 101 = .ok (.iastore, 1) := by decide +kernel
theorem dX3_readFrom_102 : decode cX3_readFrom 102 = .ok (.iinc 2 1, 3) := by decide +kernel
theorem dX3_readFrom_105 : decode cX3_readFrom 105 = .ok (.goto (-33), 3) := by decide +kernel
theorem dX3_readFrom_108 : decode cX3_readFrom 108 = .ok (.return_, 1) := by decide +kernel
theorem dX3_layOut_0 : decode cX3_layOut 0 = .ok (.aload_n 0, 1) := by decide +kernel
theorem dX3_layOut_1 : decode cX3_layOut 1 = .ok (.aload_n 0, 1) := by decide +kernel
theorem dX3_layOut_2 : decode cX3_layOut 2 = .ok (.getfield 9, 3) := by decide +kernel
theorem dX3_layOut_5 : decode cX3_layOut 5 = .ok (.aload_n 0, 1) := by decide +kernel
theorem dX3_layOut_6 : decode cX3_layOut 6 = .ok (.getfield 15, 3) := by decide +kernel
theorem dX3_layOut_9 : decode cX3_layOut 9 = .ok (.imul, 1) := by decide +kernel
theorem dX3_layOut_10 : decode cX3_layOut 10 = .ok (.bipush 20, 2) := by decide +kernel
theorem dX3_layOut_12 : decode cX3_layOut 12 = .ok (.invokestatic 53, 3) := by decide +kernel
theorem dX3_layOut_15 : decode cX3_layOut 15 = .ok (.putfield 61, 3) := by decide +kernel
theorem dX3_layOut_18 : decode cX3_layOut 18 = .ok (.iconst 0, 1) := by decide +kernel
theorem dX3_layOut_19 : decode cX3_layOut 19 = .ok (.istore_n 1, 1) := by decide +kernel
theorem dX3_layOut_20 : decode cX3_layOut 20 = .ok (.iload_n 1, 1) := by decide +kernel
theorem dX3_layOut_21 : decode cX3_layOut 21 = .ok (.aload_n 0, 1) := by decide +kernel
theorem dX3_layOut_22 : decode cX3_layOut 22 = .ok (.getfield 15, 3) := by decide +kernel
theorem dX3_layOut_25 : decode cX3_layOut 25 = .ok (.if_icmp .ge 37, 3) := by decide +kernel
theorem dX3_layOut_28 : decode cX3_layOut 28 = .ok (.iconst 0, 1) := by decide +kernel
theorem dX3_layOut_29 : decode cX3_layOut 29 = .ok (.istore_n 2, 1) := by decide +kernel
theorem dX3_layOut_30 : decode cX3_layOut 30 = .ok (.iload_n 2, 1) := by decide +kernel
theorem dX3_layOut_31 : decode cX3_layOut 31 = .ok (.aload_n 0, 1) := by decide +kernel
theorem dX3_layOut_32 : decode cX3_layOut 32 = .ok (.getfield 9, 3) := by decide +kernel
theorem dX3_layOut_35 : decode cX3_layOut 35 = .ok (.if_icmp .ge 21, 3) := by decide +kernel
theorem dX3_layOut_38 : decode cX3_layOut 38 = .ok (.aload_n 0, 1) := by decide +kernel
theorem dX3_layOut_39 : decode cX3_layOut 39 = .ok (.iload_n 1, 1) := by decide +kernel
theorem dX3_layOut_40 : decode cX3_layOut 40 = .ok (.iload_n 2, 1) := by decide +kernel
theorem dX3_layOut_41 : decode cX3_layOut 41 = .ok (.invokevirtual 73, 3) := by decide +kernel
theorem dX3_layOut_44 : decode cX3_layOut 44 = .ok (.aload_n 0, 1) := by decide +kernel
theorem dX3_layOut_45 : decode cX3_layOut 45 = .ok (.iload_n 1, 1) := by decide +kernel
theorem dX3_layOut_46 : decode cX3_layOut 46 = .ok (.iload_n 2, 1) := by decide +kernel
theorem dX3_layOut_47 : decode cX3_layOut 47 = .ok (.invokevirtual 77, 3) := by decide +kernel
theorem dX3_layOut_50 : decode cX3_layOut 50 = .ok (.iinc 2 1, 3) := by decide +kernel
theorem dX3_layOut_53 : decode cX3_layOut 53 = .ok (.goto (-23), 3) := by decide +kernel
theorem dX3_layOut_56 : decode cX3_layOut 56 = .ok (.iinc 1 1, 3) := by decide +kernel
theorem dX3_layOut_59 : decode cX3_layOut 59 = .ok (.goto (-39), 3) := by decide +kernel
theorem dX3_layOut_62 : decode cX3_layOut 62 = .ok (.return_, 1) := by decide +kernel
theorem dX3_layRow_0 : decode cX3_layRow 0 = .ok (.iload_n 1, 1) := by decide +kernel
theorem dX3_layRow_1 : decode cX3_layRow 1 = .ok (.aload_n 0, 1) := by decide +kernel
theorem dX3_layRow_2 : decode cX3_layRow 2 = .ok (.getfield 9, 3) := by decide +kernel
theorem dX3_layRow_5 : decode cX3_layRow 5 = .ok (.imul, 1) := by decide +kernel
theorem dX3_layRow_6 : decode cX3_layRow 6 = .ok (.iload_n 2, 1) := by decide +kernel
theorem dX3_layRow_7 : decode cX3_layRow 7 = .ok (.iadd, 1) := by decide +kernel
theorem dX3_layRow_8 : decode cX3_layRow 8 = .ok (.istore_n 3, 1) := by decide +kernel
theorem dX3_layRow_9 : decode cX3_layRow 9 = .ok (.iload_n 2, 1) := by decide +kernel
theorem dX3_layRow_10 : decode cX3_layRow 10 = .ok (.ifCond .le 19, 3) := by decide +kernel
theorem dX3_layRow_13 : decode cX3_layRow 13 = .ok (.aload_n 0, 1) := by decide +kernel
theorem dX3_layRow_14 : decode cX3_layRow 14 = .ok (.iload_n 3, 1) := by decide +kernel
theorem dX3_layRow_15 : decode cX3_layRow 15 = .ok (.iconst 0, 1) := by decide +kernel
theorem dX3_layRow_16 : decode cX3_layRow 16 = .ok (.iload_n 3, 1) := by decide +kernel
theorem dX3_layRow_17 : decode cX3_layRow 17 = .ok (.iconst 1, 1) := by decide +kernel
theorem dX3_layRow_18 : decode cX3_layRow 18 = .ok (.isub, 1) := by decide +kernel
theorem dX3_layRow_19 : decode cX3_layRow 19 = .ok (.iload_n 3, 1) := by decide +kernel
theorem dX3_layRow_20 : decode cX3_layRow 20 = .ok (.iconst 1, 1) := by decide +kernel
theorem dX3_layRow_21 : decode cX3_layRow 21 = .ok (.isub, 1) := by decide +kernel
theorem dX3_layRow_22 : decode cX3_layRow 22 = .ok (.iconst 0, 1) := by decide +kernel
theorem dX3_layRow_23 : decode cX3_layRow 23 = .ok (.invokevirtual 80, 3) := by decide +kernel
theorem dX3_layRow_26 : decode cX3_layRow 26 = .ok (.goto 44, 3) := by decide +kernel
theorem dX3_layRow_29 : decode cX3_layRow 29 = .ok (.aload_n 0, 1) := by decide +kernel
theorem dX3_layRow_30 : decode cX3_layRow 30 = .ok (.iload_n 3, 1) := by decide +kernel
theorem dX3_layRow_31 : decode cX3_layRow 31 = .ok (.iconst 0, 1) := by decide +kernel
theorem dX3_layRow_32 : decode cX3_layRow 32 = .ok (.aload_n 0, 1) := by decide +kernel
theorem dX3_layRow_33 : decode cX3_layRow 33 = .ok (.iload_n 1, 1) := by decide +kernel
theorem dX3_layRow_34 : decode cX3_layRow 34 = .ok (.aload_n 0, 1) := by decide +kernel
theorem dX3_layRow_35 : decode cX3_layRow 35 = .ok (.getfield 15, 3) := by decide +kernel
theorem dX3_layRow_38 : decode cX3_layRow 38 = .ok (.aload_n 0, 1) := by decide +kernel
theorem dX3_layRow_39 : decode cX3_layRow 39 = .ok (.getfield 46, 3) := by decide +kernel
theorem dX3_layRow_42 : decode cX3_layRow 42 = .ok (.isub, 1) := by decide +kernel
theorem dX3_layRow_43 : decode cX3_layRow 43 = .ok (.invokevirtual 84, 3) := by decide +kernel
theorem dX3_layRow_46 : decode cX3_layRow 46 = .ok (.aload_n 0, 1) := by decide +kernel
theorem dX3_layRow_47 : decode cX3_layRow 47 = .ok (.getfield 9, 3) := by decide +kernel
theorem dX3_layRow_50 : decode cX3_layRow 50 = .ok (.imul, 1) := by decide +kernel
theorem dX3_layRow_51 : decode cX3_layRow 51 = .ok (.aload_n 0, 1) := by decide +kernel
theorem dX3_layRow_52 : decode cX3_layRow 52 = .ok (.getfield 9, 3) := by decide +kernel
theorem dX3_layRow_55 : decode cX3_layRow 55 = .ok (.iadd, 1) := by decide +kernel
theorem dX3_layRow_56 : decode cX3_layRow 56 = .ok (.iconst 1, 1) := by decide +kernel
theorem dX3_layRow_57 : decode cX3_layRow 57 = .ok (.isub, 1) := by decide +kernel
theorem dX3_layRow_58 : decode cX3_layRow 58 = .ok (.iload_n 3, 1) := by decide +kernel
theorem dX3_layRow_59 : decode cX3_layRow 59 = .ok (.aload_n 0, 1) := by decide +kernel
theorem dX3_layRow_60 : decode cX3_layRow 60 = .ok (.getfield 9, 3) := by decide +kernel
theorem dX3_layRow_63 : decode cX3_layRow 63 = .ok (.iadd, 1) := by decide +kernel
theorem dX3_layRow_64 : decode cX3_layRow 64 = .ok (.iconst 1, 1) := by decide +kernel
theorem dX3_layRow_65 : decode cX3_layRow 65 = .ok (.isub, 1) := by decide +kernel
theorem dX3_layRow_66 : decode cX3_layRow 66 = .ok (.iconst (-1), 1) := by decide +kernel
theorem dX3_layRow_67 : decode cX3_layRow 67 = .ok (.invokevirtual 80, 3) := by decide +kernel
theorem dX3_layRow_70 : decode cX3_layRow 70 = .ok (.iload_n 2, 1) := by decide +kernel
theorem dX3_layRow_71 : decode cX3_layRow 71 = .ok (.aload_n 0, 1) := by decide +kernel
theorem dX3_layRow_72 : decode cX3_layRow 72 = .ok (.getfield 9, 3) := by decide +kernel
theorem dX3_layRow_75 : decode cX3_layRow 75 = .ok (.iconst 1, 1) := by decide +kernel
theorem dX3_layRow_76 : decode cX3_layRow 76 = .ok (.isub, 1) := by decide +kernel
theorem dX3_layRow_77 : decode cX3_layRow 77 = .ok (.if_icmp .ge 19, 3) := by decide +kernel
theorem dX3_layRow_80 : decode cX3_layRow 80 = .ok (.aload_n 0, 1) := by decide +kernel
theorem dX3_layRow_81 : decode cX3_layRow 81 = .ok (.iload_n 3, 1) := by decide +kernel
theorem dX3_layRow_82 : decode cX3_layRow 82 = .ok (.iconst 1, 1) := by decide +kernel
theorem dX3_layRow_83 : decode cX3_layRow 83 = .ok (.iload_n 3, 1) := by decide +kernel
theorem dX3_layRow_84 : decode cX3_layRow 84 = .ok (.iconst 1, 1) := by decide +kernel
theorem dX3_layRow_85 : decode cX3_layRow 85 = .ok (.iadd, 1) := by decide +kernel
theorem dX3_layRow_86 : decode cX3_layRow 86 = .ok (.iload_n 3, 1) := by decide +kernel
theorem dX3_layRow_87 : decode cX3_layRow 87 = .ok (.iconst 1, 1) := by decide +kernel
theorem dX3_layRow_88 : decode cX3_layRow 88 = .ok (.iadd, 1) := by decide +kernel
theorem dX3_layRow_89 : decode cX3_layRow 89 = .ok (.iconst 0, 1) := by decide +kernel
theorem dX3_layRow_90 : decode cX3_layRow 90 = .ok (.invokevirtual 80, 3) := by decide +kernel
theorem dX3_layRow_93 : decode cX3_layRow 93 = .ok (.goto 30, 3) := by decide +kernel
theorem dX3_layRow_96 : decode cX3_layRow 96 = .ok (.aload_n 0, 1) := by decide +kernel
theorem dX3_layRow_97 : decode cX3_layRow 97 = .ok (.iload_n 3, 1) := by decide +kernel
theorem dX3_layRow_98 : decode cX3_layRow 98 = .ok (.iconst 1, 1) := by decide +kernel
theorem dX3_layRow_99 : decode cX3_layRow 99 = .ok (.aload_n 0, 1) := by decide +kernel
theorem dX3_layRow_100 : decode cX3_layRow 100 = .ok (.iload_n 1, 1) := by decide +kernel
theorem dX3_layRow_101 : decode cX3_layRow 101 = .ok (.aload_n 0, 1) := by decide +kernel
theorem dX3_layRow_102 : decode cX3_layRow 102 = .ok (.getfield 46, 3) := by decide +kernel
theorem dX3_layRow_105 : decode cX3_layRow 105 = .ok (.invokevirtual 84, 3) := by decide +kernel
theorem dX3_layRow_108 : decode cX3_layRow 108 = .ok (.aload_n 0, 1) := by decide +kernel
theorem dX3_layRow_109 : decode cX3_layRow 109 = .ok (.getfield 9, 3) := by decide +kernel
theorem dX3_layRow_112 : decode cX3_layRow 112 = .ok (.imul, 1) := by decide +kernel
theorem dX3_layRow_113 : decode cX3_layRow 113 = .ok (.iload_n 1, 1) := by decide +kernel
theorem dX3_layRow_114 : decode cX3_layRow 114 = .ok (.aload_n 0, 1) := by decide +kernel
theorem dX3_layRow_115 : decode cX3_layRow 115 = .ok (.getfield 9, 3) := by decide +kernel
theorem dX3_layRow_118 : decode cX3_layRow 118 = .ok (.imul, 1) := by decide +kernel
theorem dX3_layRow_119 : decode cX3_layRow 119 = .ok (.iconst 1, 1) := by decide +kernel
theorem dX3_layRow_120 : decode cX3_layRow 120 = .ok (.invokevirtual 80, 3) := by decide +kernel
theorem dX3_layRow_123 : decode cX3_layRow 123 = .ok (.return_, 1) := by decide +kernel
theorem dX3_layColumn_0 : decode cX3_layColumn 0 = .ok (.iload_n 1, 1) := by decide +kernel
theorem dX3_layColumn_1 : decode cX3_layColumn 1 = .ok (.aload_n 0, 1) := by decide +kernel
theorem dX3_layColumn_2 : decode cX3_layColumn 2 = .ok (.getfield 9, 3) := by decide +kernel
theorem dX3_layColumn_5 : decode cX3_layColumn 5 = .ok (.imul, 1) := by decide +kernel
theorem dX3_layColumn_6 : decode cX3_layColumn 6 = .ok (.iload_n 2, 1) := by decide +kernel
theorem dX3_layColumn_7 : decode cX3_layColumn 7 = .ok (.iadd, 1) := by decide +kernel
theorem dX3_layColumn_8 : decode cX3_layColumn 8 = .ok (.istore_n 3, 1) := by decide +kernel
theorem dX3_layColumn_9 : decode cX3_layColumn 9 = .ok (.aload_n 0, 1) := by decide +kernel
theorem dX3_layColumn_10 : decode cX3_layColumn 10 = .ok (.iload_n 1, 1) := by decide +kernel
theorem dX3_layColumn_11 : decode cX3_layColumn 11 = .ok (.aload_n 0, 1) := by decide +kernel
theorem dX3_layColumn_12 : decode cX3_layColumn 12 = .ok (.getfield 15, 3) := by decide +kernel
theorem dX3_layColumn_15 : decode cX3_layColumn 15 = .ok (.iconst 1, 1) := by decide +kernel
theorem dX3_layColumn_16 : decode cX3_layColumn 16 = .ok (.isub, 1) := by decide +kernel
theorem dX3_layColumn_17 : decode cX3_layColumn 17 = .ok (.invokevirtual 84, 3) := by decide +kernel
theorem dX3_layColumn_20 : decode cX3_layColumn 20 = .ok (.aload_n 0, 1) := by decide +kernel
theorem dX3_layColumn_21 : decode cX3_layColumn 21 = .ok (.getfield 9, 3) := by decide +kernel
theorem dX3_layColumn_24 : decode cX3_layColumn 24 = .ok (.imul, 1) := by decide +kernel
theorem dX3_layColumn_25 : decode cX3_layColumn 25 = .ok (.iload_n 2, 1) := by decide +kernel
theorem dX3_layColumn_26 : decode cX3_layColumn 26 = .ok (.iadd, 1) := by decide +kernel
theorem dX3_layColumn_27 : decode cX3_layColumn 27 = .ok (.istore 4, 2) := by decide +kernel
theorem dX3_layColumn_29 : decode cX3_layColumn 29 = .ok (.aload_n 0, 1) := by decide +kernel
theorem dX3_layColumn_30 : decode cX3_layColumn 30 = .ok (.iload_n 1, 1) := by decide +kernel
theorem dX3_layColumn_31 : decode cX3_layColumn 31 = .ok (.iconst 1, 1) := by decide +kernel
theorem dX3_layColumn_32 : decode cX3_layColumn 32 = .ok (.invokevirtual 84, 3) := by decide +kernel
theorem dX3_layColumn_35 : decode cX3_layColumn 35 = .ok (.aload_n 0, 1) := by decide +kernel
theorem dX3_layColumn_36 : decode cX3_layColumn 36 = .ok (.getfield 9, 3) := by decide +kernel
theorem dX3_layColumn_39 : decode cX3_layColumn 39 = .ok (.imul, 1) := by decide +kernel
theorem dX3_layColumn_40 : decode cX3_layColumn 40 = .ok (.iload_n 2, 1) := by decide +kernel
theorem dX3_layColumn_41 : decode cX3_layColumn 41 = .ok (.iadd, 1) := by decide +kernel
theorem dX3_layColumn_42 : decode cX3_layColumn 42 = .ok (.istore 5, 2) := by decide +kernel
theorem dX3_layColumn_44 : decode cX3_layColumn 44 = .ok (.aload_n 0, 1) := by decide +kernel
theorem dX3_layColumn_45 : decode cX3_layColumn 45 = .ok (.iload_n 3, 1) := by decide +kernel
theorem dX3_layColumn_46 : decode cX3_layColumn 46 = .ok (.iconst 2, 1) := by decide +kernel
theorem dX3_layColumn_47 : decode cX3_layColumn 47 = .ok (.iload 4, 2) := by decide +kernel
theorem dX3_layColumn_49 : decode cX3_layColumn 49 = .ok (.iload 4, 2) := by decide +kernel
theorem dX3_layColumn_51 : decode cX3_layColumn 51 = .ok (.iload_n 1, 1) := by decide +kernel
theorem dX3_layColumn_52 : decode cX3_layColumn 52 = .ok (.ifCond .ne 7, 3) := by decide +kernel
theorem dX3_layColumn_55 : decode cX3_layColumn 55 = .ok (.iconst (-1), 1) := by decide +kernel
theorem dX3_layColumn_56 : decode cX3_layColumn 56 = .ok (.goto 4, 3) := by decide +kernel
theorem dX3_layColumn_59 : decode cX3_layColumn 59 = .ok (.iconst 0, 1) := by decide +kernel
theorem dX3_layColumn_60 : decode cX3_layColumn 60 = .ok (.invokevirtual 80, 3) := by decide +kernel
theorem dX3_layColumn_63 : decode cX3_layColumn 63 = .ok (.aload_n 0, 1) := by decide +kernel
theorem dX3_layColumn_64 : decode cX3_layColumn 64 = .ok (.iload_n 3, 1) := by decide +kernel
theorem dX3_layColumn_65 : decode cX3_layColumn 65 = .ok (.iconst 3, 1) := by decide +kernel
theorem dX3_layColumn_66 : decode cX3_layColumn 66 = .ok (.iload 5, 2) := by decide +kernel
theorem dX3_layColumn_68 : decode cX3_layColumn 68 = .ok (.iload 5, 2) := by decide +kernel
theorem dX3_layColumn_70 : decode cX3_layColumn 70 = .ok (.iload_n 1, 1) := by decide +kernel
theorem dX3_layColumn_71 : decode cX3_layColumn 71 = .ok (.aload_n 0, 1) := by decide +kernel
theorem dX3_layColumn_72 : decode cX3_layColumn 72 = .ok (.getfield 15, 3) := by decide +kernel
theorem dX3_layColumn_75 : decode cX3_layColumn 75 = .ok (.iconst 1, 1) := by decide +kernel
theorem dX3_layColumn_76 : decode cX3_layColumn 76 = .ok (.isub, 1) := by decide +kernel
theorem dX3_layColumn_77 : decode cX3_layColumn 77 = .ok (.if_icmp .ne 7, 3) := by decide +kernel
theorem dX3_layColumn_80 : decode cX3_layColumn 80 = .ok (.iconst 1, 1) := by decide +kernel
theorem dX3_layColumn_81 : decode cX3_layColumn 81 = .ok (.goto 4, 3) := by decide +kernel
theorem dX3_layColumn_84 : decode cX3_layColumn 84 = .ok (.iconst 0, 1) := by decide +kernel
theorem dX3_layColumn_85 : decode cX3_layColumn 85 = .ok (.invokevirtual 80, 3) := by decide +kernel
theorem dX3_layColumn_88 : decode cX3_layColumn 88 = .ok (.return_, 1) := by decide +kernel
theorem dX3_lay_0 : decode cX3_lay 0 = .ok (.iload_n 1, 1) := by decide +kernel
theorem dX3_lay_1 : decode cX3_lay 1 = .ok (.iconst 4, 1) := by decide +kernel
theorem dX3_lay_2 : decode cX3_lay 2 = .ok (.imul, 1) := by decide +kernel
theorem dX3_lay_3 : decode cX3_lay 3 = .ok (.iload_n 2, 1) := by decide +kernel
theorem dX3_lay_4 : decode cX3_lay 4 = .ok (.iadd, 1) := by decide +kernel
theorem dX3_lay_5 : decode cX3_lay 5 = .ok (.istore 6, 2) := by decide +kernel
theorem dX3_lay_7 : decode cX3_lay 7 = .ok (.iload 6, 2) := by decide +kernel
theorem dX3_lay_9 : decode cX3_lay 9 = .ok (.ifCond .lt 10, 3) := by decide +kernel
theorem dX3_lay_12 : decode cX3_lay 12 = .ok (.iload 6, 2) := by decide +kernel
theorem dX3_lay_14 : decode cX3_lay 14 = .ok (.bipush 80, 2) := by decide +kernel
theorem dX3_lay_16 : decode cX3_lay 16 = .ok (.if_icmp .lt 4, 3) := by decide +kernel
theorem dX3_lay_19 : decode cX3_lay 19 = .ok (.return_, 1) := by decide +kernel
theorem dX3_lay_20 : decode cX3_lay 20 = .ok (.aload_n 0, 1) := by decide +kernel
theorem dX3_lay_21 : decode cX3_lay 21 = .ok (.getfield 28, 3) := by decide +kernel
theorem dX3_lay_24 : decode cX3_lay 24 = .ok (.iload 6, 2) := by decide +kernel
theorem dX3_lay_26 : decode cX3_lay 26 = .ok (.iload_n 3, 1) := by decide +kernel
theorem dX3_lay_27 : decode cX3_lay 27 = .ok (.iastore, 1) := by decide +kernel
theorem dX3_lay_28 : decode cX3_lay 28 = .ok (.aload_n 0, 1) := by decide +kernel
theorem dX3_lay_29 : decode cX3_lay 29 = .ok (.getfield 31, 3) := by decide +kernel
theorem dX3_lay_32 : decode cX3_lay 32 = .ok (.iload 6, 2) := by decide +kernel
theorem dX3_lay_34 : decode cX3_lay 34 = .ok (.iload 4, 2) := by decide +kernel
theorem dX3_lay_36 : decode cX3_lay 36 = .ok (.iastore, 1) := by decide +kernel
theorem dX3_lay_37 : decode cX3_lay 37 = .ok (.aload_n 0, 1) := by decide +kernel
theorem dX3_lay_38 : decode cX3_lay 38 = .ok (.getfield 34, 3) := by decide +kernel
theorem dX3_lay_41 : decode cX3_lay 41 = .ok (.iload 6, 2) := by decide +kernel
theorem dX3_lay_43 : decode cX3_lay 43 = .ok (.iload 5, 2) := by decide +kernel
theorem dX3_lay_45 : decode cX3_lay 45 = .ok (.iastore, 1) := by decide +kernel
theorem dX3_lay_46 : decode cX3_lay 46 = .ok (.return_, 1) := by decide +kernel
theorem dX3_rowOn_0 : decode cX3_rowOn 0 = .ok (.iload_n 1, 1) := by decide +kernel
theorem dX3_rowOn_1 : decode cX3_rowOn 1 = .ok (.iload_n 2, 1) := by decide +kernel
theorem dX3_rowOn_2 : decode cX3_rowOn 2 = .ok (.iadd, 1) := by decide +kernel
theorem dX3_rowOn_3 : decode cX3_rowOn 3 = .ok (.istore_n 3, 1) := by decide +kernel
theorem dX3_rowOn_4 : decode cX3_rowOn 4 = .ok (.iload_n 3, 1) := by decide +kernel
theorem dX3_rowOn_5 : decode cX3_rowOn 5 = .ok (.aload_n 0, 1) := by decide +kernel
theorem dX3_rowOn_6 : decode cX3_rowOn 6 = .ok (.getfield 15, 3) := by decide +kernel
theorem dX3_rowOn_9 : decode cX3_rowOn 9 = .ok (.if_icmp .lt 12, 3) := by decide +kernel
theorem dX3_rowOn_12 : decode cX3_rowOn 12 = .ok (.iload_n 3, 1) := by decide +kernel
theorem dX3_rowOn_13 : decode cX3_rowOn 13 = .ok (.aload_n 0, 1) := by decide +kernel
theorem dX3_rowOn_14 : decode cX3_rowOn 14 = .ok (.getfield 15, 3) := by decide +kernel
theorem dX3_rowOn_17 : decode cX3_rowOn 17 = .ok (.isub, 1) := by decide +kernel
theorem dX3_rowOn_18 : decode cX3_rowOn 18 = .ok (.goto 4, 3) := by decide +kernel
theorem dX3_rowOn_21 : decode cX3_rowOn 21 = .ok (.iload_n 3, 1) := by decide +kernel
theorem dX3_rowOn_22 : decode cX3_rowOn 22 = .ok (.ireturn, 1) := by decide +kernel
theorem dX3_hasCell_0 : decode cX3_hasCell 0 = .ok (.iload_n 1, 1) := by decide +kernel
theorem dX3_hasCell_1 : decode cX3_hasCell 1 = .ok (.ifCond .lt 15, 3) := by decide +kernel
theorem dX3_hasCell_4 : decode cX3_hasCell 4 = .ok (.iload_n 1, 1) := by decide +kernel
theorem dX3_hasCell_5 : decode cX3_hasCell 5 = .ok (.aload_n 0, 1) := by decide +kernel
theorem dX3_hasCell_6 : decode cX3_hasCell 6 = .ok (.getfield 61, 3) := by decide +kernel
theorem dX3_hasCell_9 : decode cX3_hasCell 9 = .ok (.if_icmp .ge 7, 3) := by decide +kernel
theorem dX3_hasCell_12 : decode cX3_hasCell 12 = .ok (.iconst 1, 1) := by decide +kernel
theorem dX3_hasCell_13 : decode cX3_hasCell 13 = .ok (.goto 4, 3) := by decide +kernel
theorem dX3_hasCell_16 : decode cX3_hasCell 16 = .ok (.iconst 0, 1) := by decide +kernel
theorem dX3_hasCell_17 : decode cX3_hasCell 17 = .ok (.ireturn, 1) := by decide +kernel
theorem dX3_hasBoy_0 : decode cX3_hasBoy 0 = .ok (.iload_n 1, 1) := by decide +kernel
theorem dX3_hasBoy_1 : decode cX3_hasBoy 1 = .ok (.ifCond .lt 15, 3) := by decide +kernel
theorem dX3_hasBoy_4 : decode cX3_hasBoy 4 = .ok (.iload_n 1, 1) := by decide +kernel
theorem dX3_hasBoy_5 : decode cX3_hasBoy 5 = .ok (.aload_n 0, 1) := by decide +kernel
theorem dX3_hasBoy_6 : decode cX3_hasBoy 6 = .ok (.getfield 59, 3) := by decide +kernel
theorem dX3_hasBoy_9 : decode cX3_hasBoy 9 = .ok (.if_icmp .ge 7, 3) := by decide +kernel
theorem dX3_hasBoy_12 : decode cX3_hasBoy 12 = .ok (.iconst 1, 1) := by decide +kernel
theorem dX3_hasBoy_13 : decode cX3_hasBoy 13 = .ok (.goto 4, 3) := by decide +kernel
theorem dX3_hasBoy_16 : decode cX3_hasBoy 16 = .ok (.iconst 0, 1) := by decide +kernel
theorem dX3_hasBoy_17 : decode cX3_hasBoy 17 = .ok (.ireturn, 1) := by decide +kernel
theorem dX3_goesStraight_0 : decode cX3_goesStraight 0 = .ok (.aload_n 0, 1) := by decide +kernel
theorem dX3_goesStraight_1 : decode cX3_goesStraight 1 = .ok (.getfield 25, 3) := by decide +kernel
theorem dX3_goesStraight_4 : decode cX3_goesStraight 4 = .ok (.iload_n 1, 1) := by decide +kernel
theorem dX3_goesStraight_5 : decode cX3_goesStraight 5 = .ok (.iaload, 1) := by decide +kernel
theorem dX3_goesStraight_6 : decode cX3_goesStraight 6 = .ok (.iconst 3, 1) := by decide +kernel
theorem dX3_goesStraight_7 : decode cX3_goesStraight 7 = .ok (.if_icmp .ne 7, 3) := by decide +kernel
theorem dX3_goesStraight_10 : decode cX3_goesStraight 10 = .ok (.iconst 1, 1) := by decide +kernel
theorem dX3_goesStraight_11 : decode cX3_goesStraight 11 = .ok (.goto 4, 3) := by decide +kernel
theorem dX3_goesStraight_14 : decode cX3_goesStraight 14 = .ok (.iconst 0, 1) := by decide +kernel
theorem dX3_goesStraight_15 : decode cX3_goesStraight 15 = .ok (.ireturn, 1) := by decide +kernel
theorem dX3_cellBeside_0 : decode cX3_cellBeside 0 = .ok (.iload_n 1, 1) := by decide +kernel
theorem dX3_cellBeside_1 : decode cX3_cellBeside 1 = .ok (.iconst 4, 1) := by decide +kernel
theorem dX3_cellBeside_2 : decode cX3_cellBeside 2 = .ok (.imul, 1) := by decide +kernel
theorem dX3_cellBeside_3 : decode cX3_cellBeside 3 = .ok (.iload_n 2, 1) := by decide +kernel
theorem dX3_cellBeside_4 : decode cX3_cellBeside 4 = .ok (.iadd, 1) := by decide +kernel
theorem dX3_cellBeside_5 : decode cX3_cellBeside 5 = .ok (.istore 4, 2) := by decide +kernel
theorem dX3_cellBeside_7 : decode cX3_cellBeside 7 = .ok (.iload_n 3, 1) := by decide +kernel
theorem dX3_cellBeside_8 : decode cX3_cellBeside 8 = .ok (.ifCond .eq 13, 3) := by decide +kernel
theorem dX3_cellBeside_11 : decode cX3_cellBeside 11 = .ok (.aload_n 0, 1) := by decide +kernel
theorem dX3_cellBeside_12 : decode cX3_cellBeside 12 = .ok (.getfield 31, 3) := by decide +kernel
theorem dX3_cellBeside_15 : decode cX3_cellBeside 15 = .ok (.iload 4, 2) := by decide +kernel
theorem dX3_cellBeside_17 : decode cX3_cellBeside 17 = .ok (.iaload, 1) := by decide +kernel
theorem dX3_cellBeside_18 : decode cX3_cellBeside 18 = .ok (.goto 10, 3) := by decide +kernel
theorem dX3_cellBeside_21 : decode cX3_cellBeside 21 = .ok (.aload_n 0, 1) := by decide +kernel
theorem dX3_cellBeside_22 : decode cX3_cellBeside 22 = .ok (.getfield 28, 3) := by decide +kernel
theorem dX3_cellBeside_25 : decode cX3_cellBeside 25 = .ok (.iload 4, 2) := by decide +kernel
theorem dX3_cellBeside_27 : decode cX3_cellBeside 27 = .ok (.iaload, 1) := by decide +kernel
theorem dX3_cellBeside_28 : decode cX3_cellBeside 28 = .ok (.ireturn, 1) := by decide +kernel
theorem dX3_placeBeside_0 : decode cX3_placeBeside 0 = .ok (.iload_n 1, 1) := by decide +kernel
theorem dX3_placeBeside_1 : decode cX3_placeBeside 1 = .ok (.invokestatic 87, 3) := by decide +kernel
theorem dX3_placeBeside_4 : decode cX3_placeBeside 4 = .ok (.istore 4, 2) := by decide +kernel
theorem dX3_placeBeside_6 : decode cX3_placeBeside 6 = .ok (.aload_n 0, 1) := by decide +kernel
theorem dX3_placeBeside_7 : decode cX3_placeBeside 7 = .ok (.getfield 34, 3) := by decide +kernel
theorem dX3_placeBeside_10 : decode cX3_placeBeside 10 = .ok (.iload 4, 2) := by decide +kernel
theorem dX3_placeBeside_12 : decode cX3_placeBeside 12 = .ok (.iconst 4, 1) := by decide +kernel
theorem dX3_placeBeside_13 : decode cX3_placeBeside 13 = .ok (.imul, 1) := by decide +kernel
theorem dX3_placeBeside_14 : decode cX3_placeBeside 14 = .ok (.iload_n 2, 1) := by decide +kernel
theorem dX3_placeBeside_15 : decode cX3_placeBeside 15 = .ok (.iadd, 1) := by decide +kernel
theorem dX3_placeBeside_16 : decode cX3_placeBeside 16 = .ok (.iaload, 1) := by decide +kernel
theorem dX3_placeBeside_17 : decode cX3_placeBeside 17 = .ok (.istore 5, 2) := by decide +kernel
theorem dX3_placeBeside_19 : decode cX3_placeBeside 19 = .ok (.iload_n 2, 1) := by decide +kernel
theorem dX3_placeBeside_20 : decode cX3_placeBeside 20 = .ok (.ifCond .eq 8, 3) := by decide +kernel
theorem dX3_placeBeside_23 : decode cX3_placeBeside 23 = .ok (.iload_n 2, 1) := by decide +kernel
theorem dX3_placeBeside_24 : decode cX3_placeBeside 24 = .ok (.iconst 1, 1) := by decide +kernel
theorem dX3_placeBeside_25 : decode cX3_placeBeside 25 = .ok (.if_icmp .ne 7, 3) := by decide +kernel
theorem dX3_placeBeside_28 : decode cX3_placeBeside 28 = .ok (.iconst 1, 1) := by decide +kernel
theorem dX3_placeBeside_29 : decode cX3_placeBeside 29 = .ok (.goto 4, 3) := by decide +kernel
theorem dX3_placeBeside_32 : decode cX3_placeBeside 32 = .ok (.iconst 0, 1) := by decide +kernel
theorem dX3_placeBeside_33 : decode cX3_placeBeside 33 = .ok (.istore 6, 2) := by decide +kernel
theorem dX3_placeBeside_35 : decode cX3_placeBeside 35 = .ok (.iload 6, 2) := by decide +kernel
theorem dX3_placeBeside_37 : decode cX3_placeBeside 37 = .ok (.ifCond .eq 10, 3) := by decide +kernel
theorem dX3_placeBeside_40 : decode cX3_placeBeside 40 = .ok (.iload_n 1, 1) := by decide +kernel
theorem dX3_placeBeside_41 : decode cX3_placeBeside 41 = .ok (.invokestatic 90, 3) := by decide +kernel
theorem dX3_placeBeside_44 : decode cX3_placeBeside 44 = .ok (.goto 7, 3) := by decide +kernel
theorem dX3_placeBeside_47 : decode cX3_placeBeside 47 = .ok (.iload_n 1, 1) := by decide +kernel
theorem dX3_placeBeside_48 : decode cX3_placeBeside 48 = .ok (.invokestatic 93, 3) := by decide +kernel
theorem dX3_placeBeside_51 : decode cX3_placeBeside 51 = .ok (.iload 5, 2) := by decide +kernel
theorem dX3_placeBeside_53 : decode cX3_placeBeside 53 = .ok (.iadd, 1) := by decide +kernel
theorem dX3_placeBeside_54 : decode cX3_placeBeside 54 = .ok (.istore 7, 2) := by decide +kernel
theorem dX3_placeBeside_56 : decode cX3_placeBeside 56 = .ok (.iload 7, 2) := by decide +kernel
theorem dX3_placeBeside_58 : decode cX3_placeBeside 58 = .ok (.ifCond .lt 10, 3) := by decide +kernel
theorem dX3_placeBeside_61 : decode cX3_placeBeside 61 = .ok (.iload 7, 2) := by decide +kernel
theorem dX3_placeBeside_63 : decode cX3_placeBeside 63 = .ok (.bipush 7, 2) := by decide +kernel
theorem dX3_placeBeside_65 : decode cX3_placeBeside 65 = .ok (.if_icmp .lt 5, 3) := by decide +kernel
theorem dX3_placeBeside_68 : decode cX3_placeBeside 68 = .ok (.iconst (-1), 1) := by decide +kernel
theorem dX3_placeBeside_69 : decode cX3_placeBeside 69 = .ok (.ireturn, 1) := by decide +kernel
theorem dX3_placeBeside_70 : decode cX3_placeBeside 70 = .ok (.iload_n 1, 1) := by decide +kernel
theorem dX3_placeBeside_71 : decode cX3_placeBeside 71 = .ok (.iload 5, 2) := by decide +kernel
theorem dX3_placeBeside_73 : decode cX3_placeBeside 73 = .ok (.iload 6, 2) := by decide +kernel
theorem dX3_placeBeside_75 : decode cX3_placeBeside 75 = .ok (.ifCond .eq 8, 3) := by decide +kernel
theorem dX3_placeBeside_78 : decode cX3_placeBeside 78 = .ok (.bipush 20, 2) := by decide +kernel
theorem dX3_placeBeside_80 : decode cX3_placeBeside 80 = .ok (.goto 6, 3) := by decide +kernel
theorem dX3_placeBeside_83 : decode cX3_placeBeside 83 = .ok (.sipush 140, 3) := by decide +kernel
theorem dX3_placeBeside_86 : decode cX3_placeBeside 86 = .ok (.imul, 1) := by decide +kernel
theorem dX3_placeBeside_87 : decode cX3_placeBeside 87 = .ok (.iadd, 1) := by decide +kernel
theorem dX3_placeBeside_88 : decode cX3_placeBeside 88 = .ok (.istore 8, 2) := by decide +kernel
theorem dX3_placeBeside_90 : decode cX3_placeBeside 90 = .ok (.iload 8, 2) := by decide +kernel
theorem dX3_placeBeside_92 : decode cX3_placeBeside 92 = .ok (.iload 4, 2) := by decide +kernel
theorem dX3_placeBeside_94 : decode cX3_placeBeside 94 = .ok (.isub, 1) := by decide +kernel
theorem dX3_placeBeside_95 : decode cX3_placeBeside 95 = .ok (.aload_n 0, 1) := by decide +kernel
theorem dX3_placeBeside_96 : decode cX3_placeBeside 96 = .ok (.iload 4, 2) := by decide +kernel
theorem dX3_placeBeside_98 : decode cX3_placeBeside 98 = .ok (.iload_n 2, 1) := by decide +kernel
theorem dX3_placeBeside_99 : decode cX3_placeBeside 99 = .ok (.iload_n 3, 1) := by decide +kernel
theorem dX3_placeBeside_100 : decode cX3_placeBeside 100 = .ok (.invokevirtual 96, 3) := by decide +kernel
theorem dX3_placeBeside_103 : decode cX3_placeBeside 103 = .ok (.iadd, 1) := by decide +kernel
theorem dX3_placeBeside_104 : decode cX3_placeBeside 104 = .ok (.ireturn, 1) := by decide +kernel
theorem dX4_init_0 : decode cX4_init 0 = .ok (.aload_n 0, 1) := by decide +kernel
theorem dX4_init_1 : decode cX4_init 1 = .ok (.invokespecial 3, 3) := by decide +kernel
theorem dX4_init_4 : decode cX4_init 4 = .ok (.aload_n 0, 1) := by decide +kernel
theorem dX4_init_5 : decode cX4_init 5 = .ok (.iconst 5, 1) := by decide +kernel
theorem dX4_init_6 : decode cX4_init 6 = .ok (.newarray .int, 2) := by decide +kernel
theorem dX4_init_8 : decode cX4_init 8 = .ok (.putfield 9, 3) := by decide +kernel
theorem dX4_init_11 : decode cX4_init 11 = .ok (.aload_n 0, 1) := by decide +kernel
theorem dX4_init_12 : decode cX4_init 12 = .ok (.aload_n 1, 1) := by decide +kernel
theorem dX4_init_13 : decode cX4_init 13 = .ok (.putfield 15, 3) := by decide +kernel
theorem dX4_init_16 : decode cX4_init 16 = .ok (.return_, 1) := by decide +kernel
theorem dX4_begin_0 : decode cX4_begin 0 = .ok (.aload_n 0, 1) := by decide +kernel
theorem dX4_begin_1 : decode cX4_begin 1 = .ok (.iconst 0, 1) := by decide +kernel
theorem dX4_begin_2 : decode cX4_begin 2 = .ok (.putfield 19, 3) := by decide +kernel
theorem dX4_begin_5 : decode cX4_begin 5 = .ok (.iconst 0, 1) := by decide +kernel
theorem dX4_begin_6 : decode cX4_begin 6 = .ok (.istore_n 1, 1) := by decide +kernel
theorem dX4_begin_7 : decode cX4_begin 7 = .ok (.iload_n 1, 1) := by decide +kernel
theorem dX4_begin_8 : decode cX4_begin 8 = .ok (.aload_n 0, 1) := by decide +kernel
theorem dX4_begin_9 : decode cX4_begin 9 = .ok (.getfield 15, 3) := by decide +kernel
theorem dX4_begin_12 : decode cX4_begin 12 = .ok (.getfield 23, 3) := by decide +kernel
theorem dX4_begin_15 : decode cX4_begin 15 = .ok (.if_icmp .ge 20, 3) := by decide +kernel
theorem dX4_begin_18 : decode cX4_begin 18 = .ok (.aload_n 0, 1) := by decide +kernel
theorem dX4_begin_19 : decode cX4_begin 19 = .ok (.getfield 9, 3) := by decide +kernel
theorem dX4_begin_22 : decode cX4_begin 22 = .ok (.iload_n 1, 1) := by decide +kernel
theorem dX4_begin_23 : decode cX4_begin 23 = .ok (.aload_n 0, 1) := by decide +kernel
theorem dX4_begin_24 : decode cX4_begin 24 = .ok (.iload_n 1, 1) := by decide +kernel
theorem dX4_begin_25 : decode cX4_begin 25 = .ok (.invokevirtual 28, 3) := by decide +kernel
theorem dX4_begin_28 : decode cX4_begin 28 = .ok (.iastore, 1) := by decide +kernel
theorem dX4_begin_29 : decode cX4_begin 29 = .ok (.iinc 1 1, 3) := by decide +kernel
theorem dX4_begin_32 : decode cX4_begin 32 = .ok (.goto (-25), 3) := by decide +kernel
theorem dX4_begin_35 : decode cX4_begin 35 = .ok (.return_, 1) := by decide +kernel
theorem dX4_become_0 : decode cX4_become 0 = .ok (.aload_n 0, 1) := by decide +kernel
theorem dX4_become_1 : decode cX4_become 1 = .ok (.aload_n 1, 1) := by decide +kernel
theorem dX4_become_2 : decode cX4_become 2 = .ok (.getfield 19, 3) := by decide +kernel
theorem dX4_become_5 : decode cX4_become 5 = .ok (.putfield 19, 3) := by decide +kernel
theorem dX4_become_8 : decode cX4_become 8 = .ok (.aload_n 1, 1) := by decide +kernel
theorem dX4_become_9 : decode cX4_become 9 = .ok (.getfield 9, 3) := by decide +kernel
theorem dX4_become_12 : decode cX4_become 12 = .ok (.iconst 0, 1) := by decide +kernel
theorem dX4_become_13 : decode cX4_become 13 = .ok (.aload_n 0, 1) := by decide +kernel
theorem dX4_become_14 : decode cX4_become 14 = .ok (.getfield 9, 3) := by decide +kernel
theorem dX4_become_17 : decode cX4_become 17 = .ok (.iconst 0, 1) := by decide +kernel
theorem dX4_become_18 : decode cX4_become 18 = .ok (.iconst 5, 1) := by decide +kernel
theorem dX4_become_19 : decode cX4_become 19 = .ok (.invokestatic 32, 3) := by decide +kernel
theorem dX4_become_22 : decode cX4_become 22 = .ok (.return_, 1) := by decide +kernel
theorem dX4_kindAt_0 : decode cX4_kindAt 0 = .ok (.aload_n 0, 1) := by decide +kernel
theorem dX4_kindAt_1 : decode cX4_kindAt 1 = .ok (.getfield 19, 3) := by decide +kernel
theorem dX4_kindAt_4 : decode cX4_kindAt 4 = .ok (.iload_n 1, 1) := by decide +kernel
theorem dX4_kindAt_5 : decode cX4_kindAt 5 = .ok (.ishr, 1) := by decide +kernel
theorem dX4_kindAt_6 : decode cX4_kindAt 6 = .ok (.iconst 1, 1) := by decide +kernel
theorem dX4_kindAt_7 : decode cX4_kindAt 7 = .ok (.iand, 1) := by decide +kernel
theorem dX4_kindAt_8 : decode cX4_kindAt 8 = .ok (.ifCond .eq 7, 3) := by decide +kernel
theorem dX4_kindAt_11 : decode cX4_kindAt 11 = .ok (.iconst 0, 1) := by decide +kernel
theorem dX4_kindAt_12 : decode cX4_kindAt 12 = .ok (.goto 12, 3) := by decide +kernel
theorem dX4_kindAt_15 : decode cX4_kindAt 15 = .ok (.aload_n 0, 1) := by decide +kernel
theorem dX4_kindAt_16 : decode cX4_kindAt 16 = .ok (.getfield 15, 3) := by decide +kernel
theorem dX4_kindAt_19 : decode cX4_kindAt 19 = .ok (.getfield 38, 3) := by decide +kernel
theorem dX4_kindAt_22 : decode cX4_kindAt 22 = .ok (.iload_n 1, 1) := by decide +kernel
theorem dX4_kindAt_23 : decode cX4_kindAt 23 = .ok (.iaload, 1) := by decide +kernel
theorem dX4_kindAt_24 : decode cX4_kindAt 24 = .ok (.ireturn, 1) := by decide +kernel
theorem dX4_cellsOfKind_0 : decode cX4_cellsOfKind 0 = .ok (.iconst 0, 1) := by decide +kernel
theorem dX4_cellsOfKind_1 : decode cX4_cellsOfKind 1 = .ok (.istore_n 2, 1) := by decide +kernel
theorem dX4_cellsOfKind_2 : decode cX4_cellsOfKind 2 = .ok (.iconst 0, 1) := by decide +kernel
theorem dX4_cellsOfKind_3 : decode cX4_cellsOfKind 3 = .ok (.istore_n 3, 1) := by decide +kernel
theorem dX4_cellsOfKind_4 : decode cX4_cellsOfKind 4 = .ok (.iload_n 3, 1) := by decide +kernel
theorem dX4_cellsOfKind_5 : decode cX4_cellsOfKind 5 = .ok (.aload_n 0, 1) := by decide +kernel
theorem dX4_cellsOfKind_6 : decode cX4_cellsOfKind 6 = .ok (.getfield 15, 3) := by decide +kernel
theorem dX4_cellsOfKind_9 : decode cX4_cellsOfKind 9 = .ok (.getfield 41, 3) := by decide +kernel
theorem dX4_cellsOfKind_12 : decode cX4_cellsOfKind 12 = .ok (.if_icmp .ge 24, 3) := by decide +kernel
theorem dX4_cellsOfKind_15 : decode cX4_cellsOfKind 15 = .ok (.aload_n 0, 1) := by decide +kernel
theorem dX4_cellsOfKind_16 : decode cX4_cellsOfKind 16 = .ok (.iload_n 3, 1) := by decide +kernel
theorem dX4_cellsOfKind_17 : decode cX4_cellsOfKind 17 = .ok (.invokevirtual 44, 3) := by decide +kernel
theorem dX4_cellsOfKind_20 : decode cX4_cellsOfKind 20 = .ok (.iload_n 1, 1) := by decide +kernel
theorem dX4_cellsOfKind_21 : decode cX4_cellsOfKind 21 = .ok (.if_icmp .ne 9, 3) := by decide +kernel
theorem dX4_cellsOfKind_24 : decode cX4_cellsOfKind 24 = .ok (.iload_n 2, 1) := by decide +kernel
theorem dX4_cellsOfKind_25 : decode cX4_cellsOfKind 25 = .ok (.iconst 1, 1) := by decide +kernel
theorem dX4_cellsOfKind_26 : decode cX4_cellsOfKind 26 = .ok (.iload_n 3, 1) := by decide +kernel
theorem dX4_cellsOfKind_27 : decode cX4_cellsOfKind 27 = .ok (.ishl, 1) := by decide +kernel
theorem dX4_cellsOfKind_28 : decode cX4_cellsOfKind 28 = .ok (.ior, 1) := by decide +kernel
theorem dX4_cellsOfKind_29 : decode cX4_cellsOfKind 29 = .ok (.istore_n 2, 1) := by decide +kernel
theorem dX4_cellsOfKind_30 : decode cX4_cellsOfKind 30 = .ok (.iinc 3 1, 3) := by decide +kernel
theorem dX4_cellsOfKind_33 : decode cX4_cellsOfKind 33 = .ok (.goto (-29), 3) := by decide +kernel
theorem dX4_cellsOfKind_36 : decode cX4_cellsOfKind 36 = .ok (.iload_n 2, 1) := by decide +kernel
theorem dX4_cellsOfKind_37 : decode cX4_cellsOfKind 37 = .ok (.ireturn, 1) := by decide +kernel
theorem dX4_cutAway_0 : decode cX4_cutAway 0 = .ok (.aload_n 0, 1) := by decide +kernel
theorem dX4_cutAway_1 : decode cX4_cutAway 1 = .ok (.dup, 1) := by decide +kernel
theorem dX4_cutAway_2 : decode cX4_cutAway 2 = .ok (.getfield 19, 3) := by decide +kernel
theorem dX4_cutAway_5 : decode cX4_cutAway 5 = .ok (.iconst 1, 1) := by decide +kernel
theorem dX4_cutAway_6 : decode cX4_cutAway 6 = .ok (.iload_n 1, 1) := by decide +kernel
theorem dX4_cutAway_7 : decode cX4_cutAway 7 = .ok (.ishl, 1) := by decide +kernel
theorem dX4_cutAway_8 : decode cX4_cutAway 8 = .ok (.ior, 1) := by decide +kernel
theorem dX4_cutAway_9 : decode cX4_cutAway 9 = .ok (.putfield 19, 3) := by decide +kernel
theorem dX4_cutAway_12 : decode cX4_cutAway 12 = .ok (.return_, 1) := by decide +kernel
theorem dX4_canBe_0 : decode cX4_canBe 0 = .ok (.aload_n 0, 1) := by decide +kernel
theorem dX4_canBe_1 : decode cX4_canBe 1 = .ok (.iload_n 2, 1) := by decide +kernel
theorem dX4_canBe_2 : decode cX4_canBe 2 = .ok (.invokevirtual 44, 3) := by decide +kernel
theorem dX4_canBe_5 : decode cX4_canBe 5 = .ok (.istore_n 3, 1) := by decide +kernel
theorem dX4_canBe_6 : decode cX4_canBe 6 = .ok (.aload_n 0, 1) := by decide +kernel
theorem dX4_canBe_7 : decode cX4_canBe 7 = .ok (.getfield 15, 3) := by decide +kernel
theorem dX4_canBe_10 : decode cX4_canBe 10 = .ok (.getfield 47, 3) := by decide +kernel
theorem dX4_canBe_13 : decode cX4_canBe 13 = .ok (.iload_n 1, 1) := by decide +kernel
theorem dX4_canBe_14 : decode cX4_canBe 14 = .ok (.iaload, 1) := by decide +kernel
theorem dX4_canBe_15 : decode cX4_canBe 15 = .ok (.lookupswitch 43 #[(1, 25), (2, 27)], 25) := by decide +kernel
theorem dX4_canBe_40 : decode cX4_canBe 40 = .ok (.iconst 1, 1) := by decide +kernel
theorem dX4_canBe_41 : decode cX4_canBe 41 = .ok (.ireturn, 1) := by decide +kernel
theorem dX4_canBe_42 : decode cX4_canBe 42 = .ok (.iload_n 3, 1) := by decide +kernel
theorem dX4_canBe_43 : decode cX4_canBe 43 = .ok (.iconst 1, 1) := by decide +kernel
theorem dX4_canBe_44 : decode cX4_canBe 44 = .ok (.if_icmp .eq 12, 3) := by decide +kernel
theorem dX4_canBe_47 : decode cX4_canBe 47 = .ok (.iload_n 3, 1) := by decide +kernel
theorem dX4_canBe_48 : decode cX4_canBe 48 = .ok (.iconst 2, 1) := by decide +kernel
theorem dX4_canBe_49 : decode cX4_canBe 49 = .ok (.if_icmp .eq 7, 3) := by decide +kernel
theorem dX4_canBe_52 : decode cX4_canBe 52 = .ok (.iconst 1, 1) := by decide +kernel
theorem dX4_canBe_53 : decode cX4_canBe 53 = .ok (.goto 4, 3) := by decide +kernel
theorem dX4_canBe_56 : decode cX4_canBe 56 = .ok (.iconst 0, 1) := by decide +kernel
theorem dX4_canBe_57 : decode cX4_canBe 57 = .ok (.ireturn, 1) := by decide +kernel
theorem dX4_canBe_58 : decode cX4_canBe 58 = .ok (.iload_n 3, 1) := by decide +kernel
theorem dX4_canBe_59 : decode cX4_canBe 59 = .ok (.iconst 1, 1) := by decide +kernel
theorem dX4_canBe_60 : decode cX4_canBe 60 = .ok (.if_icmp .eq 7, 3) := by decide +kernel
theorem dX4_canBe_63 : decode cX4_canBe 63 = .ok (.iconst 1, 1) := by decide +kernel
theorem dX4_canBe_64 : decode cX4_canBe 64 = .ok (.goto 4, 3) := by decide +kernel
theorem dX4_canBe_67 : decode cX4_canBe 67 = .ok (.iconst 0, 1) := by decide +kernel
theorem dX4_canBe_68 : decode cX4_canBe 68 = .ok (.ireturn, 1) := by decide +kernel
theorem dX4_placeOn_0 : decode cX4_placeOn 0 = .ok (.aload_n 0, 1) := by decide +kernel
theorem dX4_placeOn_1 : decode cX4_placeOn 1 = .ok (.getfield 15, 3) := by decide +kernel
theorem dX4_placeOn_4 : decode cX4_placeOn 4 = .ok (.iload_n 2, 1) := by decide +kernel
theorem dX4_placeOn_5 : decode cX4_placeOn 5 = .ok (.iload_n 3, 1) := by decide +kernel
theorem dX4_placeOn_6 : decode cX4_placeOn 6 = .ok (.aload_n 0, 1) := by decide +kernel
theorem dX4_placeOn_7 : decode cX4_placeOn 7 = .ok (.getfield 15, 3) := by decide +kernel
theorem dX4_placeOn_10 : decode cX4_placeOn 10 = .ok (.iload_n 1, 1) := by decide +kernel
theorem dX4_placeOn_11 : decode cX4_placeOn 11 = .ok (.invokevirtual 50, 3) := by decide +kernel
theorem dX4_placeOn_14 : decode cX4_placeOn 14 = .ok (.invokevirtual 54, 3) := by decide +kernel
theorem dX4_placeOn_17 : decode cX4_placeOn 17 = .ok (.istore 4, 2) := by decide +kernel
theorem dX4_placeOn_19 : decode cX4_placeOn 19 = .ok (.iload 4, 2) := by decide +kernel
theorem dX4_placeOn_21 : decode cX4_placeOn 21 = .ok (.iconst (-1), 1) := by decide +kernel
theorem dX4_placeOn_22 : decode cX4_placeOn 22 = .ok (.if_icmp .eq 21, 3) := by decide +kernel
theorem dX4_placeOn_25 : decode cX4_placeOn 25 = .ok (.aload_n 0, 1) := by decide +kernel
theorem dX4_placeOn_26 : decode cX4_placeOn 26 = .ok (.iload_n 1, 1) := by decide +kernel
theorem dX4_placeOn_27 : decode cX4_placeOn 27 = .ok (.iload 4, 2) := by decide +kernel
theorem dX4_placeOn_29 : decode cX4_placeOn 29 = .ok (.invokestatic 58, 3) := by decide +kernel
theorem dX4_placeOn_32 : decode cX4_placeOn 32 = .ok (.invokevirtual 61, 3) := by decide +kernel
theorem dX4_placeOn_35 : decode cX4_placeOn 35 = .ok (.ifCond .eq 8, 3) := by decide +kernel
theorem dX4_placeOn_38 : decode cX4_placeOn 38 = .ok (.iload 4, 2) := by decide +kernel
theorem dX4_placeOn_40 : decode cX4_placeOn 40 = .ok (.goto 4, 3) := by decide +kernel
theorem dX4_placeOn_43 : decode cX4_placeOn 43 = .ok (.iconst (-1), 1) := by decide +kernel
theorem dX4_placeOn_44 : decode cX4_placeOn 44 = .ok (.ireturn, 1) := by decide +kernel
theorem dX4_goes_0 : decode cX4_goes 0 = .ok (.aload_n 0, 1) := by decide +kernel
theorem dX4_goes_1 : decode cX4_goes 1 = .ok (.iload_n 1, 1) := by decide +kernel
theorem dX4_goes_2 : decode cX4_goes 2 = .ok (.aload_n 0, 1) := by decide +kernel
theorem dX4_goes_3 : decode cX4_goes 3 = .ok (.getfield 9, 3) := by decide +kernel
theorem dX4_goes_6 : decode cX4_goes 6 = .ok (.iload_n 1, 1) := by decide +kernel
theorem dX4_goes_7 : decode cX4_goes 7 = .ok (.iaload, 1) := by decide +kernel
theorem dX4_goes_8 : decode cX4_goes 8 = .ok (.iload_n 2, 1) := by decide +kernel
theorem dX4_goes_9 : decode cX4_goes 9 = .ok (.invokevirtual 65, 3) := by decide +kernel
theorem dX4_goes_12 : decode cX4_goes 12 = .ok (.istore_n 3, 1) := by decide +kernel
theorem dX4_goes_13 : decode cX4_goes 13 = .ok (.iload_n 3, 1) := by decide +kernel
theorem dX4_goes_14 : decode cX4_goes 14 = .ok (.iconst (-1), 1) := by decide +kernel
theorem dX4_goes_15 : decode cX4_goes 15 = .ok (.if_icmp .ne 5, 3) := by decide +kernel
theorem dX4_goes_18 : decode cX4_goes 18 = .ok (.iconst 0, 1) := by decide +kernel
theorem dX4_goes_19 : decode cX4_goes 19 = .ok (.ireturn, 1) := by decide +kernel
theorem dX4_goes_20 : decode cX4_goes 20 = .ok (.aload_n 0, 1) := by decide +kernel
theorem dX4_goes_21 : decode cX4_goes 21 = .ok (.getfield 9, 3) := by decide +kernel
theorem dX4_goes_24 : decode cX4_goes 24 = .ok (.iload_n 1, 1) := by decide +kernel
theorem dX4_goes_25 : decode cX4_goes 25 = .ok (.iload_n 3, 1) := by decide +kernel
theorem dX4_goes_26 : decode cX4_goes 26 = .ok (.iastore, 1) := by decide +kernel
theorem dX4_goes_27 : decode cX4_goes 27 = .ok (.iconst 1, 1) := by decide +kernel
theorem dX4_goes_28 : decode cX4_goes 28 = .ok (.ireturn, 1) := by decide +kernel
theorem dX4_waysOpen_0 : decode cX4_waysOpen 0 = .ok (.iconst 0, 1) := by decide +kernel
theorem dX4_waysOpen_1 : decode cX4_waysOpen 1 = .ok (.istore_n 2, 1) := by decide +kernel
theorem dX4_waysOpen_2 : decode cX4_waysOpen 2 = .ok (.iconst 0, 1) := by decide +kernel
theorem dX4_waysOpen_3 : decode cX4_waysOpen 3 = .ok (.istore_n 3, 1) := by decide +kernel
theorem dX4_waysOpen_4 : decode cX4_waysOpen 4 = .ok (.iload_n 3, 1) := by decide +kernel
theorem dX4_waysOpen_5 : decode cX4_waysOpen 5 = .ok (.iconst 4, 1) := by decide +kernel
theorem dX4_waysOpen_6 : decode cX4_waysOpen 6 = .ok (.if_icmp .ge 31, 3) := by decide +kernel
theorem dX4_waysOpen_9 : decode cX4_waysOpen 9 = .ok (.aload_n 0, 1) := by decide +kernel
theorem dX4_waysOpen_10 : decode cX4_waysOpen 10 = .ok (.iload_n 1, 1) := by decide +kernel
theorem dX4_waysOpen_11 : decode cX4_waysOpen 11 = .ok (.aload_n 0, 1) := by decide +kernel
theorem dX4_waysOpen_12 : decode cX4_waysOpen 12 = .ok (.getfield 9, 3) := by decide +kernel
theorem dX4_waysOpen_15 : decode cX4_waysOpen 15 = .ok (.iload_n 1, 1) := by decide +kernel
theorem dX4_waysOpen_16 : decode cX4_waysOpen 16 = .ok (.iaload, 1) := by decide +kernel
theorem dX4_waysOpen_17 : decode cX4_waysOpen 17 = .ok (.iload_n 3, 1) := by decide +kernel
theorem dX4_waysOpen_18 : decode cX4_waysOpen 18 = .ok (.invokevirtual 65, 3) := by decide +kernel
theorem dX4_waysOpen_21 : decode cX4_waysOpen 21 = .ok (.iconst (-1), 1) := by decide +kernel
theorem dX4_waysOpen_22 : decode cX4_waysOpen 22 = .ok (.if_icmp .eq 9, 3) := by decide +kernel
theorem dX4_waysOpen_25 : decode cX4_waysOpen 25 = .ok (.iload_n 2, 1) := by decide +kernel
theorem dX4_waysOpen_26 : decode cX4_waysOpen 26 = .ok (.iconst 1, 1) := by decide +kernel
theorem dX4_waysOpen_27 : decode cX4_waysOpen 27 = .ok (.iload_n 3, 1) := by decide +kernel
theorem dX4_waysOpen_28 : decode cX4_waysOpen 28 = .ok (.ishl, 1) := by decide +kernel
theorem dX4_waysOpen_29 : decode cX4_waysOpen 29 = .ok (.ior, 1) := by decide +kernel
theorem dX4_waysOpen_30 : decode cX4_waysOpen 30 = .ok (.istore_n 2, 1) := by decide +kernel
theorem dX4_waysOpen_31 : decode cX4_waysOpen 31 = .ok (.iinc 3 1, 3) := by decide +kernel
theorem dX4_waysOpen_34 : decode cX4_waysOpen 34 = .ok (.goto (-30), 3) := by decide +kernel
theorem dX4_waysOpen_37 : decode cX4_waysOpen 37 = .ok (.iload_n 2, 1) := by decide +kernel
theorem dX4_waysOpen_38 : decode cX4_waysOpen 38 = .ok (.ireturn, 1) := by decide +kernel
theorem dX4_homePlace_0 : decode cX4_homePlace 0 = .ok (.sipush 480, 3) := by decide +kernel
theorem dX4_homePlace_3 : decode cX4_homePlace 3 = .ok (.aload_n 0, 1) := by decide +kernel
theorem dX4_homePlace_4 : decode cX4_homePlace 4 = .ok (.getfield 15, 3) := by decide +kernel
theorem dX4_homePlace_7 : decode cX4_homePlace 7 = .ok (.getfield 69, 3) := by decide +kernel
theorem dX4_homePlace_10 : decode cX4_homePlace 10 = .ok (.iload_n 1, 1) := by decide +kernel
theorem dX4_homePlace_11 : decode cX4_homePlace 11 = .ok (.iaload, 1) := by decide +kernel
theorem dX4_homePlace_12 : decode cX4_homePlace 12 = .ok (.iadd, 1) := by decide +kernel
theorem dX4_homePlace_13 : decode cX4_homePlace 13 = .ok (.ireturn, 1) := by decide +kernel
theorem dX4_isHome_0 : decode cX4_isHome 0 = .ok (.aload_n 0, 1) := by decide +kernel
theorem dX4_isHome_1 : decode cX4_isHome 1 = .ok (.getfield 9, 3) := by decide +kernel
theorem dX4_isHome_4 : decode cX4_isHome 4 = .ok (.iload_n 1, 1) := by decide +kernel
theorem dX4_isHome_5 : decode cX4_isHome 5 = .ok (.iaload, 1) := by decide +kernel
theorem dX4_isHome_6 : decode cX4_isHome 6 = .ok (.aload_n 0, 1) := by decide +kernel
theorem dX4_isHome_7 : decode cX4_isHome 7 = .ok (.iload_n 1, 1) := by decide +kernel
theorem dX4_isHome_8 : decode cX4_isHome 8 = .ok (.invokevirtual 28, 3) := by decide +kernel
theorem dX4_isHome_11 : decode cX4_isHome 11 = .ok (.if_icmp .ne 7, 3) := by decide +kernel
theorem dX4_isHome_14 : decode cX4_isHome 14 = .ok (.iconst 1, 1) := by decide +kernel
theorem dX4_isHome_15 : decode cX4_isHome 15 = .ok (.goto 4, 3) := by decide +kernel
theorem dX4_isHome_18 : decode cX4_isHome 18 = .ok (.iconst 0, 1) := by decide +kernel
theorem dX4_isHome_19 : decode cX4_isHome 19 = .ok (.ireturn, 1) := by decide +kernel
theorem dX4_whoIsHome_0 : decode cX4_whoIsHome 0 = .ok (.iconst 0, 1) := by decide +kernel
theorem dX4_whoIsHome_1 : decode cX4_whoIsHome 1 = .ok (.istore_n 1, 1) := by decide +kernel
theorem dX4_whoIsHome_2 : decode cX4_whoIsHome 2 = .ok (.iconst 0, 1) := by decide +kernel
theorem dX4_whoIsHome_3 : decode cX4_whoIsHome 3 = .ok (.istore_n 2, 1) := by decide +kernel
theorem dX4_whoIsHome_4 : decode cX4_whoIsHome 4 = .ok (.iload_n 2, 1) := by decide +kernel
theorem dX4_whoIsHome_5 : decode cX4_whoIsHome 5 = .ok (.aload_n 0, 1) := by decide +kernel
theorem dX4_whoIsHome_6 : decode cX4_whoIsHome 6 = .ok (.getfield 15, 3) := by decide +kernel
theorem dX4_whoIsHome_9 : decode cX4_whoIsHome 9 = .ok (.getfield 23, 3) := by decide +kernel
theorem dX4_whoIsHome_12 : decode cX4_whoIsHome 12 = .ok (.if_icmp .ge 23, 3) := by decide +kernel
theorem dX4_whoIsHome_15 : decode cX4_whoIsHome 15 = .ok (.aload_n 0, 1) := by decide +kernel
theorem dX4_whoIsHome_16 : decode cX4_whoIsHome 16 = .ok (.iload_n 2, 1) := by decide +kernel
theorem dX4_whoIsHome_17 : decode cX4_whoIsHome 17 = .ok (.invokevirtual 72, 3) := by decide +kernel
theorem dX4_whoIsHome_20 : decode cX4_whoIsHome 20 = .ok (.ifCond .eq 9, 3) := by decide +kernel
theorem dX4_whoIsHome_23 : decode cX4_whoIsHome 23 = .ok (.iload_n 1, 1) := by decide +kernel
theorem dX4_whoIsHome_24 : decode cX4_whoIsHome 24 = .ok (.iconst 1, 1) := by decide +kernel
theorem dX4_whoIsHome_25 : decode cX4_whoIsHome 25 = .ok (.iload_n 2, 1) := by decide +kernel
theorem dX4_whoIsHome_26 : decode cX4_whoIsHome 26 = .ok (.ishl, 1) := by decide +kernel
theorem dX4_whoIsHome_27 : decode cX4_whoIsHome 27 = .ok (.ior, 1) := by decide +kernel
theorem dX4_whoIsHome_28 : decode cX4_whoIsHome 28 = .ok (.istore_n 1, 1) := by decide +kernel
theorem dX4_whoIsHome_29 : decode cX4_whoIsHome 29 = .ok (.iinc 2 1, 3) := by decide +kernel
theorem dX4_whoIsHome_32 : decode cX4_whoIsHome 32 = .ok (.goto (-28), 3) := by decide +kernel
theorem dX4_whoIsHome_35 : decode cX4_whoIsHome 35 = .ok (.iload_n 1, 1) := by decide +kernel
theorem dX4_whoIsHome_36 : decode cX4_whoIsHome 36 = .ok (.ireturn, 1) := by decide +kernel
theorem dX4_countNotHome_0 : decode cX4_countNotHome 0 = .ok (.aload_n 0, 1) := by decide +kernel
theorem dX4_countNotHome_1 : decode cX4_countNotHome 1 = .ok (.getfield 15, 3) := by decide +kernel
theorem dX4_countNotHome_4 : decode cX4_countNotHome 4 = .ok (.getfield 23, 3) := by decide +kernel
theorem dX4_countNotHome_7 : decode cX4_countNotHome 7 = .ok (.aload_n 0, 1) := by decide +kernel
theorem dX4_countNotHome_8 : decode cX4_countNotHome 8 = .ok (.invokevirtual 75, 3) := by decide +kernel
theorem dX4_countNotHome_11 : decode cX4_countNotHome 11 = .ok (.invokestatic 79, 3) := by decide +kernel
theorem dX4_countNotHome_14 : decode cX4_countNotHome 14 = .ok (.isub, 1) := by decide +kernel
theorem dX4_countNotHome_15 : decode cX4_countNotHome 15 = .ok (.ireturn, 1) := by decide +kernel
theorem dX4_doesHear_0 : decode cX4_doesHear 0 = .ok (.aload_n 0, 1) := by decide +kernel
theorem dX4_doesHear_1 : decode cX4_doesHear 1 = .ok (.getfield 9, 3) := by decide +kernel
theorem dX4_doesHear_4 : decode cX4_doesHear 4 = .ok (.iload_n 1, 1) := by decide +kernel
theorem dX4_doesHear_5 : decode cX4_doesHear 5 = .ok (.iaload, 1) := by decide +kernel
theorem dX4_doesHear_6 : decode cX4_doesHear 6 = .ok (.invokestatic 58, 3) := by decide +kernel
theorem dX4_doesHear_9 : decode cX4_doesHear 9 = .ok (.istore_n 3, 1) := by decide +kernel
theorem dX4_doesHear_10 : decode cX4_doesHear 10 = .ok (.iload_n 3, 1) := by decide +kernel
theorem dX4_doesHear_11 : decode cX4_doesHear 11 = .ok (.iload_n 2, 1) := by decide +kernel
theorem dX4_doesHear_12 : decode cX4_doesHear 12 = .ok (.if_icmp .ne 5, 3) := by decide +kernel
theorem dX4_doesHear_15 : decode cX4_doesHear 15 = .ok (.iconst 1, 1) := by decide +kernel
theorem dX4_doesHear_16 : decode cX4_doesHear 16 = .ok (.ireturn, 1) := by decide +kernel
theorem dX4_doesHear_17 : decode cX4_doesHear 17 = .ok (.aload_n 0, 1) := by decide +kernel
theorem dX4_doesHear_18 : decode cX4_doesHear 18 = .ok (.getfield 15, 3) := by decide +kernel
theorem dX4_doesHear_21 : decode cX4_doesHear 21 = .ok (.iload_n 1, 1) := by decide +kernel
theorem dX4_doesHear_22 : decode cX4_doesHear 22 = .ok (.invokevirtual 50, 3) := by decide +kernel
theorem dX4_doesHear_25 : decode cX4_doesHear 25 = .ok (.istore 4, 2) := by decide +kernel
theorem dX4_doesHear_27 : decode cX4_doesHear 27 = .ok (.iconst 0, 1) := by decide +kernel
theorem dX4_doesHear_28 : decode cX4_doesHear 28 = .ok (.istore 5, 2) := by decide +kernel
theorem dX4_doesHear_30 : decode cX4_doesHear 30 = .ok (.iload 5, 2) := by decide +kernel
theorem dX4_doesHear_32 : decode cX4_doesHear 32 = .ok (.iconst 4, 1) := by decide +kernel
theorem dX4_doesHear_33 : decode cX4_doesHear 33 = .ok (.if_icmp .ge 27, 3) := by decide +kernel
theorem dX4_doesHear_36 : decode cX4_doesHear 36 = .ok (.aload_n 0, 1) := by decide +kernel
theorem dX4_doesHear_37 : decode cX4_doesHear 37 = .ok (.getfield 15, 3) := by decide +kernel
theorem dX4_doesHear_40 : decode cX4_doesHear 40 = .ok (.iload_n 3, 1) := by decide +kernel
theorem dX4_doesHear_41 : decode cX4_doesHear 41 = .ok (.iload 5, 2) := by decide +kernel
theorem dX4_doesHear_43 : decode cX4_doesHear 43 = .ok (.iload 4, 2) := by decide +kernel
theorem dX4_doesHear_45 : decode cX4_doesHear 45 = .ok (.invokevirtual 84, 3) := by decide +kernel
theorem dX4_doesHear_48 : decode cX4_doesHear 48 = .ok (.iload_n 2, 1) := by decide +kernel
theorem dX4_doesHear_49 : decode cX4_doesHear 49 = .ok (.if_icmp .ne 5, 3) := by decide +kernel
theorem dX4_doesHear_52 : decode cX4_doesHear 52 = .ok (.iconst 1, 1) := by decide +kernel
theorem dX4_doesHear_53 : decode cX4_doesHear 53 = .ok (.ireturn, 1) := by decide +kernel
theorem dX4_doesHear_54 : decode cX4_doesHear 54 = .ok (.iinc 5 1, 3) := by decide +kernel
theorem dX4_doesHear_57 : decode cX4_doesHear 57 = .ok (.goto (-27), 3) := by decide +kernel
theorem dX4_doesHear_60 : decode cX4_doesHear 60 = .ok (.iconst 0, 1) := by decide +kernel
theorem dX4_doesHear_61 : decode cX4_doesHear 61 = .ok (.ireturn, 1) := by decide +kernel
theorem dX4_bringHome_0 : decode cX4_bringHome 0 = .ok (.iconst 0, 1) := by decide +kernel
theorem dX4_bringHome_1 : decode cX4_bringHome 1 = .ok (.istore_n 2, 1) := by decide +kernel
theorem dX4_bringHome_2 : decode cX4_bringHome 2 = .ok (.iconst 0, 1) := by decide +kernel
theorem dX4_bringHome_3 : decode cX4_bringHome 3 = .ok (.istore_n 3, 1) := by decide +kernel
theorem dX4_bringHome_4 : decode cX4_bringHome 4 = .ok (.iload_n 3, 1) := by decide +kernel
theorem dX4_bringHome_5 : decode cX4_bringHome 5 = .ok (.aload_n 0, 1) := by decide +kernel
theorem dX4_bringHome_6 : decode cX4_bringHome 6 = .ok (.getfield 15, 3) := by decide +kernel
theorem dX4_bringHome_9 : decode cX4_bringHome 9 = .ok (.getfield 23, 3) := by decide +kernel
theorem dX4_bringHome_12 : decode cX4_bringHome 12 = .ok (.if_icmp .ge 40, 3) := by decide +kernel
theorem dX4_bringHome_15 : decode cX4_bringHome 15 = .ok (.aload_n 0, 1) := by decide +kernel
theorem dX4_bringHome_16 : decode cX4_bringHome 16 = .ok (.iload_n 3, 1) := by decide +kernel
theorem dX4_bringHome_17 : decode cX4_bringHome 17 = .ok (.invokevirtual 72, 3) := by decide +kernel
theorem dX4_bringHome_20 : decode cX4_bringHome 20 = .ok (.ifCond .ne 26, 3) := by decide +kernel
theorem dX4_bringHome_23 : decode cX4_bringHome 23 = .ok (.aload_n 0, 1) := by decide +kernel
theorem dX4_bringHome_24 : decode cX4_bringHome 24 = .ok (.iload_n 3, 1) := by decide +kernel
theorem dX4_bringHome_25 : decode cX4_bringHome 25 = .ok (.iload_n 1, 1) := by decide +kernel
theorem dX4_bringHome_26 : decode cX4_bringHome 26 = .ok (.invokevirtual 87, 3) := by decide +kernel
theorem dX4_bringHome_29 : decode cX4_bringHome 29 = .ok (.ifCond .eq 17, 3) := by decide +kernel
theorem dX4_bringHome_32 : decode cX4_bringHome 32 = .ok (.aload_n 0, 1) := by decide +kernel
theorem dX4_bringHome_33 : decode cX4_bringHome 33 = .ok (.getfield 9, 3) := by decide +kernel
theorem dX4_bringHome_36 : decode cX4_bringHome 36 = .ok (.iload_n 3, 1) := by decide +kernel
theorem dX4_bringHome_37 : decode cX4_bringHome 37 = .ok (.aload_n 0, 1) := by decide +kernel
theorem dX4_bringHome_38 : decode cX4_bringHome 38 = .ok (.iload_n 3, 1) := by decide +kernel
theorem dX4_bringHome_39 : decode cX4_bringHome 39 = .ok (.invokevirtual 28, 3) := by decide +kernel
theorem dX4_bringHome_42 : decode cX4_bringHome 42 = .ok (.iastore, 1) := by decide +kernel
theorem dX4_bringHome_43 : decode cX4_bringHome 43 = .ok (.iinc 2 1, 3) := by decide +kernel
theorem dX4_bringHome_46 : decode cX4_bringHome 46 = .ok (.iinc 3 1, 3) := by decide +kernel
theorem dX4_bringHome_49 : decode cX4_bringHome 49 = .ok (.goto (-45), 3) := by decide +kernel
theorem dX4_bringHome_52 : decode cX4_bringHome 52 = .ok (.iload_n 2, 1) := by decide +kernel
theorem dX4_bringHome_53 : decode cX4_bringHome 53 = .ok (.ireturn, 1) := by decide +kernel
theorem dX5_init_0 : decode cX5_init 0 = .ok (.aload_n 0, 1) := by decide +kernel
theorem dX5_init_1 : decode cX5_init 1 = .ok (.invokespecial 3, 3) := by decide +kernel
theorem dX5_init_4 : decode cX5_init 4 = .ok (.aload_n 0, 1) := by decide +kernel
theorem dX5_init_5 : decode cX5_init 5 = .ok (.sipush 980, 3) := by decide +kernel
theorem dX5_init_8 : decode cX5_init 8 = .ok (.newarray .int, 2) := by decide +kernel
theorem dX5_init_10 : decode cX5_init 10 = .ok (.putfield 9, 3) := by decide +kernel
theorem dX5_init_13 : decode cX5_init 13 = .ok (.aload_n 0, 1) := by decide +kernel
theorem dX5_init_14 : decode cX5_init 14 = .ok (.sipush 980, 3) := by decide +kernel
theorem dX5_init_17 : decode cX5_init 17 = .ok (.newarray .int, 2) := by decide +kernel
theorem dX5_init_19 : decode cX5_init 19 = .ok (.putfield 15, 3) := by decide +kernel
theorem dX5_init_22 : decode cX5_init 22 = .ok (.aload_n 0, 1) := by decide +kernel
theorem dX5_init_23 : decode cX5_init 23 = .ok (.iconst 5, 1) := by decide +kernel
theorem dX5_init_24 : decode cX5_init 24 = .ok (.newarray .int, 2) := by decide +kernel
theorem dX5_init_26 : decode cX5_init 26 = .ok (.putfield 18, 3) := by decide +kernel
theorem dX5_init_29 : decode cX5_init 29 = .ok (.return_, 1) := by decide +kernel
theorem dX5_spread_0 : decode cX5_spread 0 = .ok (.aload_n 0, 1) := by decide +kernel
theorem dX5_spread_1 : decode cX5_spread 1 = .ok (.invokevirtual 21, 3) := by decide +kernel
theorem dX5_spread_4 : decode cX5_spread 4 = .ok (.aload_n 0, 1) := by decide +kernel
theorem dX5_spread_5 : decode cX5_spread 5 = .ok (.aload_n 1, 1) := by decide +kernel
theorem dX5_spread_6 : decode cX5_spread 6 = .ok (.getfield 24, 3) := by decide +kernel
theorem dX5_spread_9 : decode cX5_spread 9 = .ok (.iload_n 2, 1) := by decide +kernel
theorem dX5_spread_10 : decode cX5_spread 10 = .ok (.iaload, 1) := by decide +kernel
theorem dX5_spread_11 : decode cX5_spread 11 = .ok (.iconst 1, 1) := by decide +kernel
theorem dX5_spread_12 : decode cX5_spread 12 = .ok (.invokevirtual 29, 3) := by decide +kernel
theorem dX5_spread_15 : decode cX5_spread 15 = .ok (.iconst 0, 1) := by decide +kernel
theorem dX5_spread_16 : decode cX5_spread 16 = .ok (.istore 4, 2) := by decide +kernel
theorem dX5_spread_18 : decode cX5_spread 18 = .ok (.iload 4, 2) := by decide +kernel
theorem dX5_spread_20 : decode cX5_spread 20 = .ok (.aload_n 0, 1) := by decide +kernel
theorem dX5_spread_21 : decode cX5_spread 21 = .ok (.getfield 33, 3) := by decide +kernel
theorem dX5_spread_24 : decode cX5_spread 24 = .ok (.if_icmp .ge 94, 3) := by decide +kernel
theorem dX5_spread_27 : decode cX5_spread 27 = .ok (.iload 4, 2) := by decide +kernel
theorem dX5_spread_29 : decode cX5_spread 29 = .ok (.sipush 980, 3) := by decide +kernel
theorem dX5_spread_32 : decode cX5_spread 32 = .ok (.if_icmp .ge 86, 3) := by decide +kernel
theorem dX5_spread_35 : decode cX5_spread 35 = .ok (.aload_n 0, 1) := by decide +kernel
theorem dX5_spread_36 : decode cX5_spread 36 = .ok (.getfield 15, 3) := by decide +kernel
theorem dX5_spread_39 : decode cX5_spread 39 = .ok (.iload 4, 2) := by decide +kernel
theorem dX5_spread_41 : decode cX5_spread 41 = .ok (.iaload, 1) := by decide +kernel
theorem dX5_spread_42 : decode cX5_spread 42 = .ok (.istore 5, 2) := by decide +kernel
theorem dX5_spread_44 : decode cX5_spread 44 = .ok (.aload_n 0, 1) := by decide +kernel
theorem dX5_spread_45 : decode cX5_spread 45 = .ok (.getfield 9, 3) := by decide +kernel
theorem dX5_spread_48 : decode cX5_spread 48 = .ok (.iload 5, 2) := by decide +kernel
theorem dX5_spread_50 : decode cX5_spread 50 = .ok (.iaload, 1) := by decide +kernel
theorem dX5_spread_51 : decode cX5_spread 51 = .ok (.istore 6, 2) := by decide +kernel
theorem dX5_spread_53 : decode cX5_spread 53 = .ok (.iload 6, 2) := by decide +kernel
theorem dX5_spread_55 : decode cX5_spread 55 = .ok (.iload_n 3, 1) := by decide +kernel
theorem dX5_spread_56 : decode cX5_spread 56 = .ok (.if_icmp .le 4, 3) := by decide +kernel
theorem dX5_spread_59 : decode cX5_spread 59 = .ok (.return_, 1) := by decide +kernel
theorem dX5_spread_60 : decode cX5_spread 60 = .ok (.iconst 0, 1) := by decide +kernel
theorem dX5_spread_61 : decode cX5_spread 61 = .ok (.istore 7, 2) := by decide +kernel
theorem dX5_spread_63 : decode cX5_spread 63 = .ok (.iload 7, 2) := by decide +kernel
theorem dX5_spread_65 : decode cX5_spread 65 = .ok (.iconst 4, 1) := by decide +kernel
theorem dX5_spread_66 : decode cX5_spread 66 = .ok (.if_icmp .ge 46, 3) := by decide +kernel
theorem dX5_spread_69 : decode cX5_spread 69 = .ok (.aload_n 1, 1) := by decide +kernel
theorem dX5_spread_70 : decode cX5_spread 70 = .ok (.iload_n 2, 1) := by decide +kernel
theorem dX5_spread_71 : decode cX5_spread 71 = .ok (.iload 5, 2) := by decide +kernel
theorem dX5_spread_73 : decode cX5_spread 73 = .ok (.iload 7, 2) := by decide +kernel
theorem dX5_spread_75 : decode cX5_spread 75 = .ok (.invokevirtual 37, 3) := by decide +kernel
theorem dX5_spread_78 : decode cX5_spread 78 = .ok (.istore 8, 2) := by decide +kernel
theorem dX5_spread_80 : decode cX5_spread 80 = .ok (.iload 8, 2) := by decide +kernel
theorem dX5_spread_82 : decode cX5_spread 82 = .ok (.iconst (-1), 1) := by decide +kernel
theorem dX5_spread_83 : decode cX5_spread 83 = .ok (.if_icmp .eq 23, 3) := by decide +kernel
theorem dX5_spread_86 : decode cX5_spread 86 = .ok (.aload_n 0, 1) := by decide +kernel
theorem dX5_spread_87 : decode cX5_spread 87 = .ok (.getfield 9, 3) := by decide +kernel
theorem dX5_spread_90 : decode cX5_spread 90 = .ok (.iload 8, 2) := by decide +kernel
theorem dX5_spread_92 : decode cX5_spread 92 = .ok (.iaload, 1) := by decide +kernel
theorem dX5_spread_93 : decode cX5_spread 93 = .ok (.ifCond .ne 13, 3) := by decide +kernel
theorem dX5_spread_96 : decode cX5_spread 96 = .ok (.aload_n 0, 1) := by decide +kernel
theorem dX5_spread_97 : decode cX5_spread 97 = .ok (.iload 8, 2) := by decide +kernel
theorem dX5_spread_99 : decode cX5_spread 99 = .ok (.iload 6, 2) := by decide +kernel
theorem dX5_spread_101 : decode cX5_spread 101 = .ok (.iconst 1, 1) := by decide +kernel
theorem dX5_spread_102 : decode cX5_spread 102 = .ok (.iadd, 1) := by decide +kernel
theorem dX5_spread_103 : decode cX5_spread 103 = .ok (.invokevirtual 29, 3) := by decide +kernel
theorem dX5_spread_106 : decode cX5_spread 106 = .ok (.iinc 7 1, 3) := by decide +kernel
theorem dX5_spread_109 : decode cX5_spread 109 = .ok (.goto (-46), 3) := by decide +kernel
theorem dX5_spread_112 : decode cX5_spread 112 = .ok (.iinc 4 1, 3) := by decide +kernel
theorem dX5_spread_115 : decode cX5_spread 115 = .ok (.goto (-97), 3) := by decide +kernel
theorem dX5_spread_118 : decode cX5_spread 118 = .ok (.return_, 1) := by decide +kernel
theorem dX5_clear_0 : decode cX5_clear 0 = .ok (.iconst 0, 1) := by decide +kernel
theorem dX5_clear_1 : decode cX5_clear 1 = .ok (.istore_n 1, 1) := by decide +kernel
theorem dX5_clear_2 : decode cX5_clear 2 = .ok (.iload_n 1, 1) := by decide +kernel
theorem dX5_clear_3 : decode cX5_clear 3 = .ok (.aload_n 0, 1) := by decide +kernel
theorem dX5_clear_4 : decode cX5_clear 4 = .ok (.getfield 33, 3) := by decide +kernel
theorem dX5_clear_7 : decode cX5_clear 7 = .ok (.if_icmp .ge 28, 3) := by decide +kernel
theorem dX5_clear_10 : decode cX5_clear 10 = .ok (.iload_n 1, 1) := by decide +kernel
theorem dX5_clear_11 : decode cX5_clear 11 = .ok (.sipush 980, 3) := by decide +kernel
theorem dX5_clear_14 : decode cX5_clear 14 = .ok (.if_icmp .ge 21, 3) := by decide +kernel
theorem dX5_clear_17 : decode cX5_clear 17 = .ok (.aload_n 0, 1) := by decide +kernel
theorem dX5_clear_18 : decode cX5_clear 18 = .ok (.getfield 9, 3) := by decide +kernel
theorem dX5_clear_21 : decode cX5_clear 21 = .ok (.aload_n 0, 1) := by decide +kernel
theorem dX5_clear_22 : decode cX5_clear 22 = .ok (.getfield 15, 3) := by decide +kernel
theorem dX5_clear_25 : decode cX5_clear 25 = .ok (.iload_n 1, 1) := by decide +kernel
theorem dX5_clear_26 : decode cX5_clear 26 = .ok (.iaload, 1) := by decide +kernel
theorem dX5_clear_27 : decode cX5_clear 27 = .ok (.iconst 0, 1) := by decide +kernel
theorem dX5_clear_28 : decode cX5_clear 28 = .ok (.iastore, 1) := by decide +kernel
theorem dX5_clear_29 : decode cX5_clear 29 = .ok (.iinc 1 1, 3) := by decide +kernel
theorem dX5_clear_32 : decode cX5_clear 32 = .ok (.goto (-30), 3) := by decide +kernel
theorem dX5_clear_35 : decode cX5_clear 35 = .ok (.aload_n 0, 1) := by decide +kernel
theorem dX5_clear_36 : decode cX5_clear 36 = .ok (.iconst 0, 1) := by decide +kernel
theorem dX5_clear_37 : decode cX5_clear 37 = .ok (.putfield 33, 3) := by decide +kernel
theorem dX5_clear_40 : decode cX5_clear 40 = .ok (.return_, 1) := by decide +kernel
theorem dX5_put_0 : decode cX5_put 0 = .ok (.aload_n 0, 1) := by decide +kernel
theorem dX5_put_1 : decode cX5_put 1 = .ok (.getfield 33, 3) := by decide +kernel
theorem dX5_put_4 : decode cX5_put 4 = .ok (.sipush 980, 3) := by decide +kernel
theorem dX5_put_7 : decode cX5_put 7 = .ok (.if_icmp .ge 30, 3) := by decide +kernel
theorem dX5_put_10 : decode cX5_put 10 = .ok (.aload_n 0, 1) := by decide +kernel
theorem dX5_put_11 : decode cX5_put 11 = .ok (.getfield 15, 3) := by decide +kernel
theorem dX5_put_14 : decode cX5_put 14 = .ok (.aload_n 0, 1) := by decide +kernel
theorem dX5_put_15 : decode cX5_put 15 = .ok (.getfield 33, 3) := by decide +kernel
theorem dX5_put_18 : decode cX5_put 18 = .ok (.iload_n 1, 1) := by decide +kernel
theorem dX5_put_19 : decode cX5_put 19 = .ok (.iastore, 1) := by decide +kernel
theorem dX5_put_20 : decode cX5_put 20 = .ok (.aload_n 0, 1) := by decide +kernel
theorem dX5_put_21 : decode cX5_put 21 = .ok (.dup, 1) := by decide +kernel
theorem dX5_put_22 : decode cX5_put 22 = .ok (.getfield 33, 3) := by decide +kernel
theorem dX5_put_25 : decode cX5_put 25 = .ok (.iconst 1, 1) := by decide +kernel
theorem dX5_put_26 : decode cX5_put 26 = .ok (.iadd, 1) := by decide +kernel
theorem dX5_put_27 : decode cX5_put 27 = .ok (.putfield 33, 3) := by decide +kernel
theorem dX5_put_30 : decode cX5_put 30 = .ok (.aload_n 0, 1) := by decide +kernel
theorem dX5_put_31 : decode cX5_put 31 = .ok (.getfield 9, 3) := by decide +kernel
theorem dX5_put_34 : decode cX5_put 34 = .ok (.iload_n 1, 1) := by decide +kernel
theorem dX5_put_35 : decode cX5_put 35 = .ok (.iload_n 2, 1) := by decide +kernel
theorem dX5_put_36 : decode cX5_put 36 = .ok (.iastore, 1) := by decide +kernel
theorem dX5_put_37 : decode cX5_put 37 = .ok (.return_, 1) := by decide +kernel
theorem dX5_stepsHome_0 : decode cX5_stepsHome 0 = .ok (.aload_n 0, 1) := by decide +kernel
theorem dX5_stepsHome_1 : decode cX5_stepsHome 1 = .ok (.aload_n 1, 1) := by decide +kernel
theorem dX5_stepsHome_2 : decode cX5_stepsHome 2 = .ok (.iload_n 2, 1) := by decide +kernel
theorem dX5_stepsHome_3 : decode cX5_stepsHome 3 = .ok (.sipush 980, 3) := by decide +kernel
theorem dX5_stepsHome_6 : decode cX5_stepsHome 6 = .ok (.invokevirtual 41, 3) := by decide +kernel
theorem dX5_stepsHome_9 : decode cX5_stepsHome 9 = .ok (.aload_n 0, 1) := by decide +kernel
theorem dX5_stepsHome_10 : decode cX5_stepsHome 10 = .ok (.getfield 9, 3) := by decide +kernel
theorem dX5_stepsHome_13 : decode cX5_stepsHome 13 = .ok (.aload_n 1, 1) := by decide +kernel
theorem dX5_stepsHome_14 : decode cX5_stepsHome 14 = .ok (.iload_n 2, 1) := by decide +kernel
theorem dX5_stepsHome_15 : decode cX5_stepsHome 15 = .ok (.invokevirtual 45, 3) := by decide +kernel
theorem dX5_stepsHome_18 : decode cX5_stepsHome 18 = .ok (.iaload, 1) := by decide +kernel
theorem dX5_stepsHome_19 : decode cX5_stepsHome 19 = .ok (.istore_n 3, 1) := by decide +kernel
