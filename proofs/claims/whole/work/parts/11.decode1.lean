theorem dX5_stepsHome_20 : decode cX5_stepsHome 20 = .ok (.iload_n 3, 1) := by decide +kernel
theorem dX5_stepsHome_21 : decode cX5_stepsHome 21 = .ok (.ifCond .ne 8, 3) := by decide +kernel
theorem dX5_stepsHome_24 : decode cX5_stepsHome 24 = .ok (.bipush (-9), 2) := by decide +kernel
theorem dX5_stepsHome_26 : decode cX5_stepsHome 26 = .ok (.goto 6, 3) := by decide +kernel
theorem dX5_stepsHome_29 : decode cX5_stepsHome 29 = .ok (.iload_n 3, 1) := by decide +kernel
theorem dX5_stepsHome_30 : decode cX5_stepsHome 30 = .ok (.iconst 1, 1) := by decide +kernel
theorem dX5_stepsHome_31 : decode cX5_stepsHome 31 = .ok (.isub, 1) := by decide +kernel
theorem dX5_stepsHome_32 : decode cX5_stepsHome 32 = .ok (.ireturn, 1) := by decide +kernel
theorem dX5_cellsWithin_0 : decode cX5_cellsWithin 0 = .ok (.aload_n 0, 1) := by decide +kernel
theorem dX5_cellsWithin_1 : decode cX5_cellsWithin 1 = .ok (.aload_n 1, 1) := by decide +kernel
theorem dX5_cellsWithin_2 : decode cX5_cellsWithin 2 = .ok (.iload_n 2, 1) := by decide +kernel
theorem dX5_cellsWithin_3 : decode cX5_cellsWithin 3 = .ok (.iload_n 3, 1) := by decide +kernel
theorem dX5_cellsWithin_4 : decode cX5_cellsWithin 4 = .ok (.invokevirtual 41, 3) := by decide +kernel
theorem dX5_cellsWithin_7 : decode cX5_cellsWithin 7 = .ok (.iconst 0, 1) := by decide +kernel
theorem dX5_cellsWithin_8 : decode cX5_cellsWithin 8 = .ok (.istore 4, 2) := by decide +kernel
theorem dX5_cellsWithin_10 : decode cX5_cellsWithin 10 = .ok (.iconst 0, 1) := by decide +kernel
theorem dX5_cellsWithin_11 : decode cX5_cellsWithin 11 = .ok (.istore 5, 2) := by decide +kernel
theorem dX5_cellsWithin_13 : decode cX5_cellsWithin 13 = .ok (.iload 5, 2) := by decide +kernel
theorem dX5_cellsWithin_15 : decode cX5_cellsWithin 15 = .ok (.aload_n 0, 1) := by decide +kernel
theorem dX5_cellsWithin_16 : decode cX5_cellsWithin 16 = .ok (.getfield 33, 3) := by decide +kernel
theorem dX5_cellsWithin_19 : decode cX5_cellsWithin 19 = .ok (.if_icmp .ge 34, 3) := by decide +kernel
theorem dX5_cellsWithin_22 : decode cX5_cellsWithin 22 = .ok (.iload 5, 2) := by decide +kernel
theorem dX5_cellsWithin_24 : decode cX5_cellsWithin 24 = .ok (.sipush 980, 3) := by decide +kernel
theorem dX5_cellsWithin_27 : decode cX5_cellsWithin 27 = .ok (.if_icmp .ge 26, 3) := by decide +kernel
theorem dX5_cellsWithin_30 : decode cX5_cellsWithin 30 = .ok (.iload 4, 2) := by decide +kernel
theorem dX5_cellsWithin_32 : decode cX5_cellsWithin 32 = .ok (.iconst 1, 1) := by decide +kernel
theorem dX5_cellsWithin_33 : decode cX5_cellsWithin 33 = .ok (.aload_n 0, 1) := by decide +kernel
theorem dX5_cellsWithin_34 : decode cX5_cellsWithin 34 = .ok (.getfield 15, 3) := by decide +kernel
theorem dX5_cellsWithin_37 : decode cX5_cellsWithin 37 = .ok (.iload 5, 2) := by decide +kernel
theorem dX5_cellsWithin_39 : decode cX5_cellsWithin 39 = .ok (.iaload, 1) := by decide +kernel
theorem dX5_cellsWithin_40 : decode cX5_cellsWithin 40 = .ok (.invokestatic 49, 3) := by decide +kernel
theorem dX5_cellsWithin_43 : decode cX5_cellsWithin 43 = .ok (.ishl, 1) := by decide +kernel
theorem dX5_cellsWithin_44 : decode cX5_cellsWithin 44 = .ok (.ior, 1) := by decide +kernel
theorem dX5_cellsWithin_45 : decode cX5_cellsWithin 45 = .ok (.istore 4, 2) := by decide +kernel
theorem dX5_cellsWithin_47 : decode cX5_cellsWithin 47 = .ok (.iinc 5 1, 3) := by decide +kernel
theorem dX5_cellsWithin_50 : decode cX5_cellsWithin 50 = .ok (.goto (-37), 3) := by decide +kernel
theorem dX5_cellsWithin_53 : decode cX5_cellsWithin 53 = .ok (.iload 4, 2) := by decide +kernel
theorem dX5_cellsWithin_55 : decode cX5_cellsWithin 55 = .ok (.ireturn, 1) := by decide +kernel
theorem dX5_sixtiethsShared_0 : decode cX5_sixtiethsShared 0 = .ok (.aload_n 1, 1) := by decide +kernel
theorem dX5_sixtiethsShared_1 : decode cX5_sixtiethsShared 1 = .ok (.getfield 52, 3) := by decide +kernel
theorem dX5_sixtiethsShared_4 : decode cX5_sixtiethsShared 4 = .ok (.getfield 56, 3) := by decide +kernel
theorem dX5_sixtiethsShared_7 : decode cX5_sixtiethsShared 7 = .ok (.istore_n 3, 1) := by decide +kernel
theorem dX5_sixtiethsShared_8 : decode cX5_sixtiethsShared 8 = .ok (.iconst 0, 1) := by decide +kernel
theorem dX5_sixtiethsShared_9 : decode cX5_sixtiethsShared 9 = .ok (.istore 4, 2) := by decide +kernel
theorem dX5_sixtiethsShared_11 : decode cX5_sixtiethsShared 11 = .ok (.iload 4, 2) := by decide +kernel
theorem dX5_sixtiethsShared_13 : decode cX5_sixtiethsShared 13 = .ok (.iload_n 3, 1) := by decide +kernel
theorem dX5_sixtiethsShared_14 : decode cX5_sixtiethsShared 14 = .ok (.if_icmp .ge 24, 3) := by decide +kernel
theorem dX5_sixtiethsShared_17 : decode cX5_sixtiethsShared 17 = .ok (.aload_n 0, 1) := by decide +kernel
theorem dX5_sixtiethsShared_18 : decode cX5_sixtiethsShared 18 = .ok (.getfield 18, 3) := by decide +kernel
theorem dX5_sixtiethsShared_21 : decode cX5_sixtiethsShared 21 = .ok (.iload 4, 2) := by decide +kernel
theorem dX5_sixtiethsShared_23 : decode cX5_sixtiethsShared 23 = .ok (.aload_n 0, 1) := by decide +kernel
theorem dX5_sixtiethsShared_24 : decode cX5_sixtiethsShared 24 = .ok (.aload_n 1, 1) := by decide +kernel
theorem dX5_sixtiethsShared_25 : decode cX5_sixtiethsShared 25 = .ok (.iload 4, 2) := by decide +kernel
theorem dX5_sixtiethsShared_27 : decode cX5_sixtiethsShared 27 = .ok (.iconst 2, 1) := by decide +kernel
theorem dX5_sixtiethsShared_28 : decode cX5_sixtiethsShared 28 = .ok (.invokevirtual 61, 3) := by decide +kernel
theorem dX5_sixtiethsShared_31 : decode cX5_sixtiethsShared 31 = .ok (.iastore, 1) := by decide +kernel
theorem dX5_sixtiethsShared_32 : decode cX5_sixtiethsShared 32 = .ok (.iinc 4 1, 3) := by decide +kernel
theorem dX5_sixtiethsShared_35 : decode cX5_sixtiethsShared 35 = .ok (.goto (-24), 3) := by decide +kernel
theorem dX5_sixtiethsShared_38 : decode cX5_sixtiethsShared 38 = .ok (.iconst 0, 1) := by decide +kernel
theorem dX5_sixtiethsShared_39 : decode cX5_sixtiethsShared 39 = .ok (.istore 4, 2) := by decide +kernel
theorem dX5_sixtiethsShared_41 : decode cX5_sixtiethsShared 41 = .ok (.iconst 0, 1) := by decide +kernel
theorem dX5_sixtiethsShared_42 : decode cX5_sixtiethsShared 42 = .ok (.istore 5, 2) := by decide +kernel
theorem dX5_sixtiethsShared_44 : decode cX5_sixtiethsShared 44 = .ok (.iload 5, 2) := by decide +kernel
theorem dX5_sixtiethsShared_46 : decode cX5_sixtiethsShared 46 = .ok (.bipush 20, 2) := by decide +kernel
theorem dX5_sixtiethsShared_48 : decode cX5_sixtiethsShared 48 = .ok (.if_icmp .ge 73, 3) := by decide +kernel
theorem dX5_sixtiethsShared_51 : decode cX5_sixtiethsShared 51 = .ok (.iconst 0, 1) := by decide +kernel
theorem dX5_sixtiethsShared_52 : decode cX5_sixtiethsShared 52 = .ok (.istore 6, 2) := by decide +kernel
theorem dX5_sixtiethsShared_54 : decode cX5_sixtiethsShared 54 = .ok (.iconst 0, 1) := by decide +kernel
theorem dX5_sixtiethsShared_55 : decode cX5_sixtiethsShared 55 = .ok (.istore 7, 2) := by decide +kernel
theorem dX5_sixtiethsShared_57 : decode cX5_sixtiethsShared 57 = .ok (.iload 7, 2) := by decide +kernel
theorem dX5_sixtiethsShared_59 : decode cX5_sixtiethsShared 59 = .ok (.iload_n 3, 1) := by decide +kernel
theorem dX5_sixtiethsShared_60 : decode cX5_sixtiethsShared 60 = .ok (.if_icmp .ge 26, 3) := by decide +kernel
theorem dX5_sixtiethsShared_63 : decode cX5_sixtiethsShared 63 = .ok (.iload 6, 2) := by decide +kernel
theorem dX5_sixtiethsShared_65 : decode cX5_sixtiethsShared 65 = .ok (.aload_n 0, 1) := by decide +kernel
theorem dX5_sixtiethsShared_66 : decode cX5_sixtiethsShared 66 = .ok (.getfield 18, 3) := by decide +kernel
theorem dX5_sixtiethsShared_69 : decode cX5_sixtiethsShared 69 = .ok (.iload 7, 2) := by decide +kernel
theorem dX5_sixtiethsShared_71 : decode cX5_sixtiethsShared 71 = .ok (.iaload, 1) := by decide +kernel
theorem dX5_sixtiethsShared_72 : decode cX5_sixtiethsShared 72 = .ok (.iload 5, 2) := by decide +kernel
theorem dX5_sixtiethsShared_74 : decode cX5_sixtiethsShared 74 = .ok (.ishr, 1) := by decide +kernel
theorem dX5_sixtiethsShared_75 : decode cX5_sixtiethsShared 75 = .ok (.iconst 1, 1) := by decide +kernel
theorem dX5_sixtiethsShared_76 : decode cX5_sixtiethsShared 76 = .ok (.iand, 1) := by decide +kernel
theorem dX5_sixtiethsShared_77 : decode cX5_sixtiethsShared 77 = .ok (.iadd, 1) := by decide +kernel
theorem dX5_sixtiethsShared_78 : decode cX5_sixtiethsShared 78 = .ok (.istore 6, 2) := by decide +kernel
theorem dX5_sixtiethsShared_80 : decode cX5_sixtiethsShared 80 = .ok (.iinc 7 1, 3) := by decide +kernel
theorem dX5_sixtiethsShared_83 : decode cX5_sixtiethsShared 83 = .ok (.goto (-26), 3) := by decide +kernel
theorem dX5_sixtiethsShared_86 : decode cX5_sixtiethsShared 86 = .ok (.iload 6, 2) := by decide +kernel
theorem dX5_sixtiethsShared_88 : decode cX5_sixtiethsShared 88 = .ok (.ifCond .le 27, 3) := by decide +kernel
theorem dX5_sixtiethsShared_91 : decode cX5_sixtiethsShared 91 = .ok (.aload_n 0, 1) := by decide +kernel
theorem dX5_sixtiethsShared_92 : decode cX5_sixtiethsShared 92 = .ok (.getfield 18, 3) := by decide +kernel
theorem dX5_sixtiethsShared_95 : decode cX5_sixtiethsShared 95 = .ok (.iload_n 2, 1) := by decide +kernel
theorem dX5_sixtiethsShared_96 : decode cX5_sixtiethsShared 96 = .ok (.iaload, 1) := by decide +kernel
theorem dX5_sixtiethsShared_97 : decode cX5_sixtiethsShared 97 = .ok (.iload 5, 2) := by decide +kernel
theorem dX5_sixtiethsShared_99 : decode cX5_sixtiethsShared 99 = .ok (.ishr, 1) := by decide +kernel
theorem dX5_sixtiethsShared_100 : decode cX5_sixtiethsShared 100 = .ok (.iconst 1, 1) := by decide +kernel
theorem dX5_sixtiethsShared_101 : decode cX5_sixtiethsShared 101 = .ok (.iand, 1) := by decide +kernel
theorem dX5_sixtiethsShared_102 : decode cX5_sixtiethsShared 102 = .ok (.ifCond .eq 13, 3) := by decide +kernel
theorem dX5_sixtiethsShared_105 : decode cX5_sixtiethsShared 105 = .ok (.iload 4, 2) := by decide +kernel
theorem dX5_sixtiethsShared_107 : decode cX5_sixtiethsShared 107 = .ok (.bipush 60, 2) := by decide +kernel
theorem dX5_sixtiethsShared_109 : decode cX5_sixtiethsShared 109 = .ok (.iload 6, 2) := by decide +kernel
theorem dX5_sixtiethsShared_111 : decode cX5_sixtiethsShared 111 = .ok (.idiv, 1) := by decide +kernel
theorem dX5_sixtiethsShared_112 : decode cX5_sixtiethsShared 112 = .ok (.iadd, 1) := by decide +kernel
theorem dX5_sixtiethsShared_113 : decode cX5_sixtiethsShared 113 = .ok (.istore 4, 2) := by decide +kernel
theorem dX5_sixtiethsShared_115 : decode cX5_sixtiethsShared 115 = .ok (.iinc 5 1, 3) := by decide +kernel
theorem dX5_sixtiethsShared_118 : decode cX5_sixtiethsShared 118 = .ok (.goto (-74), 3) := by decide +kernel
theorem dX5_sixtiethsShared_121 : decode cX5_sixtiethsShared 121 = .ok (.iload 4, 2) := by decide +kernel
theorem dX5_sixtiethsShared_123 : decode cX5_sixtiethsShared 123 = .ok (.ireturn, 1) := by decide +kernel
theorem dX6_init_0 : decode cX6_init 0 = .ok (.aload_n 0, 1) := by decide +kernel
theorem dX6_init_1 : decode cX6_init 1 = .ok (.invokespecial 3, 3) := by decide +kernel
theorem dX6_init_4 : decode cX6_init 4 = .ok (.aload_n 0, 1) := by decide +kernel
theorem dX6_init_5 : decode cX6_init 5 = .ok (.bipush 6, 2) := by decide +kernel
theorem dX6_init_7 : decode cX6_init 7 = .ok (.newarray .int, 2) := by decide +kernel
theorem dX6_init_9 : decode cX6_init 9 = .ok (.putfield 9, 3) := by decide +kernel
theorem dX6_init_12 : decode cX6_init 12 = .ok (.aload_n 0, 1) := by decide +kernel
theorem dX6_init_13 : decode cX6_init 13 = .ok (.bipush 6, 2) := by decide +kernel
theorem dX6_init_15 : decode cX6_init 15 = .ok (.newarray .int, 2) := by decide +kernel
theorem dX6_init_17 : decode cX6_init 17 = .ok (.putfield 15, 3) := by decide +kernel
theorem dX6_init_20 : decode cX6_init 20 = .ok (.aload_n 0, 1) := by decide +kernel
theorem dX6_init_21 : decode cX6_init 21 = .ok (.bipush 6, 2) := by decide +kernel
theorem dX6_init_23 : decode cX6_init 23 = .ok (.newarray .int, 2) := by decide +kernel
theorem dX6_init_25 : decode cX6_init 25 = .ok (.putfield 18, 3) := by decide +kernel
theorem dX6_init_28 : decode cX6_init 28 = .ok (.return_, 1) := by decide +kernel
theorem dX6_add_0 : decode cX6_add 0 = .ok (.aload_n 0, 1) := by decide +kernel
theorem dX6_add_1 : decode cX6_add 1 = .ok (.getfield 21, 3) := by decide +kernel
theorem dX6_add_4 : decode cX6_add 4 = .ok (.bipush 6, 2) := by decide +kernel
theorem dX6_add_6 : decode cX6_add 6 = .ok (.if_icmp .lt 5, 3) := by decide +kernel
theorem dX6_add_9 : decode cX6_add 9 = .ok (.iconst 0, 1) := by decide +kernel
theorem dX6_add_10 : decode cX6_add 10 = .ok (.ireturn, 1) := by decide +kernel
theorem dX6_add_11 : decode cX6_add 11 = .ok (.aload_n 0, 1) := by decide +kernel
theorem dX6_add_12 : decode cX6_add 12 = .ok (.getfield 9, 3) := by decide +kernel
theorem dX6_add_15 : decode cX6_add 15 = .ok (.aload_n 0, 1) := by decide +kernel
theorem dX6_add_16 : decode cX6_add 16 = .ok (.getfield 21, 3) := by decide +kernel
theorem dX6_add_19 : decode cX6_add 19 = .ok (.iload_n 1, 1) := by decide +kernel
theorem dX6_add_20 : decode cX6_add 20 = .ok (.iastore, 1) := by decide +kernel
theorem dX6_add_21 : decode cX6_add 21 = .ok (.aload_n 0, 1) := by decide +kernel
theorem dX6_add_22 : decode cX6_add 22 = .ok (.getfield 15, 3) := by decide +kernel
theorem dX6_add_25 : decode cX6_add 25 = .ok (.aload_n 0, 1) := by decide +kernel
theorem dX6_add_26 : decode cX6_add 26 = .ok (.getfield 21, 3) := by decide +kernel
theorem dX6_add_29 : decode cX6_add 29 = .ok (.iload_n 2, 1) := by decide +kernel
theorem dX6_add_30 : decode cX6_add 30 = .ok (.iastore, 1) := by decide +kernel
theorem dX6_add_31 : decode cX6_add 31 = .ok (.aload_n 0, 1) := by decide +kernel
theorem dX6_add_32 : decode cX6_add 32 = .ok (.getfield 18, 3) := by decide +kernel
theorem dX6_add_35 : decode cX6_add 35 = .ok (.aload_n 0, 1) := by decide +kernel
theorem dX6_add_36 : decode cX6_add 36 = .ok (.getfield 21, 3) := by decide +kernel
theorem dX6_add_39 : decode cX6_add 39 = .ok (.iload_n 3, 1) := by decide +kernel
theorem dX6_add_40 : decode cX6_add 40 = .ok (.iastore, 1) := by decide +kernel
theorem dX6_add_41 : decode cX6_add 41 = .ok (.aload_n 0, 1) := by decide +kernel
theorem dX6_add_42 : decode cX6_add 42 = .ok (.dup, 1) := by decide +kernel
theorem dX6_add_43 : decode cX6_add 43 = .ok (.getfield 21, 3) := by decide +kernel
theorem dX6_add_46 : decode cX6_add 46 = .ok (.iconst 1, 1) := by decide +kernel
theorem dX6_add_47 : decode cX6_add 47 = .ok (.iadd, 1) := by decide +kernel
theorem dX6_add_48 : decode cX6_add 48 = .ok (.putfield 21, 3) := by decide +kernel
theorem dX6_add_51 : decode cX6_add 51 = .ok (.iconst 1, 1) := by decide +kernel
theorem dX6_add_52 : decode cX6_add 52 = .ok (.ireturn, 1) := by decide +kernel
theorem dX6_isSoFrom_0 : decode cX6_isSoFrom 0 = .ok (.iconst 0, 1) := by decide +kernel
theorem dX6_isSoFrom_1 : decode cX6_isSoFrom 1 = .ok (.istore_n 3, 1) := by decide +kernel
theorem dX6_isSoFrom_2 : decode cX6_isSoFrom 2 = .ok (.iload_n 3, 1) := by decide +kernel
theorem dX6_isSoFrom_3 : decode cX6_isSoFrom 3 = .ok (.aload_n 0, 1) := by decide +kernel
theorem dX6_isSoFrom_4 : decode cX6_isSoFrom 4 = .ok (.getfield 21, 3) := by decide +kernel
theorem dX6_isSoFrom_7 : decode cX6_isSoFrom 7 = .ok (.if_icmp .ge 69, 3) := by decide +kernel
theorem dX6_isSoFrom_10 : decode cX6_isSoFrom 10 = .ok (.iload_n 3, 1) := by decide +kernel
theorem dX6_isSoFrom_11 : decode cX6_isSoFrom 11 = .ok (.bipush 6, 2) := by decide +kernel
theorem dX6_isSoFrom_13 : decode cX6_isSoFrom 13 = .ok (.if_icmp .ge 63, 3) := by decide +kernel
theorem dX6_isSoFrom_16 : decode cX6_isSoFrom 16 = .ok (.aload_n 1, 1) := by decide +kernel
theorem dX6_isSoFrom_17 : decode cX6_isSoFrom 17 = .ok (.getfield 25, 3) := by decide +kernel
theorem dX6_isSoFrom_20 : decode cX6_isSoFrom 20 = .ok (.iload_n 2, 1) := by decide +kernel
theorem dX6_isSoFrom_21 : decode cX6_isSoFrom 21 = .ok (.aload_n 0, 1) := by decide +kernel
theorem dX6_isSoFrom_22 : decode cX6_isSoFrom 22 = .ok (.getfield 9, 3) := by decide +kernel
theorem dX6_isSoFrom_25 : decode cX6_isSoFrom 25 = .ok (.iload_n 3, 1) := by decide +kernel
theorem dX6_isSoFrom_26 : decode cX6_isSoFrom 26 = .ok (.iaload, 1) := by decide +kernel
theorem dX6_isSoFrom_27 : decode cX6_isSoFrom 27 = .ok (.iconst 1, 1) := by decide +kernel
theorem dX6_isSoFrom_28 : decode cX6_isSoFrom 28 = .ok (.iconst 0, 1) := by decide +kernel
theorem dX6_isSoFrom_29 : decode cX6_isSoFrom 29 = .ok (.invokestatic 31, 3) := by decide +kernel
theorem dX6_isSoFrom_32 : decode cX6_isSoFrom 32 = .ok (.istore 4, 2) := by decide +kernel
theorem dX6_isSoFrom_34 : decode cX6_isSoFrom 34 = .ok (.aload_n 1, 1) := by decide +kernel
theorem dX6_isSoFrom_35 : decode cX6_isSoFrom 35 = .ok (.getfield 25, 3) := by decide +kernel
theorem dX6_isSoFrom_38 : decode cX6_isSoFrom 38 = .ok (.iload 4, 2) := by decide +kernel
theorem dX6_isSoFrom_40 : decode cX6_isSoFrom 40 = .ok (.aload_n 0, 1) := by decide +kernel
theorem dX6_isSoFrom_41 : decode cX6_isSoFrom 41 = .ok (.getfield 15, 3) := by decide +kernel
theorem dX6_isSoFrom_44 : decode cX6_isSoFrom 44 = .ok (.iload_n 3, 1) := by decide +kernel
theorem dX6_isSoFrom_45 : decode cX6_isSoFrom 45 = .ok (.iaload, 1) := by decide +kernel
theorem dX6_isSoFrom_46 : decode cX6_isSoFrom 46 = .ok (.iconst 3, 1) := by decide +kernel
theorem dX6_isSoFrom_47 : decode cX6_isSoFrom 47 = .ok (.iconst 2, 1) := by decide +kernel
theorem dX6_isSoFrom_48 : decode cX6_isSoFrom 48 = .ok (.invokestatic 31, 3) := by decide +kernel
theorem dX6_isSoFrom_51 : decode cX6_isSoFrom 51 = .ok (.istore 5, 2) := by decide +kernel
theorem dX6_isSoFrom_53 : decode cX6_isSoFrom 53 = .ok (.aload_n 1, 1) := by decide +kernel
theorem dX6_isSoFrom_54 : decode cX6_isSoFrom 54 = .ok (.iload 5, 2) := by decide +kernel
theorem dX6_isSoFrom_56 : decode cX6_isSoFrom 56 = .ok (.invokevirtual 35, 3) := by decide +kernel
theorem dX6_isSoFrom_59 : decode cX6_isSoFrom 59 = .ok (.aload_n 0, 1) := by decide +kernel
theorem dX6_isSoFrom_60 : decode cX6_isSoFrom 60 = .ok (.getfield 18, 3) := by decide +kernel
theorem dX6_isSoFrom_63 : decode cX6_isSoFrom 63 = .ok (.iload_n 3, 1) := by decide +kernel
theorem dX6_isSoFrom_64 : decode cX6_isSoFrom 64 = .ok (.iaload, 1) := by decide +kernel
theorem dX6_isSoFrom_65 : decode cX6_isSoFrom 65 = .ok (.if_icmp .eq 5, 3) := by decide +kernel
theorem dX6_isSoFrom_68 : decode cX6_isSoFrom 68 = .ok (.iconst 0, 1) := by decide +kernel
theorem dX6_isSoFrom_69 : decode cX6_isSoFrom 69 = .ok (.ireturn, 1) := by decide +kernel
theorem dX6_isSoFrom_70 : decode cX6_isSoFrom 70 = .ok (.iinc 3 1, 3) := by decide +kernel
theorem dX6_isSoFrom_73 : decode cX6_isSoFrom 73 = .ok (.goto (-71), 3) := by decide +kernel
theorem dX6_isSoFrom_76 : decode cX6_isSoFrom 76 = .ok (.iconst 1, 1) := by decide +kernel
theorem dX6_isSoFrom_77 : decode cX6_isSoFrom 77 = .ok (.ireturn, 1) := by decide +kernel
theorem dX6_cellOff_0 : decode cX6_cellOff 0 = .ok (.iload_n 1, 1) := by decide +kernel
theorem dX6_cellOff_1 : decode cX6_cellOff 1 = .ok (.istore 5, 2) := by decide +kernel
theorem dX6_cellOff_3 : decode cX6_cellOff 3 = .ok (.iload_n 2, 1) := by decide +kernel
theorem dX6_cellOff_4 : decode cX6_cellOff 4 = .ok (.invokestatic 39, 3) := by decide +kernel
theorem dX6_cellOff_7 : decode cX6_cellOff 7 = .ok (.istore 6, 2) := by decide +kernel
theorem dX6_cellOff_9 : decode cX6_cellOff 9 = .ok (.iconst 0, 1) := by decide +kernel
theorem dX6_cellOff_10 : decode cX6_cellOff 10 = .ok (.istore 7, 2) := by decide +kernel
theorem dX6_cellOff_12 : decode cX6_cellOff 12 = .ok (.iload 7, 2) := by decide +kernel
theorem dX6_cellOff_14 : decode cX6_cellOff 14 = .ok (.iload 6, 2) := by decide +kernel
theorem dX6_cellOff_16 : decode cX6_cellOff 16 = .ok (.if_icmp .ge 34, 3) := by decide +kernel
theorem dX6_cellOff_19 : decode cX6_cellOff 19 = .ok (.iload 7, 2) := by decide +kernel
theorem dX6_cellOff_21 : decode cX6_cellOff 21 = .ok (.iconst 4, 1) := by decide +kernel
theorem dX6_cellOff_22 : decode cX6_cellOff 22 = .ok (.if_icmp .ge 28, 3) := by decide +kernel
theorem dX6_cellOff_25 : decode cX6_cellOff 25 = .ok (.aload_n 0, 1) := by decide +kernel
theorem dX6_cellOff_26 : decode cX6_cellOff 26 = .ok (.iload 5, 2) := by decide +kernel
theorem dX6_cellOff_28 : decode cX6_cellOff 28 = .ok (.iload_n 2, 1) := by decide +kernel
theorem dX6_cellOff_29 : decode cX6_cellOff 29 = .ok (.ifCond .ge 8, 3) := by decide +kernel
theorem dX6_cellOff_32 : decode cX6_cellOff 32 = .ok (.iload 4, 2) := by decide +kernel
theorem dX6_cellOff_34 : decode cX6_cellOff 34 = .ok (.goto 4, 3) := by decide +kernel
theorem dX6_cellOff_37 : decode cX6_cellOff 37 = .ok (.iload_n 3, 1) := by decide +kernel
theorem dX6_cellOff_38 : decode cX6_cellOff 38 = .ok (.iconst 0, 1) := by decide +kernel
theorem dX6_cellOff_39 : decode cX6_cellOff 39 = .ok (.invokevirtual 44, 3) := by decide +kernel
theorem dX6_cellOff_42 : decode cX6_cellOff 42 = .ok (.istore 5, 2) := by decide +kernel
theorem dX6_cellOff_44 : decode cX6_cellOff 44 = .ok (.iinc 7 1, 3) := by decide +kernel
theorem dX6_cellOff_47 : decode cX6_cellOff 47 = .ok (.goto (-35), 3) := by decide +kernel
theorem dX6_cellOff_50 : decode cX6_cellOff 50 = .ok (.iload 5, 2) := by decide +kernel
theorem dX6_cellOff_52 : decode cX6_cellOff 52 = .ok (.ireturn, 1) := by decide +kernel
theorem dX7_init_0 : decode cX7_init 0 = .ok (.aload_n 0, 1) := by decide +kernel
theorem dX7_init_1 : decode cX7_init 1 = .ok (.invokespecial 3, 3) := by decide +kernel
theorem dX7_init_4 : decode cX7_init 4 = .ok (.aload_n 0, 1) := by decide +kernel
theorem dX7_init_5 : decode cX7_init 5 = .ok (.bipush 48, 2) := by decide +kernel
theorem dX7_init_7 : decode cX7_init 7 = .ok (.newarray .int, 2) := by decide +kernel
theorem dX7_init_9 : decode cX7_init 9 = .ok (.putfield 9, 3) := by decide +kernel
theorem dX7_init_12 : decode cX7_init 12 = .ok (.return_, 1) := by decide +kernel
theorem dX7_add_0 : decode cX7_add 0 = .ok (.aload_n 0, 1) := by decide +kernel
theorem dX7_add_1 : decode cX7_add 1 = .ok (.getfield 15, 3) := by decide +kernel
theorem dX7_add_4 : decode cX7_add 4 = .ok (.bipush 48, 2) := by decide +kernel
theorem dX7_add_6 : decode cX7_add 6 = .ok (.if_icmp .lt 5, 3) := by decide +kernel
theorem dX7_add_9 : decode cX7_add 9 = .ok (.iconst 0, 1) := by decide +kernel
theorem dX7_add_10 : decode cX7_add 10 = .ok (.ireturn, 1) := by decide +kernel
theorem dX7_add_11 : decode cX7_add 11 = .ok (.aload_n 0, 1) := by decide +kernel
theorem dX7_add_12 : decode cX7_add 12 = .ok (.getfield 9, 3) := by decide +kernel
theorem dX7_add_15 : decode cX7_add 15 = .ok (.aload_n 0, 1) := by decide +kernel
theorem dX7_add_16 : decode cX7_add 16 = .ok (.getfield 15, 3) := by decide +kernel
theorem dX7_add_19 : decode cX7_add 19 = .ok (.iload_n 1, 1) := by decide +kernel
theorem dX7_add_20 : decode cX7_add 20 = .ok (.iastore, 1) := by decide +kernel
theorem dX7_add_21 : decode cX7_add 21 = .ok (.aload_n 0, 1) := by decide +kernel
theorem dX7_add_22 : decode cX7_add 22 = .ok (.dup, 1) := by decide +kernel
theorem dX7_add_23 : decode cX7_add 23 = .ok (.getfield 15, 3) := by decide +kernel
theorem dX7_add_26 : decode cX7_add 26 = .ok (.iconst 1, 1) := by decide +kernel
theorem dX7_add_27 : decode cX7_add 27 = .ok (.iadd, 1) := by decide +kernel
theorem dX7_add_28 : decode cX7_add 28 = .ok (.putfield 15, 3) := by decide +kernel
theorem dX7_add_31 : decode cX7_add 31 = .ok (.iconst 1, 1) := by decide +kernel
theorem dX7_add_32 : decode cX7_add 32 = .ok (.ireturn, 1) := by decide +kernel
theorem dX7_firstFault_0 : decode cX7_firstFault 0 = .ok (.iconst 0, 1) := by decide +kernel
theorem dX7_firstFault_1 : decode cX7_firstFault 1 = .ok (.istore_n 1, 1) := by decide +kernel
theorem dX7_firstFault_2 : decode cX7_firstFault 2 = .ok (.iload_n 1, 1) := by decide +kernel
theorem dX7_firstFault_3 : decode cX7_firstFault 3 = .ok (.aload_n 0, 1) := by decide +kernel
theorem dX7_firstFault_4 : decode cX7_firstFault 4 = .ok (.getfield 15, 3) := by decide +kernel
theorem dX7_firstFault_7 : decode cX7_firstFault 7 = .ok (.if_icmp .ge 25, 3) := by decide +kernel
theorem dX7_firstFault_10 : decode cX7_firstFault 10 = .ok (.iload_n 1, 1) := by decide +kernel
theorem dX7_firstFault_11 : decode cX7_firstFault 11 = .ok (.bipush 48, 2) := by decide +kernel
theorem dX7_firstFault_13 : decode cX7_firstFault 13 = .ok (.if_icmp .ge 19, 3) := by decide +kernel
theorem dX7_firstFault_16 : decode cX7_firstFault 16 = .ok (.aload_n 0, 1) := by decide +kernel
theorem dX7_firstFault_17 : decode cX7_firstFault 17 = .ok (.iload_n 1, 1) := by decide +kernel
theorem dX7_firstFault_18 : decode cX7_firstFault 18 = .ok (.invokevirtual 19, 3) := by decide +kernel
theorem dX7_firstFault_21 : decode cX7_firstFault 21 = .ok (.ifCond .ne 5, 3) := by decide +kernel
theorem dX7_firstFault_24 : decode cX7_firstFault 24 = .ok (.iload_n 1, 1) := by decide +kernel
theorem dX7_firstFault_25 : decode cX7_firstFault 25 = .ok (.ireturn, 1) := by decide +kernel
theorem dX7_firstFault_26 : decode cX7_firstFault 26 = .ok (.iinc 1 1, 3) := by decide +kernel
theorem dX7_firstFault_29 : decode cX7_firstFault 29 = .ok (.goto (-27), 3) := by decide +kernel
theorem dX7_firstFault_32 : decode cX7_firstFault 32 = .ok (.aload_n 0, 1) := by decide +kernel
theorem dX7_firstFault_33 : decode cX7_firstFault 33 = .ok (.invokevirtual 23, 3) := by decide +kernel
theorem dX7_firstFault_36 : decode cX7_firstFault 36 = .ok (.ifCond .eq 8, 3) := by decide +kernel
theorem dX7_firstFault_39 : decode cX7_firstFault 39 = .ok (.bipush (-9), 2) := by decide +kernel
theorem dX7_firstFault_41 : decode cX7_firstFault 41 = .ok (.goto 7, 3) := by decide +kernel
theorem dX7_firstFault_44 : decode cX7_firstFault 44 = .ok (.aload_n 0, 1) := by decide +kernel
theorem dX7_firstFault_45 : decode cX7_firstFault 45 = .ok (.getfield 15, 3) := by decide +kernel
theorem dX7_firstFault_48 : decode cX7_firstFault 48 = .ok (.ireturn, 1) := by decide +kernel
theorem dX7_fits_0 : decode cX7_fits 0 = .ok (.aload_n 0, 1) := by decide +kernel
theorem dX7_fits_1 : decode cX7_fits 1 = .ok (.getfield 9, 3) := by decide +kernel
theorem dX7_fits_4 : decode cX7_fits 4 = .ok (.iload_n 1, 1) := by decide +kernel
theorem dX7_fits_5 : decode cX7_fits 5 = .ok (.iaload, 1) := by decide +kernel
theorem dX7_fits_6 : decode cX7_fits 6 = .ok (.istore_n 2, 1) := by decide +kernel
theorem dX7_fits_7 : decode cX7_fits 7 = .ok (.iload_n 1, 1) := by decide +kernel
theorem dX7_fits_8 : decode cX7_fits 8 = .ok (.tableswitch 102 0 3 #[32, 44, 62, 80], 32) := by decide +kernel
theorem dX7_fits_40 : decode cX7_fits 40 = .ok (.iload_n 2, 1) := by decide +kernel
theorem dX7_fits_41 : decode cX7_fits 41 = .ok (.bipush 87, 2) := by decide +kernel
theorem dX7_fits_43 : decode cX7_fits 43 = .ok (.if_icmp .ne 7, 3) := by decide +kernel
theorem dX7_fits_46 : decode cX7_fits 46 = .ok (.iconst 1, 1) := by decide +kernel
theorem dX7_fits_47 : decode cX7_fits 47 = .ok (.goto 4, 3) := by decide +kernel
theorem dX7_fits_50 : decode cX7_fits 50 = .ok (.iconst 0, 1) := by decide +kernel
theorem dX7_fits_51 : decode cX7_fits 51 = .ok (.ireturn, 1) := by decide +kernel
theorem dX7_fits_52 : decode cX7_fits 52 = .ok (.iload_n 2, 1) := by decide +kernel
theorem dX7_fits_53 : decode cX7_fits 53 = .ok (.bipush 50, 2) := by decide +kernel
theorem dX7_fits_55 : decode cX7_fits 55 = .ok (.if_icmp .lt 13, 3) := by decide +kernel
theorem dX7_fits_58 : decode cX7_fits 58 = .ok (.iload_n 2, 1) := by decide +kernel
theorem dX7_fits_59 : decode cX7_fits 59 = .ok (.bipush 53, 2) := by decide +kernel
theorem dX7_fits_61 : decode cX7_fits 61 = .ok (.if_icmp .gt 7, 3) := by decide +kernel
theorem dX7_fits_64 : decode cX7_fits 64 = .ok (.iconst 1, 1) := by decide +kernel
theorem dX7_fits_65 : decode cX7_fits 65 = .ok (.goto 4, 3) := by decide +kernel
theorem dX7_fits_68 : decode cX7_fits 68 = .ok (.iconst 0, 1) := by decide +kernel
theorem dX7_fits_69 : decode cX7_fits 69 = .ok (.ireturn, 1) := by decide +kernel
theorem dX7_fits_70 : decode cX7_fits 70 = .ok (.iload_n 2, 1) := by decide +kernel
theorem dX7_fits_71 : decode cX7_fits 71 = .ok (.bipush 50, 2) := by decide +kernel
theorem dX7_fits_73 : decode cX7_fits 73 = .ok (.if_icmp .lt 13, 3) := by decide +kernel
theorem dX7_fits_76 : decode cX7_fits 76 = .ok (.iload_n 2, 1) := by decide +kernel
theorem dX7_fits_77 : decode cX7_fits 77 = .ok (.bipush 52, 2) := by decide +kernel
theorem dX7_fits_79 : decode cX7_fits 79 = .ok (.if_icmp .gt 7, 3) := by decide +kernel
theorem dX7_fits_82 : decode cX7_fits 82 = .ok (.iconst 1, 1) := by decide +kernel
theorem dX7_fits_83 : decode cX7_fits 83 = .ok (.goto 4, 3) := by decide +kernel
theorem dX7_fits_86 : decode cX7_fits 86 = .ok (.iconst 0, 1) := by decide +kernel
theorem dX7_fits_87 : decode cX7_fits 87 = .ok (.ireturn, 1) := by decide +kernel
theorem dX7_fits_88 : decode cX7_fits 88 = .ok (.iload_n 2, 1) := by decide +kernel
theorem dX7_fits_89 : decode cX7_fits 89 = .ok (.bipush 48, 2) := by decide +kernel
theorem dX7_fits_91 : decode cX7_fits 91 = .ok (.if_icmp .lt 17, 3) := by decide +kernel
theorem dX7_fits_94 : decode cX7_fits 94 = .ok (.iload_n 2, 1) := by decide +kernel
theorem dX7_fits_95 : decode cX7_fits 95 = .ok (.aload_n 0, 1) := by decide +kernel
theorem dX7_fits_96 : decode cX7_fits 96 = .ok (.getfield 9, 3) := by decide +kernel
theorem dX7_fits_99 : decode cX7_fits 99 = .ok (.iconst 2, 1) := by decide +kernel
theorem dX7_fits_100 : decode cX7_fits 100 = .ok (.iaload, 1) := by decide +kernel
theorem dX7_fits_101 : decode cX7_fits 101 = .ok (.if_icmp .ge 7, 3) := by decide +kernel
theorem dX7_fits_104 : decode cX7_fits 104 = .ok (.iconst 1, 1) := by decide +kernel
theorem dX7_fits_105 : decode cX7_fits 105 = .ok (.goto 4, 3) := by decide +kernel
theorem dX7_fits_108 : decode cX7_fits 108 = .ok (.iconst 0, 1) := by decide +kernel
theorem dX7_fits_109 : decode cX7_fits 109 = .ok (.ireturn, 1) := by decide +kernel
theorem dX7_fits_110 : decode cX7_fits 110 = .ok (.iload_n 1, 1) := by decide +kernel
theorem dX7_fits_111 : decode cX7_fits 111 = .ok (.iconst 4, 1) := by decide +kernel
theorem dX7_fits_112 : decode cX7_fits 112 = .ok (.isub, 1) := by decide +kernel
theorem dX7_fits_113 : decode cX7_fits 113 = .ok (.aload_n 0, 1) := by decide +kernel
theorem dX7_fits_114 : decode cX7_fits 114 = .ok (.invokevirtual 27, 3) := by decide +kernel
theorem dX7_fits_117 : decode cX7_fits 117 = .ok (.isub, 1) := by decide +kernel
theorem dX7_fits_118 : decode cX7_fits 118 = .ok (.istore_n 3, 1) := by decide +kernel
theorem dX7_fits_119 : decode cX7_fits 119 = .ok (.iload_n 3, 1) := by decide +kernel
theorem dX7_fits_120 : decode cX7_fits 120 = .ok (.ifCond .ge 18, 3) := by decide +kernel
theorem dX7_fits_123 : decode cX7_fits 123 = .ok (.iload_n 2, 1) := by decide +kernel
theorem dX7_fits_124 : decode cX7_fits 124 = .ok (.invokestatic 31, 3) := by decide +kernel
theorem dX7_fits_127 : decode cX7_fits 127 = .ok (.bipush (-9), 2) := by decide +kernel
theorem dX7_fits_129 : decode cX7_fits 129 = .ok (.if_icmp .eq 7, 3) := by decide +kernel
theorem dX7_fits_132 : decode cX7_fits 132 = .ok (.iconst 1, 1) := by decide +kernel
theorem dX7_fits_133 : decode cX7_fits 133 = .ok (.goto 4, 3) := by decide +kernel
theorem dX7_fits_136 : decode cX7_fits 136 = .ok (.iconst 0, 1) := by decide +kernel
theorem dX7_fits_137 : decode cX7_fits 137 = .ok (.ireturn, 1) := by decide +kernel
theorem dX7_fits_138 : decode cX7_fits 138 = .ok (.iload_n 3, 1) := by decide +kernel
theorem dX7_fits_139 : decode cX7_fits 139 = .ok (.bipush 15, 2) := by decide +kernel
theorem dX7_fits_141 : decode cX7_fits 141 = .ok (.if_icmp .ge 18, 3) := by decide +kernel
theorem dX7_fits_144 : decode cX7_fits 144 = .ok (.aload_n 0, 1) := by decide +kernel
theorem dX7_fits_145 : decode cX7_fits 145 = .ok (.iload_n 3, 1) := by decide +kernel
theorem dX7_fits_146 : decode cX7_fits 146 = .ok (.iconst 3, 1) := by decide +kernel
theorem dX7_fits_147 : decode cX7_fits 147 = .ok (.irem, 1) := by decide +kernel
theorem dX7_fits_148 : decode cX7_fits 148 = .ok (.iload_n 2, 1) := by decide +kernel
theorem dX7_fits_149 : decode cX7_fits 149 = .ok (.invokevirtual 35, 3) := by decide +kernel
theorem dX7_fits_152 : decode cX7_fits 152 = .ok (.ifCond .eq 7, 3) := by decide +kernel
theorem dX7_fits_155 : decode cX7_fits 155 = .ok (.iconst 1, 1) := by decide +kernel
theorem dX7_fits_156 : decode cX7_fits 156 = .ok (.goto 4, 3) := by decide +kernel
theorem dX7_fits_159 : decode cX7_fits 159 = .ok (.iconst 0, 1) := by decide +kernel
theorem dX7_fits_160 : decode cX7_fits 160 = .ok (.ireturn, 1) := by decide +kernel
theorem dX7_fitsInBoy_0 : decode cX7_fitsInBoy 0 = .ok (.iload_n 1, 1) := by decide +kernel
theorem dX7_fitsInBoy_1 : decode cX7_fitsInBoy 1 = .ok (.ifCond .ne 22, 3) := by decide +kernel
theorem dX7_fitsInBoy_4 : decode cX7_fitsInBoy 4 = .ok (.iload_n 2, 1) := by decide +kernel
theorem dX7_fitsInBoy_5 : decode cX7_fitsInBoy 5 = .ok (.bipush 80, 2) := by decide +kernel
theorem dX7_fitsInBoy_7 : decode cX7_fitsInBoy 7 = .ok (.if_icmp .ne 14, 3) := by decide +kernel
theorem dX7_fitsInBoy_10 : decode cX7_fitsInBoy 10 = .ok (.aload_n 0, 1) := by decide +kernel
theorem dX7_fitsInBoy_11 : decode cX7_fitsInBoy 11 = .ok (.invokevirtual 39, 3) := by decide +kernel
theorem dX7_fitsInBoy_14 : decode cX7_fitsInBoy 14 = .ok (.ifCond .eq 7, 3) := by decide +kernel
theorem dX7_fitsInBoy_17 : decode cX7_fitsInBoy 17 = .ok (.iconst 1, 1) := by decide +kernel
theorem dX7_fitsInBoy_18 : decode cX7_fitsInBoy 18 = .ok (.goto 4, 3) := by decide +kernel
theorem dX7_fitsInBoy_21 : decode cX7_fitsInBoy 21 = .ok (.iconst 0, 1) := by decide +kernel
theorem dX7_fitsInBoy_22 : decode cX7_fitsInBoy 22 = .ok (.ireturn, 1) := by decide +kernel
theorem dX7_fitsInBoy_23 : decode cX7_fitsInBoy 23 = .ok (.iload_n 1, 1) := by decide +kernel
theorem dX7_fitsInBoy_24 : decode cX7_fitsInBoy 24 = .ok (.iconst 1, 1) := by decide +kernel
theorem dX7_fitsInBoy_25 : decode cX7_fitsInBoy 25 = .ok (.if_icmp .ne 14, 3) := by decide +kernel
theorem dX7_fitsInBoy_28 : decode cX7_fitsInBoy 28 = .ok (.aload_n 0, 1) := by decide +kernel
theorem dX7_fitsInBoy_29 : decode cX7_fitsInBoy 29 = .ok (.iload_n 2, 1) := by decide +kernel
theorem dX7_fitsInBoy_30 : decode cX7_fitsInBoy 30 = .ok (.bipush 97, 2) := by decide +kernel
theorem dX7_fitsInBoy_32 : decode cX7_fitsInBoy 32 = .ok (.isub, 1) := by decide +kernel
theorem dX7_fitsInBoy_33 : decode cX7_fitsInBoy 33 = .ok (.invokevirtual 42, 3) := by decide +kernel
theorem dX7_fitsInBoy_36 : decode cX7_fitsInBoy 36 = .ok (.goto 20, 3) := by decide +kernel
theorem dX7_fitsInBoy_39 : decode cX7_fitsInBoy 39 = .ok (.iload_n 2, 1) := by decide +kernel
theorem dX7_fitsInBoy_40 : decode cX7_fitsInBoy 40 = .ok (.bipush 48, 2) := by decide +kernel
theorem dX7_fitsInBoy_42 : decode cX7_fitsInBoy 42 = .ok (.if_icmp .lt 13, 3) := by decide +kernel
theorem dX7_fitsInBoy_45 : decode cX7_fitsInBoy 45 = .ok (.iload_n 2, 1) := by decide +kernel
theorem dX7_fitsInBoy_46 : decode cX7_fitsInBoy 46 = .ok (.bipush 51, 2) := by decide +kernel
theorem dX7_fitsInBoy_48 : decode cX7_fitsInBoy 48 = .ok (.if_icmp .gt 7, 3) := by decide +kernel
theorem dX7_fitsInBoy_51 : decode cX7_fitsInBoy 51 = .ok (.iconst 1, 1) := by decide +kernel
theorem dX7_fitsInBoy_52 : decode cX7_fitsInBoy 52 = .ok (.goto 4, 3) := by decide +kernel
theorem dX7_fitsInBoy_55 : decode cX7_fitsInBoy 55 = .ok (.iconst 0, 1) := by decide +kernel
theorem dX7_fitsInBoy_56 : decode cX7_fitsInBoy 56 = .ok (.ireturn, 1) := by decide +kernel
theorem dX7_isFreeCell_0 : decode cX7_isFreeCell 0 = .ok (.iload_n 1, 1) := by decide +kernel
theorem dX7_isFreeCell_1 : decode cX7_isFreeCell 1 = .ok (.ifCond .lt 36, 3) := by decide +kernel
theorem dX7_isFreeCell_4 : decode cX7_isFreeCell 4 = .ok (.iload_n 1, 1) := by decide +kernel
theorem dX7_isFreeCell_5 : decode cX7_isFreeCell 5 = .ok (.aload_n 0, 1) := by decide +kernel
theorem dX7_isFreeCell_6 : decode cX7_isFreeCell 6 = .ok (.invokevirtual 27, 3) := by decide +kernel
theorem dX7_isFreeCell_9 : decode cX7_isFreeCell 9 = .ok (.if_icmp .ge 28, 3) := by decide +kernel
theorem dX7_isFreeCell_12 : decode cX7_isFreeCell 12 = .ok (.iload_n 1, 1) := by decide +kernel
theorem dX7_isFreeCell_13 : decode cX7_isFreeCell 13 = .ok (.bipush 20, 2) := by decide +kernel
theorem dX7_isFreeCell_15 : decode cX7_isFreeCell 15 = .ok (.if_icmp .ge 22, 3) := by decide +kernel
theorem dX7_isFreeCell_18 : decode cX7_isFreeCell 18 = .ok (.aload_n 0, 1) := by decide +kernel
theorem dX7_isFreeCell_19 : decode cX7_isFreeCell 19 = .ok (.getfield 9, 3) := by decide +kernel
theorem dX7_isFreeCell_22 : decode cX7_isFreeCell 22 = .ok (.iconst 4, 1) := by decide +kernel
theorem dX7_isFreeCell_23 : decode cX7_isFreeCell 23 = .ok (.iload_n 1, 1) := by decide +kernel
theorem dX7_isFreeCell_24 : decode cX7_isFreeCell 24 = .ok (.iadd, 1) := by decide +kernel
theorem dX7_isFreeCell_25 : decode cX7_isFreeCell 25 = .ok (.iaload, 1) := by decide +kernel
theorem dX7_isFreeCell_26 : decode cX7_isFreeCell 26 = .ok (.invokestatic 31, 3) := by decide +kernel
theorem dX7_isFreeCell_29 : decode cX7_isFreeCell 29 = .ok (.iconst 1, 1) := by decide +kernel
theorem dX7_isFreeCell_30 : decode cX7_isFreeCell 30 = .ok (.if_icmp .eq 7, 3) := by decide +kernel
theorem dX7_isFreeCell_33 : decode cX7_isFreeCell 33 = .ok (.iconst 1, 1) := by decide +kernel
theorem dX7_isFreeCell_34 : decode cX7_isFreeCell 34 = .ok (.goto 4, 3) := by decide +kernel
theorem dX7_isFreeCell_37 : decode cX7_isFreeCell 37 = .ok (.iconst 0, 1) := by decide +kernel
theorem dX7_isFreeCell_38 : decode cX7_isFreeCell 38 = .ok (.ireturn, 1) := by decide +kernel
theorem dX7_hasFreeCell_0 : decode cX7_hasFreeCell 0 = .ok (.iconst 0, 1) := by decide +kernel
theorem dX7_hasFreeCell_1 : decode cX7_hasFreeCell 1 = .ok (.istore_n 1, 1) := by decide +kernel
theorem dX7_hasFreeCell_2 : decode cX7_hasFreeCell 2 = .ok (.iload_n 1, 1) := by decide +kernel
theorem dX7_hasFreeCell_3 : decode cX7_hasFreeCell 3 = .ok (.bipush 20, 2) := by decide +kernel
theorem dX7_hasFreeCell_5 : decode cX7_hasFreeCell 5 = .ok (.if_icmp .ge 19, 3) := by decide +kernel
theorem dX7_hasFreeCell_8 : decode cX7_hasFreeCell 8 = .ok (.aload_n 0, 1) := by decide +kernel
theorem dX7_hasFreeCell_9 : decode cX7_hasFreeCell 9 = .ok (.iload_n 1, 1) := by decide +kernel
theorem dX7_hasFreeCell_10 : decode cX7_hasFreeCell 10 = .ok (.invokevirtual 42, 3) := by decide +kernel
theorem dX7_hasFreeCell_13 : decode cX7_hasFreeCell 13 = .ok (.ifCond .eq 5, 3) := by decide +kernel
theorem dX7_hasFreeCell_16 : decode cX7_hasFreeCell 16 = .ok (.iconst 1, 1) := by decide +kernel
theorem dX7_hasFreeCell_17 : decode cX7_hasFreeCell 17 = .ok (.ireturn, 1) := by decide +kernel
theorem dX7_hasFreeCell_18 : decode cX7_hasFreeCell 18 = .ok (.iinc 1 1, 3) := by decide +kernel
theorem dX7_hasFreeCell_21 : decode cX7_hasFreeCell 21 = .ok (.goto (-19), 3) := by decide +kernel
theorem dX7_hasFreeCell_24 : decode cX7_hasFreeCell 24 = .ok (.iconst 0, 1) := by decide +kernel
theorem dX7_hasFreeCell_25 : decode cX7_hasFreeCell 25 = .ok (.ireturn, 1) := by decide +kernel
theorem dX7_isWhole_0 : decode cX7_isWhole 0 = .ok (.aload_n 0, 1) := by decide +kernel
theorem dX7_isWhole_1 : decode cX7_isWhole 1 = .ok (.getfield 15, 3) := by decide +kernel
theorem dX7_isWhole_4 : decode cX7_isWhole 4 = .ok (.iconst 4, 1) := by decide +kernel
theorem dX7_isWhole_5 : decode cX7_isWhole 5 = .ok (.if_icmp .ge 5, 3) := by decide +kernel
theorem dX7_isWhole_8 : decode cX7_isWhole 8 = .ok (.iconst 0, 1) := by decide +kernel
theorem dX7_isWhole_9 : decode cX7_isWhole 9 = .ok (.ireturn, 1) := by decide +kernel
theorem dX7_isWhole_10 : decode cX7_isWhole 10 = .ok (.aload_n 0, 1) := by decide +kernel
theorem dX7_isWhole_11 : decode cX7_isWhole 11 = .ok (.getfield 15, 3) := by decide +kernel
theorem dX7_isWhole_14 : decode cX7_isWhole 14 = .ok (.iconst 4, 1) := by decide +kernel
theorem dX7_isWhole_15 : decode cX7_isWhole 15 = .ok (.isub, 1) := by decide +kernel
theorem dX7_isWhole_16 : decode cX7_isWhole 16 = .ok (.aload_n 0, 1) := by decide +kernel
theorem dX7_isWhole_17 : decode cX7_isWhole 17 = .ok (.invokevirtual 27, 3) := by decide +kernel
theorem dX7_isWhole_20 : decode cX7_isWhole 20 = .ok (.isub, 1) := by decide +kernel
theorem dX7_isWhole_21 : decode cX7_isWhole 21 = .ok (.istore_n 1, 1) := by decide +kernel
theorem dX7_isWhole_22 : decode cX7_isWhole 22 = .ok (.iload_n 1, 1) := by decide +kernel
theorem dX7_isWhole_23 : decode cX7_isWhole 23 = .ok (.ifCond .lt 13, 3) := by decide +kernel
theorem dX7_isWhole_26 : decode cX7_isWhole 26 = .ok (.iload_n 1, 1) := by decide +kernel
theorem dX7_isWhole_27 : decode cX7_isWhole 27 = .ok (.iconst 3, 1) := by decide +kernel
theorem dX7_isWhole_28 : decode cX7_isWhole 28 = .ok (.irem, 1) := by decide +kernel
theorem dX7_isWhole_29 : decode cX7_isWhole 29 = .ok (.ifCond .ne 7, 3) := by decide +kernel
theorem dX7_isWhole_32 : decode cX7_isWhole 32 = .ok (.iconst 1, 1) := by decide +kernel
theorem dX7_isWhole_33 : decode cX7_isWhole 33 = .ok (.goto 4, 3) := by decide +kernel
theorem dX7_isWhole_36 : decode cX7_isWhole 36 = .ok (.iconst 0, 1) := by decide +kernel
theorem dX7_isWhole_37 : decode cX7_isWhole 37 = .ok (.ireturn, 1) := by decide +kernel
theorem dX7_figure_0 : decode cX7_figure 0 = .ok (.aload_n 0, 1) := by decide +kernel
theorem dX7_figure_1 : decode cX7_figure 1 = .ok (.getfield 9, 3) := by decide +kernel
theorem dX7_figure_4 : decode cX7_figure 4 = .ok (.iload_n 1, 1) := by decide +kernel
theorem dX7_figure_5 : decode cX7_figure 5 = .ok (.iaload, 1) := by decide +kernel
theorem dX7_figure_6 : decode cX7_figure 6 = .ok (.bipush 48, 2) := by decide +kernel
theorem dX7_figure_8 : decode cX7_figure 8 = .ok (.isub, 1) := by decide +kernel
theorem dX7_figure_9 : decode cX7_figure 9 = .ok (.ireturn, 1) := by decide +kernel
theorem dX7_cells_0 : decode cX7_cells 0 = .ok (.aload_n 0, 1) := by decide +kernel
theorem dX7_cells_1 : decode cX7_cells 1 = .ok (.getfield 9, 3) := by decide +kernel
theorem dX7_cells_4 : decode cX7_cells 4 = .ok (.iconst 1, 1) := by decide +kernel
theorem dX7_cells_5 : decode cX7_cells 5 = .ok (.iaload, 1) := by decide +kernel
theorem dX7_cells_6 : decode cX7_cells 6 = .ok (.bipush 48, 2) := by decide +kernel
theorem dX7_cells_8 : decode cX7_cells 8 = .ok (.isub, 1) := by decide +kernel
theorem dX7_cells_9 : decode cX7_cells 9 = .ok (.aload_n 0, 1) := by decide +kernel
theorem dX7_cells_10 : decode cX7_cells 10 = .ok (.getfield 9, 3) := by decide +kernel
theorem dX7_cells_13 : decode cX7_cells 13 = .ok (.iconst 2, 1) := by decide +kernel
theorem dX7_cells_14 : decode cX7_cells 14 = .ok (.iaload, 1) := by decide +kernel
theorem dX7_cells_15 : decode cX7_cells 15 = .ok (.bipush 48, 2) := by decide +kernel
theorem dX7_cells_17 : decode cX7_cells 17 = .ok (.isub, 1) := by decide +kernel
theorem dX7_cells_18 : decode cX7_cells 18 = .ok (.imul, 1) := by decide +kernel
theorem dX7_cells_19 : decode cX7_cells 19 = .ok (.ireturn, 1) := by decide +kernel
theorem dX7_boys_0 : decode cX7_boys 0 = .ok (.aload_n 0, 1) := by decide +kernel
theorem dX7_boys_1 : decode cX7_boys 1 = .ok (.getfield 15, 3) := by decide +kernel
theorem dX7_boys_4 : decode cX7_boys 4 = .ok (.iconst 4, 1) := by decide +kernel
theorem dX7_boys_5 : decode cX7_boys 5 = .ok (.isub, 1) := by decide +kernel
theorem dX7_boys_6 : decode cX7_boys 6 = .ok (.aload_n 0, 1) := by decide +kernel
theorem dX7_boys_7 : decode cX7_boys 7 = .ok (.invokevirtual 27, 3) := by decide +kernel
theorem dX7_boys_10 : decode cX7_boys 10 = .ok (.isub, 1) := by decide +kernel
theorem dX7_boys_11 : decode cX7_boys 11 = .ok (.iconst 3, 1) := by decide +kernel
theorem dX7_boys_12 : decode cX7_boys 12 = .ok (.idiv, 1) := by decide +kernel
theorem dX7_boys_13 : decode cX7_boys 13 = .ok (.ireturn, 1) := by decide +kernel
theorem dX7_kindOfCell_0 : decode cX7_kindOfCell 0 = .ok (.aload_n 0, 1) := by decide +kernel
theorem dX7_kindOfCell_1 : decode cX7_kindOfCell 1 = .ok (.getfield 9, 3) := by decide +kernel
theorem dX7_kindOfCell_4 : decode cX7_kindOfCell 4 = .ok (.iconst 4, 1) := by decide +kernel
theorem dX7_kindOfCell_5 : decode cX7_kindOfCell 5 = .ok (.iload_n 1, 1) := by decide +kernel
theorem dX7_kindOfCell_6 : decode cX7_kindOfCell 6 = .ok (.iadd, 1) := by decide +kernel
theorem dX7_kindOfCell_7 : decode cX7_kindOfCell 7 = .ok (.iaload, 1) := by decide +kernel
theorem dX7_kindOfCell_8 : decode cX7_kindOfCell 8 = .ok (.invokestatic 31, 3) := by decide +kernel
theorem dX7_kindOfCell_11 : decode cX7_kindOfCell 11 = .ok (.ireturn, 1) := by decide +kernel
theorem dX7_homeOfBoy_0 : decode cX7_homeOfBoy 0 = .ok (.aload_n 0, 1) := by decide +kernel
theorem dX7_homeOfBoy_1 : decode cX7_homeOfBoy 1 = .ok (.getfield 9, 3) := by decide +kernel
theorem dX7_homeOfBoy_4 : decode cX7_homeOfBoy 4 = .ok (.iconst 4, 1) := by decide +kernel
theorem dX7_homeOfBoy_5 : decode cX7_homeOfBoy 5 = .ok (.aload_n 0, 1) := by decide +kernel
theorem dX7_homeOfBoy_6 : decode cX7_homeOfBoy 6 = .ok (.invokevirtual 27, 3) := by decide +kernel
theorem dX7_homeOfBoy_9 : decode cX7_homeOfBoy 9 = .ok (.iadd, 1) := by decide +kernel
theorem dX7_homeOfBoy_10 : decode cX7_homeOfBoy 10 = .ok (.iload_n 1, 1) := by decide +kernel
theorem dX7_homeOfBoy_11 : decode cX7_homeOfBoy 11 = .ok (.iconst 3, 1) := by decide +kernel
theorem dX7_homeOfBoy_12 : decode cX7_homeOfBoy 12 = .ok (.imul, 1) := by decide +kernel
theorem dX7_homeOfBoy_13 : decode cX7_homeOfBoy 13 = .ok (.iadd, 1) := by decide +kernel
theorem dX7_homeOfBoy_14 : decode cX7_homeOfBoy 14 = .ok (.iconst 1, 1) := by decide +kernel
theorem dX7_homeOfBoy_15 : decode cX7_homeOfBoy 15 = .ok (.iadd, 1) := by decide +kernel
theorem dX7_homeOfBoy_16 : decode cX7_homeOfBoy 16 = .ok (.iaload, 1) := by decide +kernel
theorem dX7_homeOfBoy_17 : decode cX7_homeOfBoy 17 = .ok (.bipush 97, 2) := by decide +kernel
theorem dX7_homeOfBoy_19 : decode cX7_homeOfBoy 19 = .ok (.isub, 1) := by decide +kernel
theorem dX7_homeOfBoy_20 : decode cX7_homeOfBoy 20 = .ok (.ireturn, 1) := by decide +kernel
theorem dX7_kindOfBoy_0 : decode cX7_kindOfBoy 0 = .ok (.aload_n 0, 1) := by decide +kernel
theorem dX7_kindOfBoy_1 : decode cX7_kindOfBoy 1 = .ok (.iconst 4, 1) := by decide +kernel
theorem dX7_kindOfBoy_2 : decode cX7_kindOfBoy 2 = .ok (.aload_n 0, 1) := by decide +kernel
theorem dX7_kindOfBoy_3 : decode cX7_kindOfBoy 3 = .ok (.invokevirtual 27, 3) := by decide +kernel
theorem dX7_kindOfBoy_6 : decode cX7_kindOfBoy 6 = .ok (.iadd, 1) := by decide +kernel
theorem dX7_kindOfBoy_7 : decode cX7_kindOfBoy 7 = .ok (.iload_n 1, 1) := by decide +kernel
theorem dX7_kindOfBoy_8 : decode cX7_kindOfBoy 8 = .ok (.iconst 3, 1) := by decide +kernel
theorem dX7_kindOfBoy_9 : decode cX7_kindOfBoy 9 = .ok (.imul, 1) := by decide +kernel
theorem dX7_kindOfBoy_10 : decode cX7_kindOfBoy 10 = .ok (.iadd, 1) := by decide +kernel
theorem dX7_kindOfBoy_11 : decode cX7_kindOfBoy 11 = .ok (.iconst 2, 1) := by decide +kernel
theorem dX7_kindOfBoy_12 : decode cX7_kindOfBoy 12 = .ok (.iadd, 1) := by decide +kernel
theorem dX7_kindOfBoy_13 : decode cX7_kindOfBoy 13 = .ok (.invokevirtual 45, 3) := by decide +kernel
theorem dX7_kindOfBoy_16 : decode cX7_kindOfBoy 16 = .ok (.ireturn, 1) := by decide +kernel
theorem dX7_kindOf_0 : decode cX7_kindOf 0 = .ok (.iload_n 0, 1) := by decide +kernel
theorem dX7_kindOf_1 : decode cX7_kindOf 1 = .ok (.lookupswitch 51 #[(98, 47), (108, 43), (114, 49), (116, 45)], 43) := by decide +kernel
theorem dX7_kindOf_44 : decode cX7_kindOf 44 = .ok (.iconst 0, 1) := by decide +kernel
theorem dX7_kindOf_45 : decode cX7_kindOf 45 = .ok (.ireturn, 1) := by decide +kernel
theorem dX7_kindOf_46 : decode cX7_kindOf 46 = .ok (.iconst 1, 1) := by decide +kernel
theorem dX7_kindOf_47 : decode cX7_kindOf 47 = .ok (.ireturn, 1) := by decide +kernel
theorem dX7_kindOf_48 : decode cX7_kindOf 48 = .ok (.iconst 2, 1) := by decide +kernel
theorem dX7_kindOf_49 : decode cX7_kindOf 49 = .ok (.ireturn, 1) := by decide +kernel
theorem dX7_kindOf_50 : decode cX7_kindOf 50 = .ok (.iconst 3, 1) := by decide +kernel
theorem dX7_kindOf_51 : decode cX7_kindOf 51 = .ok (.ireturn, 1) := by decide +kernel
theorem dX7_kindOf_52 : decode cX7_kindOf 52 = .ok (.bipush (-9), 2) := by decide +kernel
theorem dX7_kindOf_54 : decode cX7_kindOf 54 = .ok (.ireturn, 1) := by decide +kernel
theorem dX8_init_0 : decode cX8_init 0 = .ok (.aload_n 0, 1) := by decide +kernel
theorem dX8_init_1 : decode cX8_init 1 = .ok (.invokespecial 3, 3) := by decide +kernel
theorem dX8_init_4 : decode cX8_init 4 = .ok (.aload_n 0, 1) := by decide +kernel
theorem dX8_init_5 : decode cX8_init 5 = .ok (.new 9, 3) := by decide +kernel
theorem dX8_init_8 : decode cX8_init 8 = .ok (.dup, 1) := by decide +kernel
theorem dX8_init_9 : decode cX8_init 9 = .ok (.invokespecial 11, 3) := by decide +kernel
theorem dX8_init_12 : decode cX8_init 12 = .ok (.putfield 12, 3) := by decide +kernel
theorem dX8_init_15 : decode cX8_init 15 = .ok (.aload_n 0, 1) := by decide +kernel
theorem dX8_init_16 : decode cX8_init 16 = .ok (.new 16, 3) := by decide +kernel
theorem dX8_init_19 : decode cX8_init 19 = .ok (.dup, 1) := by decide +kernel
theorem dX8_init_20 : decode cX8_init 20 = .ok (.invokespecial 18, 3) := by decide +kernel
theorem dX8_init_23 : decode cX8_init 23 = .ok (.putfield 19, 3) := by decide +kernel
theorem dX8_init_26 : decode cX8_init 26 = .ok (.aload_n 0, 1) := by decide +kernel
theorem dX8_init_27 : decode cX8_init 27 = .ok (.new 23, 3) := by decide +kernel
theorem dX8_init_30 : decode cX8_init 30 = .ok (.dup, 1) := by decide +kernel
theorem dX8_init_31 : decode cX8_init 31 = .ok (.aload_n 0, 1) := by decide +kernel
theorem dX8_init_32 : decode cX8_init 32 = .ok (.getfield 19, 3) := by decide +kernel
theorem dX8_init_35 : decode cX8_init 35 = .ok (.invokespecial 25, 3) := by decide +kernel
theorem dX8_init_38 : decode cX8_init 38 = .ok (.putfield 28, 3) := by decide +kernel
theorem dX8_init_41 : decode cX8_init 41 = .ok (.aload_n 0, 1) := by decide +kernel
theorem dX8_init_42 : decode cX8_init 42 = .ok (.new 23, 3) := by decide +kernel
theorem dX8_init_45 : decode cX8_init 45 = .ok (.dup, 1) := by decide +kernel
theorem dX8_init_46 : decode cX8_init 46 = .ok (.aload_n 0, 1) := by decide +kernel
theorem dX8_init_47 : decode cX8_init 47 = .ok (.getfield 19, 3) := by decide +kernel
theorem dX8_init_50 : decode cX8_init 50 = .ok (.invokespecial 25, 3) := by decide +kernel
theorem dX8_init_53 : decode cX8_init 53 = .ok (.putfield 32, 3) := by decide +kernel
theorem dX8_init_56 : decode cX8_init 56 = .ok (.aload_n 0, 1) := by decide +kernel
theorem dX8_init_57 : decode cX8_init 57 = .ok (.new 35, 3) := by decide +kernel
theorem dX8_init_60 : decode cX8_init 60 = .ok (.dup, 1) := by decide +kernel
theorem dX8_init_61 : decode cX8_init 61 = .ok (.aload_n 0, 1) := by decide +kernel
theorem dX8_init_62 : decode cX8_init 62 = .ok (.getfield 19, 3) := by decide +kernel
theorem dX8_init_65 : decode cX8_init 65 = .ok (.invokespecial 37, 3) := by decide +kernel
theorem dX8_init_68 : decode cX8_init 68 = .ok (.putfield 38, 3) := by decide +kernel
theorem dX8_init_71 : decode cX8_init 71 = .ok (.aload_n 0, 1) := by decide +kernel
theorem dX8_init_72 : decode cX8_init 72 = .ok (.iconst 2, 1) := by decide +kernel
theorem dX8_init_73 : decode cX8_init 73 = .ok (.anewarray 23, 3) := by decide +kernel
theorem dX8_init_76 : decode cX8_init 76 = .ok (.putfield 42, 3) := by decide +kernel
theorem dX8_init_79 : decode cX8_init 79 = .ok (.aload_n 0, 1) := by decide +kernel
theorem dX8_init_80 : decode cX8_init 80 = .ok (.iconst 2, 1) := by decide +kernel
theorem dX8_init_81 : decode cX8_init 81 = .ok (.newarray .boolean, 2) := by decide +kernel
theorem dX8_init_83 : decode cX8_init 83 = .ok (.putfield 46, 3) := by decide +kernel
theorem dX8_init_86 : decode cX8_init 86 = .ok (.aload_n 0, 1) := by decide +kernel
theorem dX8_init_87 : decode cX8_init 87 = .ok (.new 50, 3) := by decide +kernel
theorem dX8_init_90 : decode cX8_init 90 = .ok (.dup, 1) := by decide +kernel
theorem dX8_init_91 : decode cX8_init 91 = .ok (.invokespecial 52, 3) := by decide +kernel
theorem dX8_init_94 : decode cX8_init 94 = .ok (.putfield 53, 3) := by decide +kernel
theorem dX8_init_97 : decode cX8_init 97 = .ok (.aload_n 0, 1) := by decide +kernel
theorem dX8_init_98 : decode cX8_init 98 = .ok (.new 57, 3) := by decide +kernel
theorem dX8_init_101 : decode cX8_init 101 = .ok (.dup, 1) := by decide +kernel
theorem dX8_init_102 : decode cX8_init 102 = .ok (.invokespecial 59, 3) := by decide +kernel
theorem dX8_init_105 : decode cX8_init 105 = .ok (.putfield 60, 3) := by decide +kernel
theorem dX8_init_108 : decode cX8_init 108 = .ok (.aload_n 0, 1) := by decide +kernel
theorem dX8_init_109 : decode cX8_init 109 = .ok (.new 64, 3) := by decide +kernel
theorem dX8_init_112 : decode cX8_init 112 = .ok (.dup, 1) := by decide +kernel
theorem dX8_init_113 : decode cX8_init 113 = .ok (.invokespecial 66, 3) := by decide +kernel
theorem dX8_init_116 : decode cX8_init 116 = .ok (.putfield 67, 3) := by decide +kernel
theorem dX8_init_119 : decode cX8_init 119 = .ok (.aload_n 0, 1) := by decide +kernel
theorem dX8_init_120 : decode cX8_init 120 = .ok (.new 71, 3) := by decide +kernel
theorem dX8_init_123 : decode cX8_init 123 = .ok (.dup, 1) := by decide +kernel
theorem dX8_init_124 : decode cX8_init 124 = .ok (.invokespecial 73, 3) := by decide +kernel
theorem dX8_init_127 : decode cX8_init 127 = .ok (.putfield 74, 3) := by decide +kernel
theorem dX8_init_130 : decode cX8_init 130 = .ok (.aload_n 0, 1) := by decide +kernel
theorem dX8_init_131 : decode cX8_init 131 = .ok (.new 71, 3) := by decide +kernel
theorem dX8_init_134 : decode cX8_init 134 = .ok (.dup, 1) := by decide +kernel
theorem dX8_init_135 : decode cX8_init 135 = .ok (.invokespecial 73, 3) := by decide +kernel
theorem dX8_init_138 : decode cX8_init 138 = .ok (.putfield 78, 3) := by decide +kernel
theorem dX8_init_141 : decode cX8_init 141 = .ok (.iconst 0, 1) := by decide +kernel
theorem dX8_init_142 : decode cX8_init 142 = .ok (.istore_n 1, 1) := by decide +kernel
theorem dX8_init_143 : decode cX8_init 143 = .ok (.iload_n 1, 1) := by decide +kernel
theorem dX8_init_144 : decode cX8_init 144 = .ok (.iconst 2, 1) := by decide +kernel
theorem dX8_init_145 : decode cX8_init 145 = .ok (.if_icmp .ge 26, 3) := by decide +kernel
theorem dX8_init_148 : decode cX8_init 148 = .ok (.aload_n 0, 1) := by decide +kernel
theorem dX8_init_149 : decode cX8_init 149 = .ok (.getfield 42, 3) := by decide +kernel
theorem dX8_init_152 : decode cX8_init 152 = .ok (.iload_n 1, 1) := by decide +kernel
theorem dX8_init_153 : decode cX8_init 153 = .ok (.new 23, 3) := by decide +kernel
theorem dX8_init_156 : decode cX8_init 156 = .ok (.dup, 1) := by decide +kernel
theorem dX8_init_157 : decode cX8_init 157 = .ok (.aload_n 0, 1) := by decide +kernel
theorem dX8_init_158 : decode cX8_init 158 = .ok (.getfield 19, 3) := by decide +kernel
theorem dX8_init_161 : decode cX8_init 161 = .ok (.invokespecial 25, 3) := by decide +kernel
theorem dX8_init_164 : decode cX8_init 164 = .ok (.aastore, 1) := by decide +kernel
theorem dX8_init_165 : decode cX8_init 165 = .ok (.iinc 1 1, 3) := by decide +kernel
theorem dX8_init_168 : decode cX8_init 168 = .ok (.goto (-25), 3) := by decide +kernel
theorem dX8_init_171 : decode cX8_init 171 = .ok (.return_, 1) := by decide +kernel
theorem dX8_write_0 : decode cX8_write 0 = .ok (.iload_n 1, 1) := by decide +kernel
theorem dX8_write_1 : decode cX8_write 1 = .ok (.ifCond .lt 10, 3) := by decide +kernel
theorem dX8_write_4 : decode cX8_write 4 = .ok (.iload_n 1, 1) := by decide +kernel
theorem dX8_write_5 : decode cX8_write 5 = .ok (.sipush 255, 3) := by decide +kernel
theorem dX8_write_8 : decode cX8_write 8 = .ok (.if_icmp .le 6, 3) := by decide +kernel
theorem dX8_write_11 : decode cX8_write 11 = .ok (.bipush (-2), 2) := by decide +kernel
theorem dX8_write_13 : decode cX8_write 13 = .ok (.ireturn, 1) := by decide +kernel
theorem dX8_write_14 : decode cX8_write 14 = .ok (.aload_n 0, 1) := by decide +kernel
theorem dX8_write_15 : decode cX8_write 15 = .ok (.getfield 12, 3) := by decide +kernel
theorem dX8_write_18 : decode cX8_write 18 = .ok (.iload_n 1, 1) := by decide +kernel
theorem dX8_write_19 : decode cX8_write 19 = .ok (.invokevirtual 81, 3) := by decide +kernel
theorem dX8_write_22 : decode cX8_write 22 = .ok (.ifCond .eq 13, 3) := by decide +kernel
theorem dX8_write_25 : decode cX8_write 25 = .ok (.aload_n 0, 1) := by decide +kernel
theorem dX8_write_26 : decode cX8_write 26 = .ok (.getfield 12, 3) := by decide +kernel
theorem dX8_write_29 : decode cX8_write 29 = .ok (.getfield 85, 3) := by decide +kernel
theorem dX8_write_32 : decode cX8_write 32 = .ok (.goto 5, 3) := by decide +kernel
theorem dX8_write_35 : decode cX8_write 35 = .ok (.bipush (-4), 2) := by decide +kernel
theorem dX8_write_37 : decode cX8_write 37 = .ok (.ireturn, 1) := by decide +kernel
theorem dX8_wipe_0 : decode cX8_wipe 0 = .ok (.aload_n 0, 1) := by decide +kernel
theorem dX8_wipe_1 : decode cX8_wipe 1 = .ok (.getfield 12, 3) := by decide +kernel
theorem dX8_wipe_4 : decode cX8_wipe 4 = .ok (.getfield 85, 3) := by decide +kernel
theorem dX8_wipe_7 : decode cX8_wipe 7 = .ok (.istore_n 1, 1) := by decide +kernel
theorem dX8_wipe_8 : decode cX8_wipe 8 = .ok (.aload_n 0, 1) := by decide +kernel
theorem dX8_wipe_9 : decode cX8_wipe 9 = .ok (.getfield 12, 3) := by decide +kernel
theorem dX8_wipe_12 : decode cX8_wipe 12 = .ok (.iconst 0, 1) := by decide +kernel
theorem dX8_wipe_13 : decode cX8_wipe 13 = .ok (.putfield 85, 3) := by decide +kernel
theorem dX8_wipe_16 : decode cX8_wipe 16 = .ok (.iload_n 1, 1) := by decide +kernel
theorem dX8_wipe_17 : decode cX8_wipe 17 = .ok (.ireturn, 1) := by decide +kernel
theorem dX8_fault_0 : decode cX8_fault 0 = .ok (.aload_n 0, 1) := by decide +kernel
theorem dX8_fault_1 : decode cX8_fault 1 = .ok (.getfield 12, 3) := by decide +kernel
theorem dX8_fault_4 : decode cX8_fault 4 = .ok (.invokevirtual 89, 3) := by decide +kernel
theorem dX8_fault_7 : decode cX8_fault 7 = .ok (.ireturn, 1) := by decide +kernel
theorem dX8_paper_0 : decode cX8_paper 0 = .ok (.aload_n 0, 1) := by decide +kernel
theorem dX8_paper_1 : decode cX8_paper 1 = .ok (.getfield 12, 3) := by decide +kernel
theorem dX8_paper_4 : decode cX8_paper 4 = .ok (.invokevirtual 89, 3) := by decide +kernel
theorem dX8_paper_7 : decode cX8_paper 7 = .ok (.bipush (-9), 2) := by decide +kernel
theorem dX8_paper_9 : decode cX8_paper 9 = .ok (.if_icmp .eq 6, 3) := by decide +kernel
theorem dX8_paper_12 : decode cX8_paper 12 = .ok (.bipush (-3), 2) := by decide +kernel
theorem dX8_paper_14 : decode cX8_paper 14 = .ok (.ireturn, 1) := by decide +kernel
theorem dX8_paper_15 : decode cX8_paper 15 = .ok (.aload_n 0, 1) := by decide +kernel
theorem dX8_paper_16 : decode cX8_paper 16 = .ok (.getfield 19, 3) := by decide +kernel
theorem dX8_paper_19 : decode cX8_paper 19 = .ok (.aload_n 0, 1) := by decide +kernel
theorem dX8_paper_20 : decode cX8_paper 20 = .ok (.getfield 12, 3) := by decide +kernel
theorem dX8_paper_23 : decode cX8_paper 23 = .ok (.invokevirtual 93, 3) := by decide +kernel
theorem dX8_paper_26 : decode cX8_paper 26 = .ok (.aload_n 0, 1) := by decide +kernel
theorem dX8_paper_27 : decode cX8_paper 27 = .ok (.getfield 28, 3) := by decide +kernel
theorem dX8_paper_30 : decode cX8_paper 30 = .ok (.invokevirtual 97, 3) := by decide +kernel
theorem dX8_paper_33 : decode cX8_paper 33 = .ok (.aload_n 0, 1) := by decide +kernel
theorem dX8_paper_34 : decode cX8_paper 34 = .ok (.getfield 38, 3) := by decide +kernel
theorem dX8_paper_37 : decode cX8_paper 37 = .ok (.invokevirtual 100, 3) := by decide +kernel
theorem dX8_paper_40 : decode cX8_paper 40 = .ok (.iconst 0, 1) := by decide +kernel
theorem dX8_paper_41 : decode cX8_paper 41 = .ok (.istore_n 1, 1) := by decide +kernel
theorem dX8_paper_42 : decode cX8_paper 42 = .ok (.iload_n 1, 1) := by decide +kernel
theorem dX8_paper_43 : decode cX8_paper 43 = .ok (.iconst 2, 1) := by decide +kernel
theorem dX8_paper_44 : decode cX8_paper 44 = .ok (.if_icmp .ge 16, 3) := by decide +kernel
theorem dX8_paper_47 : decode cX8_paper 47 = .ok (.aload_n 0, 1) := by decide +kernel
theorem dX8_paper_48 : decode cX8_paper 48 = .ok (.getfield 46, 3) := by decide +kernel
theorem dX8_paper_51 : decode cX8_paper 51 = .ok (.iload_n 1, 1) := by decide +kernel
theorem dX8_paper_52 : decode cX8_paper 52 = .ok (.iconst 0, 1) := by decide +kernel
theorem dX8_paper_53 : decode cX8_paper 53 = .ok (.bastore, 1) := by decide +kernel
theorem dX8_paper_54 : decode cX8_paper 54 = .ok (.iinc 1 1, 3) := by decide +kernel
theorem dX8_paper_57 : decode cX8_paper 57 = .ok (.goto (-15), 3) := by decide +kernel
theorem dX8_paper_60 : decode cX8_paper 60 = .ok (.bipush 100, 2) := by decide +kernel
theorem dX8_paper_62 : decode cX8_paper 62 = .ok (.aload_n 0, 1) := by decide +kernel
theorem dX8_paper_63 : decode cX8_paper 63 = .ok (.getfield 19, 3) := by decide +kernel
theorem dX8_paper_66 : decode cX8_paper 66 = .ok (.getfield 103, 3) := by decide +kernel
theorem dX8_paper_69 : decode cX8_paper 69 = .ok (.imul, 1) := by decide +kernel
theorem dX8_paper_70 : decode cX8_paper 70 = .ok (.bipush 10, 2) := by decide +kernel
theorem dX8_paper_72 : decode cX8_paper 72 = .ok (.aload_n 0, 1) := by decide +kernel
theorem dX8_paper_73 : decode cX8_paper 73 = .ok (.getfield 19, 3) := by decide +kernel
theorem dX8_paper_76 : decode cX8_paper 76 = .ok (.getfield 106, 3) := by decide +kernel
theorem dX8_paper_79 : decode cX8_paper 79 = .ok (.imul, 1) := by decide +kernel
theorem dX8_paper_80 : decode cX8_paper 80 = .ok (.iadd, 1) := by decide +kernel
theorem dX8_paper_81 : decode cX8_paper 81 = .ok (.aload_n 0, 1) := by decide +kernel
theorem dX8_paper_82 : decode cX8_paper 82 = .ok (.getfield 19, 3) := by decide +kernel
theorem dX8_paper_85 : decode cX8_paper 85 = .ok (.getfield 109, 3) := by decide +kernel
theorem dX8_paper_88 : decode cX8_paper 88 = .ok (.iadd, 1) := by decide +kernel
theorem dX8_paper_89 : decode cX8_paper 89 = .ok (.ireturn, 1) := by decide +kernel
theorem dX8_about_0 : decode cX8_about 0 = .ok (.iload_n 1, 1) := by decide +kernel
theorem dX8_about_1 : decode cX8_about 1 = .ok (.tableswitch 150 0 10 #[59, 67, 75, 83, 91, 100, 109, 118, 126, 134, 142], 59) := by decide +kernel
theorem dX8_about_60 : decode cX8_about 60 = .ok (.aload_n 0, 1) := by decide +kernel
theorem dX8_about_61 : decode cX8_about 61 = .ok (.getfield 19, 3) := by decide +kernel
theorem dX8_about_64 : decode cX8_about 64 = .ok (.getfield 103, 3) := by decide +kernel
theorem dX8_about_67 : decode cX8_about 67 = .ok (.ireturn, 1) := by decide +kernel
theorem dX8_about_68 : decode cX8_about 68 = .ok (.aload_n 0, 1) := by decide +kernel
theorem dX8_about_69 : decode cX8_about 69 = .ok (.getfield 19, 3) := by decide +kernel
theorem dX8_about_72 : decode cX8_about 72 = .ok (.getfield 106, 3) := by decide +kernel
theorem dX8_about_75 : decode cX8_about 75 = .ok (.ireturn, 1) := by decide +kernel
theorem dX8_about_76 : decode cX8_about 76 = .ok (.aload_n 0, 1) := by decide +kernel
theorem dX8_about_77 : decode cX8_about 77 = .ok (.getfield 19, 3) := by decide +kernel
theorem dX8_about_80 : decode cX8_about 80 = .ok (.getfield 112, 3) := by decide +kernel
theorem dX8_about_83 : decode cX8_about 83 = .ok (.ireturn, 1) := by decide +kernel
theorem dX8_about_84 : decode cX8_about 84 = .ok (.aload_n 0, 1) := by decide +kernel
theorem dX8_about_85 : decode cX8_about 85 = .ok (.getfield 19, 3) := by decide +kernel
theorem dX8_about_88 : decode cX8_about 88 = .ok (.getfield 109, 3) := by decide +kernel
theorem dX8_about_91 : decode cX8_about 91 = .ok (.ireturn, 1) := by decide +kernel
theorem dX8_about_92 : decode cX8_about 92 = .ok (.aload_n 0, 1) := by decide +kernel
theorem dX8_about_93 : decode cX8_about 93 = .ok (.getfield 28, 3) := by decide +kernel
theorem dX8_about_96 : decode cX8_about 96 = .ok (.iconst 1, 1) := by decide +kernel
theorem dX8_about_97 : decode cX8_about 97 = .ok (.invokevirtual 115, 3) := by decide +kernel
theorem dX8_about_100 : decode cX8_about 100 = .ok (.ireturn, 1) := by decide +kernel
theorem dX8_about_101 : decode cX8_about 101 = .ok (.aload_n 0, 1) := by decide +kernel
theorem dX8_about_102 : decode cX8_about 102 = .ok (.getfield 28, 3) := by decide +kernel
theorem dX8_about_105 : decode cX8_about 105 = .ok (.iconst 2, 1) := by decide +kernel
theorem dX8_about_106 : decode cX8_about 106 = .ok (.invokevirtual 115, 3) := by decide +kernel
theorem dX8_about_109 : decode cX8_about 109 = .ok (.ireturn, 1) := by decide +kernel
theorem dX8_about_110 : decode cX8_about 110 = .ok (.aload_n 0, 1) := by decide +kernel
theorem dX8_about_111 : decode cX8_about 111 = .ok (.getfield 28, 3) := by decide +kernel
theorem dX8_about_114 : decode cX8_about 114 = .ok (.iconst 3, 1) := by decide +kernel
theorem dX8_about_115 : decode cX8_about 115 = .ok (.invokevirtual 115, 3) := by decide +kernel
theorem dX8_about_118 : decode cX8_about 118 = .ok (.ireturn, 1) := by decide +kernel
theorem dX8_about_119 : decode cX8_about 119 = .ok (.aload_n 0, 1) := by decide +kernel
theorem dX8_about_120 : decode cX8_about 120 = .ok (.getfield 28, 3) := by decide +kernel
theorem dX8_about_123 : decode cX8_about 123 = .ok (.invokevirtual 119, 3) := by decide +kernel
theorem dX8_about_126 : decode cX8_about 126 = .ok (.ireturn, 1) := by decide +kernel
theorem dX8_about_127 : decode cX8_about 127 = .ok (.aload_n 0, 1) := by decide +kernel
theorem dX8_about_128 : decode cX8_about 128 = .ok (.getfield 38, 3) := by decide +kernel
theorem dX8_about_131 : decode cX8_about 131 = .ok (.getfield 122, 3) := by decide +kernel
theorem dX8_about_134 : decode cX8_about 134 = .ok (.ireturn, 1) := by decide +kernel
theorem dX8_about_135 : decode cX8_about 135 = .ok (.aload_n 0, 1) := by decide +kernel
theorem dX8_about_136 : decode cX8_about 136 = .ok (.getfield 67, 3) := by decide +kernel
theorem dX8_about_139 : decode cX8_about 139 = .ok (.getfield 125, 3) := by decide +kernel
theorem dX8_about_142 : decode cX8_about 142 = .ok (.ireturn, 1) := by decide +kernel
theorem dX8_about_143 : decode cX8_about 143 = .ok (.aload_n 0, 1) := by decide +kernel
theorem dX8_about_144 : decode cX8_about 144 = .ok (.getfield 12, 3) := by decide +kernel
theorem dX8_about_147 : decode cX8_about 147 = .ok (.getfield 85, 3) := by decide +kernel
theorem dX8_about_150 : decode cX8_about 150 = .ok (.ireturn, 1) := by decide +kernel
theorem dX8_about_151 : decode cX8_about 151 = .ok (.bipush (-2), 2) := by decide +kernel
theorem dX8_about_153 : decode cX8_about 153 = .ok (.ireturn, 1) := by decide +kernel
theorem dX8_cell_0 : decode cX8_cell 0 = .ok (.aload_n 0, 1) := by decide +kernel
theorem dX8_cell_1 : decode cX8_cell 1 = .ok (.getfield 19, 3) := by decide +kernel
theorem dX8_cell_4 : decode cX8_cell 4 = .ok (.iload_n 1, 1) := by decide +kernel
theorem dX8_cell_5 : decode cX8_cell 5 = .ok (.invokevirtual 126, 3) := by decide +kernel
theorem dX8_cell_8 : decode cX8_cell 8 = .ok (.ifCond .eq 14, 3) := by decide +kernel
theorem dX8_cell_11 : decode cX8_cell 11 = .ok (.aload_n 0, 1) := by decide +kernel
theorem dX8_cell_12 : decode cX8_cell 12 = .ok (.getfield 28, 3) := by decide +kernel
theorem dX8_cell_15 : decode cX8_cell 15 = .ok (.iload_n 1, 1) := by decide +kernel
theorem dX8_cell_16 : decode cX8_cell 16 = .ok (.invokevirtual 129, 3) := by decide +kernel
theorem dX8_cell_19 : decode cX8_cell 19 = .ok (.goto 4, 3) := by decide +kernel
theorem dX8_cell_22 : decode cX8_cell 22 = .ok (.iconst (-1), 1) := by decide +kernel
theorem dX8_cell_23 : decode cX8_cell 23 = .ok (.ireturn, 1) := by decide +kernel
theorem dX8_beside_0 : decode cX8_beside 0 = .ok (.aload_n 0, 1) := by decide +kernel
theorem dX8_beside_1 : decode cX8_beside 1 = .ok (.getfield 19, 3) := by decide +kernel
theorem dX8_beside_4 : decode cX8_beside 4 = .ok (.iload_n 1, 1) := by decide +kernel
theorem dX8_beside_5 : decode cX8_beside 5 = .ok (.invokevirtual 126, 3) := by decide +kernel
theorem dX8_beside_8 : decode cX8_beside 8 = .ok (.ifCond .ne 5, 3) := by decide +kernel
theorem dX8_beside_11 : decode cX8_beside 11 = .ok (.iconst (-1), 1) := by decide +kernel
theorem dX8_beside_12 : decode cX8_beside 12 = .ok (.ireturn, 1) := by decide +kernel
theorem dX8_beside_13 : decode cX8_beside 13 = .ok (.iload_n 2, 1) := by decide +kernel
theorem dX8_beside_14 : decode cX8_beside 14 = .ok (.invokestatic 132, 3) := by decide +kernel
theorem dX8_beside_17 : decode cX8_beside 17 = .ok (.ifCond .eq 16, 3) := by decide +kernel
theorem dX8_beside_20 : decode cX8_beside 20 = .ok (.aload_n 0, 1) := by decide +kernel
theorem dX8_beside_21 : decode cX8_beside 21 = .ok (.getfield 19, 3) := by decide +kernel
theorem dX8_beside_24 : decode cX8_beside 24 = .ok (.iload_n 1, 1) := by decide +kernel
theorem dX8_beside_25 : decode cX8_beside 25 = .ok (.iload_n 2, 1) := by decide +kernel
theorem dX8_beside_26 : decode cX8_beside 26 = .ok (.iload_n 3, 1) := by decide +kernel
theorem dX8_beside_27 : decode cX8_beside 27 = .ok (.invokevirtual 135, 3) := by decide +kernel
theorem dX8_beside_30 : decode cX8_beside 30 = .ok (.goto 5, 3) := by decide +kernel
theorem dX8_beside_33 : decode cX8_beside 33 = .ok (.bipush (-2), 2) := by decide +kernel
theorem dX8_beside_35 : decode cX8_beside 35 = .ok (.ireturn, 1) := by decide +kernel
theorem dX8_boy_0 : decode cX8_boy 0 = .ok (.aload_n 0, 1) := by decide +kernel
theorem dX8_boy_1 : decode cX8_boy 1 = .ok (.getfield 19, 3) := by decide +kernel
theorem dX8_boy_4 : decode cX8_boy 4 = .ok (.iload_n 1, 1) := by decide +kernel
theorem dX8_boy_5 : decode cX8_boy 5 = .ok (.invokevirtual 139, 3) := by decide +kernel
theorem dX8_boy_8 : decode cX8_boy 8 = .ok (.ifCond .ne 5, 3) := by decide +kernel
theorem dX8_boy_11 : decode cX8_boy 11 = .ok (.iconst (-1), 1) := by decide +kernel
theorem dX8_boy_12 : decode cX8_boy 12 = .ok (.ireturn, 1) := by decide +kernel
theorem dX8_boy_13 : decode cX8_boy 13 = .ok (.aload_n 0, 1) := by decide +kernel
theorem dX8_boy_14 : decode cX8_boy 14 = .ok (.getfield 28, 3) := by decide +kernel
theorem dX8_boy_17 : decode cX8_boy 17 = .ok (.getfield 142, 3) := by decide +kernel
theorem dX8_boy_20 : decode cX8_boy 20 = .ok (.iload_n 1, 1) := by decide +kernel
theorem dX8_boy_21 : decode cX8_boy 21 = .ok (.iaload, 1) := by decide +kernel
theorem dX8_boy_22 : decode cX8_boy 22 = .ok (.istore_n 3, 1) := by decide +kernel
theorem dX8_boy_23 : decode cX8_boy 23 = .ok (.iload_n 2, 1) := by decide +kernel
theorem dX8_boy_24 : decode cX8_boy 24 = .ok (.tableswitch 84 0 5 #[40, 45, 55, 65, 70, 75], 40) := by decide +kernel
theorem dX8_boy_64 : decode cX8_boy 64 = .ok (.iload_n 3, 1) := by decide +kernel
theorem dX8_boy_65 : decode cX8_boy 65 = .ok (.invokestatic 146, 3) := by decide +kernel
theorem dX8_boy_68 : decode cX8_boy 68 = .ok (.ireturn, 1) := by decide +kernel
theorem dX8_boy_69 : decode cX8_boy 69 = .ok (.aload_n 0, 1) := by decide +kernel
theorem dX8_boy_70 : decode cX8_boy 70 = .ok (.getfield 19, 3) := by decide +kernel
theorem dX8_boy_73 : decode cX8_boy 73 = .ok (.getfield 149, 3) := by decide +kernel
theorem dX8_boy_76 : decode cX8_boy 76 = .ok (.iload_n 1, 1) := by decide +kernel
theorem dX8_boy_77 : decode cX8_boy 77 = .ok (.iaload, 1) := by decide +kernel
theorem dX8_boy_78 : decode cX8_boy 78 = .ok (.ireturn, 1) := by decide +kernel
theorem dX8_boy_79 : decode cX8_boy 79 = .ok (.aload_n 0, 1) := by decide +kernel
theorem dX8_boy_80 : decode cX8_boy 80 = .ok (.getfield 19, 3) := by decide +kernel
theorem dX8_boy_83 : decode cX8_boy 83 = .ok (.getfield 152, 3) := by decide +kernel
theorem dX8_boy_86 : decode cX8_boy 86 = .ok (.iload_n 1, 1) := by decide +kernel
theorem dX8_boy_87 : decode cX8_boy 87 = .ok (.iaload, 1) := by decide +kernel
theorem dX8_boy_88 : decode cX8_boy 88 = .ok (.ireturn, 1) := by decide +kernel
theorem dX8_boy_89 : decode cX8_boy 89 = .ok (.iload_n 3, 1) := by decide +kernel
theorem dX8_boy_90 : decode cX8_boy 90 = .ok (.invokestatic 155, 3) := by decide +kernel
theorem dX8_boy_93 : decode cX8_boy 93 = .ok (.ireturn, 1) := by decide +kernel
theorem dX8_boy_94 : decode cX8_boy 94 = .ok (.iload_n 3, 1) := by decide +kernel
theorem dX8_boy_95 : decode cX8_boy 95 = .ok (.invokestatic 158, 3) := by decide +kernel
theorem dX8_boy_98 : decode cX8_boy 98 = .ok (.ireturn, 1) := by decide +kernel
theorem dX8_boy_99 : decode cX8_boy 99 = .ok (.aload_n 0, 1) := by decide +kernel
theorem dX8_boy_100 : decode cX8_boy 100 = .ok (.getfield 28, 3) := by decide +kernel
theorem dX8_boy_103 : decode cX8_boy 103 = .ok (.iload_n 1, 1) := by decide +kernel
theorem dX8_boy_104 : decode cX8_boy 104 = .ok (.invokevirtual 161, 3) := by decide +kernel
theorem dX8_boy_107 : decode cX8_boy 107 = .ok (.ireturn, 1) := by decide +kernel
theorem dX8_boy_108 : decode cX8_boy 108 = .ok (.bipush (-2), 2) := by decide +kernel
theorem dX8_boy_110 : decode cX8_boy 110 = .ok (.ireturn, 1) := by decide +kernel
theorem dX8_step_0 : decode cX8_step 0 = .ok (.aload_n 0, 1) := by decide +kernel
theorem dX8_step_1 : decode cX8_step 1 = .ok (.getfield 19, 3) := by decide +kernel
theorem dX8_step_4 : decode cX8_step 4 = .ok (.iload_n 1, 1) := by decide +kernel
theorem dX8_step_5 : decode cX8_step 5 = .ok (.invokevirtual 139, 3) := by decide +kernel
theorem dX8_step_8 : decode cX8_step 8 = .ok (.ifCond .ne 5, 3) := by decide +kernel
theorem dX8_step_11 : decode cX8_step 11 = .ok (.iconst (-1), 1) := by decide +kernel
theorem dX8_step_12 : decode cX8_step 12 = .ok (.ireturn, 1) := by decide +kernel
theorem dX8_step_13 : decode cX8_step 13 = .ok (.iload_n 2, 1) := by decide +kernel
theorem dX8_step_14 : decode cX8_step 14 = .ok (.invokestatic 132, 3) := by decide +kernel
theorem dX8_step_17 : decode cX8_step 17 = .ok (.ifCond .ne 6, 3) := by decide +kernel
theorem dX8_step_20 : decode cX8_step 20 = .ok (.bipush (-2), 2) := by decide +kernel
theorem dX8_step_22 : decode cX8_step 22 = .ok (.ireturn, 1) := by decide +kernel
theorem dX8_step_23 : decode cX8_step 23 = .ok (.aload_n 0, 1) := by decide +kernel
theorem dX8_step_24 : decode cX8_step 24 = .ok (.getfield 28, 3) := by decide +kernel
theorem dX8_step_27 : decode cX8_step 27 = .ok (.iload_n 1, 1) := by decide +kernel
theorem dX8_step_28 : decode cX8_step 28 = .ok (.aload_n 0, 1) := by decide +kernel
theorem dX8_step_29 : decode cX8_step 29 = .ok (.getfield 28, 3) := by decide +kernel
theorem dX8_step_32 : decode cX8_step 32 = .ok (.getfield 142, 3) := by decide +kernel
theorem dX8_step_35 : decode cX8_step 35 = .ok (.iload_n 1, 1) := by decide +kernel
theorem dX8_step_36 : decode cX8_step 36 = .ok (.iaload, 1) := by decide +kernel
theorem dX8_step_37 : decode cX8_step 37 = .ok (.iload_n 2, 1) := by decide +kernel
theorem dX8_step_38 : decode cX8_step 38 = .ok (.invokevirtual 164, 3) := by decide +kernel
theorem dX8_step_41 : decode cX8_step 41 = .ok (.iconst (-1), 1) := by decide +kernel
theorem dX8_step_42 : decode cX8_step 42 = .ok (.if_icmp .ne 6, 3) := by decide +kernel
theorem dX8_step_45 : decode cX8_step 45 = .ok (.bipush (-3), 2) := by decide +kernel
theorem dX8_step_47 : decode cX8_step 47 = .ok (.ireturn, 1) := by decide +kernel
theorem dX8_step_48 : decode cX8_step 48 = .ok (.aload_n 0, 1) := by decide +kernel
theorem dX8_step_49 : decode cX8_step 49 = .ok (.getfield 38, 3) := by decide +kernel
theorem dX8_step_52 : decode cX8_step 52 = .ok (.aload_n 0, 1) := by decide +kernel
theorem dX8_step_53 : decode cX8_step 53 = .ok (.getfield 28, 3) := by decide +kernel
theorem dX8_step_56 : decode cX8_step 56 = .ok (.invokevirtual 168, 3) := by decide +kernel
theorem dX8_step_59 : decode cX8_step 59 = .ok (.aload_n 0, 1) := by decide +kernel
theorem dX8_step_60 : decode cX8_step 60 = .ok (.getfield 28, 3) := by decide +kernel
theorem dX8_step_63 : decode cX8_step 63 = .ok (.iload_n 1, 1) := by decide +kernel
theorem dX8_step_64 : decode cX8_step 64 = .ok (.iload_n 2, 1) := by decide +kernel
theorem dX8_step_65 : decode cX8_step 65 = .ok (.invokevirtual 172, 3) := by decide +kernel
theorem dX8_step_68 : decode cX8_step 68 = .ok (.pop, 1) := by decide +kernel
theorem dX8_step_69 : decode cX8_step 69 = .ok (.aload_n 0, 1) := by decide +kernel
theorem dX8_step_70 : decode cX8_step 70 = .ok (.getfield 28, 3) := by decide +kernel
theorem dX8_step_73 : decode cX8_step 73 = .ok (.getfield 142, 3) := by decide +kernel
theorem dX8_step_76 : decode cX8_step 76 = .ok (.iload_n 1, 1) := by decide +kernel
theorem dX8_step_77 : decode cX8_step 77 = .ok (.iaload, 1) := by decide +kernel
theorem dX8_step_78 : decode cX8_step 78 = .ok (.invokestatic 146, 3) := by decide +kernel
theorem dX8_step_81 : decode cX8_step 81 = .ok (.ireturn, 1) := by decide +kernel
theorem dX8_call_0 : decode cX8_call 0 = .ok (.aload_n 0, 1) := by decide +kernel
theorem dX8_call_1 : decode cX8_call 1 = .ok (.getfield 19, 3) := by decide +kernel
theorem dX8_call_4 : decode cX8_call 4 = .ok (.iload_n 1, 1) := by decide +kernel
theorem dX8_call_5 : decode cX8_call 5 = .ok (.invokevirtual 126, 3) := by decide +kernel
theorem dX8_call_8 : decode cX8_call 8 = .ok (.ifCond .ne 5, 3) := by decide +kernel
theorem dX8_call_11 : decode cX8_call 11 = .ok (.iconst (-1), 1) := by decide +kernel
theorem dX8_call_12 : decode cX8_call 12 = .ok (.ireturn, 1) := by decide +kernel
theorem dX8_call_13 : decode cX8_call 13 = .ok (.aload_n 0, 1) := by decide +kernel
theorem dX8_call_14 : decode cX8_call 14 = .ok (.getfield 38, 3) := by decide +kernel
theorem dX8_call_17 : decode cX8_call 17 = .ok (.aload_n 0, 1) := by decide +kernel
theorem dX8_call_18 : decode cX8_call 18 = .ok (.getfield 28, 3) := by decide +kernel
theorem dX8_call_21 : decode cX8_call 21 = .ok (.invokevirtual 168, 3) := by decide +kernel
theorem dX8_call_24 : decode cX8_call 24 = .ok (.aload_n 0, 1) := by decide +kernel
theorem dX8_call_25 : decode cX8_call 25 = .ok (.getfield 28, 3) := by decide +kernel
theorem dX8_call_28 : decode cX8_call 28 = .ok (.iload_n 1, 1) := by decide +kernel
theorem dX8_call_29 : decode cX8_call 29 = .ok (.invokevirtual 176, 3) := by decide +kernel
theorem dX8_call_32 : decode cX8_call 32 = .ok (.ireturn, 1) := by decide +kernel
theorem dX8_cut_0 : decode cX8_cut 0 = .ok (.aload_n 0, 1) := by decide +kernel
theorem dX8_cut_1 : decode cX8_cut 1 = .ok (.getfield 19, 3) := by decide +kernel
theorem dX8_cut_4 : decode cX8_cut 4 = .ok (.iload_n 1, 1) := by decide +kernel
theorem dX8_cut_5 : decode cX8_cut 5 = .ok (.invokevirtual 126, 3) := by decide +kernel
theorem dX8_cut_8 : decode cX8_cut 8 = .ok (.ifCond .ne 5, 3) := by decide +kernel
theorem dX8_cut_11 : decode cX8_cut 11 = .ok (.iconst (-1), 1) := by decide +kernel
theorem dX8_cut_12 : decode cX8_cut 12 = .ok (.ireturn, 1) := by decide +kernel
theorem dX8_cut_13 : decode cX8_cut 13 = .ok (.aload_n 0, 1) := by decide +kernel
theorem dX8_cut_14 : decode cX8_cut 14 = .ok (.getfield 28, 3) := by decide +kernel
theorem dX8_cut_17 : decode cX8_cut 17 = .ok (.iload_n 1, 1) := by decide +kernel
theorem dX8_cut_18 : decode cX8_cut 18 = .ok (.invokevirtual 129, 3) := by decide +kernel
theorem dX8_cut_21 : decode cX8_cut 21 = .ok (.iconst 1, 1) := by decide +kernel
theorem dX8_cut_22 : decode cX8_cut 22 = .ok (.if_icmp .eq 6, 3) := by decide +kernel
theorem dX8_cut_25 : decode cX8_cut 25 = .ok (.bipush (-3), 2) := by decide +kernel
theorem dX8_cut_27 : decode cX8_cut 27 = .ok (.ireturn, 1) := by decide +kernel
theorem dX8_cut_28 : decode cX8_cut 28 = .ok (.aload_n 0, 1) := by decide +kernel
theorem dX8_cut_29 : decode cX8_cut 29 = .ok (.getfield 38, 3) := by decide +kernel
theorem dX8_cut_32 : decode cX8_cut 32 = .ok (.aload_n 0, 1) := by decide +kernel
theorem dX8_cut_33 : decode cX8_cut 33 = .ok (.getfield 28, 3) := by decide +kernel
theorem dX8_cut_36 : decode cX8_cut 36 = .ok (.invokevirtual 168, 3) := by decide +kernel
theorem dX8_cut_39 : decode cX8_cut 39 = .ok (.aload_n 0, 1) := by decide +kernel
theorem dX8_cut_40 : decode cX8_cut 40 = .ok (.getfield 28, 3) := by decide +kernel
theorem dX8_cut_43 : decode cX8_cut 43 = .ok (.iload_n 1, 1) := by decide +kernel
theorem dX8_cut_44 : decode cX8_cut 44 = .ok (.invokevirtual 179, 3) := by decide +kernel
theorem dX8_cut_47 : decode cX8_cut 47 = .ok (.aload_n 0, 1) := by decide +kernel
theorem dX8_cut_48 : decode cX8_cut 48 = .ok (.getfield 28, 3) := by decide +kernel
theorem dX8_cut_51 : decode cX8_cut 51 = .ok (.iconst 1, 1) := by decide +kernel
theorem dX8_cut_52 : decode cX8_cut 52 = .ok (.invokevirtual 115, 3) := by decide +kernel
theorem dX8_cut_55 : decode cX8_cut 55 = .ok (.invokestatic 183, 3) := by decide +kernel
theorem dX8_cut_58 : decode cX8_cut 58 = .ok (.ireturn, 1) := by decide +kernel
theorem dX8_undo_0 : decode cX8_undo 0 = .ok (.aload_n 0, 1) := by decide +kernel
theorem dX8_undo_1 : decode cX8_undo 1 = .ok (.getfield 38, 3) := by decide +kernel
theorem dX8_undo_4 : decode cX8_undo 4 = .ok (.aload_n 0, 1) := by decide +kernel
theorem dX8_undo_5 : decode cX8_undo 5 = .ok (.getfield 28, 3) := by decide +kernel
theorem dX8_undo_8 : decode cX8_undo 8 = .ok (.invokevirtual 188, 3) := by decide +kernel
theorem dX8_undo_11 : decode cX8_undo 11 = .ok (.ifCond .eq 13, 3) := by decide +kernel
theorem dX8_undo_14 : decode cX8_undo 14 = .ok (.aload_n 0, 1) := by decide +kernel
theorem dX8_undo_15 : decode cX8_undo 15 = .ok (.getfield 38, 3) := by decide +kernel
theorem dX8_undo_18 : decode cX8_undo 18 = .ok (.getfield 122, 3) := by decide +kernel
theorem dX8_undo_21 : decode cX8_undo 21 = .ok (.goto 5, 3) := by decide +kernel
theorem dX8_undo_24 : decode cX8_undo 24 = .ok (.bipush (-3), 2) := by decide +kernel
theorem dX8_undo_26 : decode cX8_undo 26 = .ok (.ireturn, 1) := by decide +kernel
theorem dX8_far_0 : decode cX8_far 0 = .ok (.aload_n 0, 1) := by decide +kernel
theorem dX8_far_1 : decode cX8_far 1 = .ok (.getfield 19, 3) := by decide +kernel
theorem dX8_far_4 : decode cX8_far 4 = .ok (.iload_n 1, 1) := by decide +kernel
theorem dX8_far_5 : decode cX8_far 5 = .ok (.invokevirtual 139, 3) := by decide +kernel
theorem dX8_far_8 : decode cX8_far 8 = .ok (.ifCond .eq 18, 3) := by decide +kernel
theorem dX8_far_11 : decode cX8_far 11 = .ok (.aload_n 0, 1) := by decide +kernel
theorem dX8_far_12 : decode cX8_far 12 = .ok (.getfield 53, 3) := by decide +kernel
theorem dX8_far_15 : decode cX8_far 15 = .ok (.aload_n 0, 1) := by decide +kernel
theorem dX8_far_16 : decode cX8_far 16 = .ok (.getfield 28, 3) := by decide +kernel
theorem dX8_far_19 : decode cX8_far 19 = .ok (.iload_n 1, 1) := by decide +kernel
theorem dX8_far_20 : decode cX8_far 20 = .ok (.invokevirtual 192, 3) := by decide +kernel
theorem dX8_far_23 : decode cX8_far 23 = .ok (.goto 4, 3) := by decide +kernel
theorem dX8_far_26 : decode cX8_far 26 = .ok (.iconst (-1), 1) := by decide +kernel
theorem dX8_far_27 : decode cX8_far 27 = .ok (.ireturn, 1) := by decide +kernel
theorem dX8_reach_0 : decode cX8_reach 0 = .ok (.aload_n 0, 1) := by decide +kernel
theorem dX8_reach_1 : decode cX8_reach 1 = .ok (.getfield 19, 3) := by decide +kernel
theorem dX8_reach_4 : decode cX8_reach 4 = .ok (.iload_n 1, 1) := by decide +kernel
theorem dX8_reach_5 : decode cX8_reach 5 = .ok (.invokevirtual 139, 3) := by decide +kernel
theorem dX8_reach_8 : decode cX8_reach 8 = .ok (.ifCond .ne 5, 3) := by decide +kernel
theorem dX8_reach_11 : decode cX8_reach 11 = .ok (.iconst (-1), 1) := by decide +kernel
theorem dX8_reach_12 : decode cX8_reach 12 = .ok (.ireturn, 1) := by decide +kernel
theorem dX8_reach_13 : decode cX8_reach 13 = .ok (.iload_n 2, 1) := by decide +kernel
theorem dX8_reach_14 : decode cX8_reach 14 = .ok (.ifCond .lt 9, 3) := by decide +kernel
theorem dX8_reach_17 : decode cX8_reach 17 = .ok (.iload_n 2, 1) := by decide +kernel
theorem dX8_reach_18 : decode cX8_reach 18 = .ok (.bipush 9, 2) := by decide +kernel
theorem dX8_reach_20 : decode cX8_reach 20 = .ok (.if_icmp .le 8, 3) := by decide +kernel
theorem dX8_reach_23 : decode cX8_reach 23 = .ok (.bipush (-2), 2) := by decide +kernel
theorem dX8_reach_25 : decode cX8_reach 25 = .ok (.goto 16, 3) := by decide +kernel
theorem dX8_reach_28 : decode cX8_reach 28 = .ok (.aload_n 0, 1) := by decide +kernel
theorem dX8_reach_29 : decode cX8_reach 29 = .ok (.getfield 53, 3) := by decide +kernel
theorem dX8_reach_32 : decode cX8_reach 32 = .ok (.aload_n 0, 1) := by decide +kernel
theorem dX8_reach_33 : decode cX8_reach 33 = .ok (.getfield 28, 3) := by decide +kernel
theorem dX8_reach_36 : decode cX8_reach 36 = .ok (.iload_n 1, 1) := by decide +kernel
theorem dX8_reach_37 : decode cX8_reach 37 = .ok (.iload_n 2, 1) := by decide +kernel
theorem dX8_reach_38 : decode cX8_reach 38 = .ok (.invokevirtual 196, 3) := by decide +kernel
theorem dX8_reach_41 : decode cX8_reach 41 = .ok (.ireturn, 1) := by decide +kernel
theorem dX8_again_0 : decode cX8_again 0 = .ok (.aload_n 0, 1) := by decide +kernel
theorem dX8_again_1 : decode cX8_again 1 = .ok (.getfield 19, 3) := by decide +kernel
theorem dX8_again_4 : decode cX8_again 4 = .ok (.iload_n 1, 1) := by decide +kernel
theorem dX8_again_5 : decode cX8_again 5 = .ok (.invokevirtual 139, 3) := by decide +kernel
theorem dX8_again_8 : decode cX8_again 8 = .ok (.ifCond .ne 5, 3) := by decide +kernel
theorem dX8_again_11 : decode cX8_again 11 = .ok (.iconst (-1), 1) := by decide +kernel
theorem dX8_again_12 : decode cX8_again 12 = .ok (.ireturn, 1) := by decide +kernel
theorem dX8_again_13 : decode cX8_again 13 = .ok (.iload_n 2, 1) := by decide +kernel
theorem dX8_again_14 : decode cX8_again 14 = .ok (.invokestatic 132, 3) := by decide +kernel
theorem dX8_again_17 : decode cX8_again 17 = .ok (.ifCond .eq 12, 3) := by decide +kernel
theorem dX8_again_20 : decode cX8_again 20 = .ok (.aload_n 0, 1) := by decide +kernel
theorem dX8_again_21 : decode cX8_again 21 = .ok (.iload_n 1, 1) := by decide +kernel
theorem dX8_again_22 : decode cX8_again 22 = .ok (.iload_n 2, 1) := by decide +kernel
theorem dX8_again_23 : decode cX8_again 23 = .ok (.invokevirtual 200, 3) := by decide +kernel
theorem dX8_again_26 : decode cX8_again 26 = .ok (.goto 5, 3) := by decide +kernel
theorem dX8_again_29 : decode cX8_again 29 = .ok (.bipush (-2), 2) := by decide +kernel
theorem dX8_again_31 : decode cX8_again 31 = .ok (.ireturn, 1) := by decide +kernel
theorem dX8_alike_0 : decode cX8_alike 0 = .ok (.aload_n 0, 1) := by decide +kernel
theorem dX8_alike_1 : decode cX8_alike 1 = .ok (.getfield 19, 3) := by decide +kernel
theorem dX8_alike_4 : decode cX8_alike 4 = .ok (.iload_n 1, 1) := by decide +kernel
theorem dX8_alike_5 : decode cX8_alike 5 = .ok (.invokevirtual 126, 3) := by decide +kernel
theorem dX8_alike_8 : decode cX8_alike 8 = .ok (.ifCond .ne 5, 3) := by decide +kernel
theorem dX8_alike_11 : decode cX8_alike 11 = .ok (.iconst (-1), 1) := by decide +kernel
theorem dX8_alike_12 : decode cX8_alike 12 = .ok (.ireturn, 1) := by decide +kernel
theorem dX8_alike_13 : decode cX8_alike 13 = .ok (.iconst 0, 1) := by decide +kernel
theorem dX8_alike_14 : decode cX8_alike 14 = .ok (.istore_n 2, 1) := by decide +kernel
theorem dX8_alike_15 : decode cX8_alike 15 = .ok (.iconst 0, 1) := by decide +kernel
theorem dX8_alike_16 : decode cX8_alike 16 = .ok (.istore_n 3, 1) := by decide +kernel
theorem dX8_alike_17 : decode cX8_alike 17 = .ok (.iload_n 3, 1) := by decide +kernel
theorem dX8_alike_18 : decode cX8_alike 18 = .ok (.aload_n 0, 1) := by decide +kernel
theorem dX8_alike_19 : decode cX8_alike 19 = .ok (.getfield 19, 3) := by decide +kernel
theorem dX8_alike_22 : decode cX8_alike 22 = .ok (.getfield 204, 3) := by decide +kernel
theorem dX8_alike_25 : decode cX8_alike 25 = .ok (.if_icmp .ge 24, 3) := by decide +kernel
theorem dX8_alike_28 : decode cX8_alike 28 = .ok (.aload_n 0, 1) := by decide +kernel
theorem dX8_alike_29 : decode cX8_alike 29 = .ok (.iload_n 1, 1) := by decide +kernel
theorem dX8_alike_30 : decode cX8_alike 30 = .ok (.iload_n 3, 1) := by decide +kernel
theorem dX8_alike_31 : decode cX8_alike 31 = .ok (.invokevirtual 207, 3) := by decide +kernel
theorem dX8_alike_34 : decode cX8_alike 34 = .ok (.ifCond .eq 9, 3) := by decide +kernel
theorem dX8_alike_37 : decode cX8_alike 37 = .ok (.iload_n 2, 1) := by decide +kernel
theorem dX8_alike_38 : decode cX8_alike 38 = .ok (.iconst 1, 1) := by decide +kernel
theorem dX8_alike_39 : decode cX8_alike 39 = .ok (.iload_n 3, 1) := by decide +kernel
theorem dX8_alike_40 : decode cX8_alike 40 = .ok (.ishl, 1) := by decide +kernel
theorem dX8_alike_41 : decode cX8_alike 41 = .ok (.ior, 1) := by decide +kernel
theorem dX8_alike_42 : decode cX8_alike 42 = .ok (.istore_n 2, 1) := by decide +kernel
theorem dX8_alike_43 : decode cX8_alike 43 = .ok (.iinc 3 1, 3) := by decide +kernel
theorem dX8_alike_46 : decode cX8_alike 46 = .ok (.goto (-29), 3) := by decide +kernel
theorem dX8_alike_49 : decode cX8_alike 49 = .ok (.iload_n 2, 1) := by decide +kernel
theorem dX8_alike_50 : decode cX8_alike 50 = .ok (.ireturn, 1) := by decide +kernel
theorem dX8_calls_0 : decode cX8_calls 0 = .ok (.iload_n 1, 1) := by decide +kernel
theorem dX8_calls_1 : decode cX8_calls 1 = .ok (.ifCond .ne 15, 3) := by decide +kernel
theorem dX8_calls_4 : decode cX8_calls 4 = .ok (.aload_n 0, 1) := by decide +kernel
theorem dX8_calls_5 : decode cX8_calls 5 = .ok (.getfield 60, 3) := by decide +kernel
theorem dX8_calls_8 : decode cX8_calls 8 = .ok (.aload_n 0, 1) := by decide +kernel
theorem dX8_calls_9 : decode cX8_calls 9 = .ok (.getfield 28, 3) := by decide +kernel
theorem dX8_calls_12 : decode cX8_calls 12 = .ok (.invokevirtual 210, 3) := by decide +kernel
theorem dX8_calls_15 : decode cX8_calls 15 = .ok (.ireturn, 1) := by decide +kernel
theorem dX8_calls_16 : decode cX8_calls 16 = .ok (.iload_n 1, 1) := by decide +kernel
theorem dX8_calls_17 : decode cX8_calls 17 = .ok (.iconst 1, 1) := by decide +kernel
theorem dX8_calls_18 : decode cX8_calls 18 = .ok (.if_icmp .ne 20, 3) := by decide +kernel
theorem dX8_calls_21 : decode cX8_calls 21 = .ok (.aload_n 0, 1) := by decide +kernel
theorem dX8_calls_22 : decode cX8_calls 22 = .ok (.getfield 60, 3) := by decide +kernel
theorem dX8_calls_25 : decode cX8_calls 25 = .ok (.aload_n 0, 1) := by decide +kernel
theorem dX8_calls_26 : decode cX8_calls 26 = .ok (.getfield 28, 3) := by decide +kernel
theorem dX8_calls_29 : decode cX8_calls 29 = .ok (.invokevirtual 210, 3) := by decide +kernel
theorem dX8_calls_32 : decode cX8_calls 32 = .ok (.invokestatic 183, 3) := by decide +kernel
theorem dX8_calls_35 : decode cX8_calls 35 = .ok (.goto 5, 3) := by decide +kernel
theorem dX8_calls_38 : decode cX8_calls 38 = .ok (.bipush (-2), 2) := by decide +kernel
theorem dX8_calls_40 : decode cX8_calls 40 = .ok (.ireturn, 1) := by decide +kernel
theorem dX8_match_0 : decode cX8_match 0 = .ok (.iload_n 1, 1) := by decide +kernel
theorem dX8_match_1 : decode cX8_match 1 = .ok (.ifCond .eq 11, 3) := by decide +kernel
theorem dX8_match_4 : decode cX8_match 4 = .ok (.iload_n 1, 1) := by decide +kernel
theorem dX8_match_5 : decode cX8_match 5 = .ok (.iconst 1, 1) := by decide +kernel
theorem dX8_match_6 : decode cX8_match 6 = .ok (.if_icmp .eq 6, 3) := by decide +kernel
theorem dX8_match_9 : decode cX8_match 9 = .ok (.bipush (-2), 2) := by decide +kernel
theorem dX8_match_11 : decode cX8_match 11 = .ok (.ireturn, 1) := by decide +kernel
theorem dX8_match_12 : decode cX8_match 12 = .ok (.iconst 0, 1) := by decide +kernel
theorem dX8_match_13 : decode cX8_match 13 = .ok (.istore_n 2, 1) := by decide +kernel
theorem dX8_match_14 : decode cX8_match 14 = .ok (.aload_n 0, 1) := by decide +kernel
theorem dX8_match_15 : decode cX8_match 15 = .ok (.iconst 0, 1) := by decide +kernel
theorem dX8_match_16 : decode cX8_match 16 = .ok (.invokevirtual 214, 3) := by decide +kernel
theorem dX8_match_19 : decode cX8_match 19 = .ok (.istore_n 3, 1) := by decide +kernel
theorem dX8_match_20 : decode cX8_match 20 = .ok (.iconst 1, 1) := by decide +kernel
theorem dX8_match_21 : decode cX8_match 21 = .ok (.istore 4, 2) := by decide +kernel
theorem dX8_match_23 : decode cX8_match 23 = .ok (.iload 4, 2) := by decide +kernel
theorem dX8_match_25 : decode cX8_match 25 = .ok (.aload_n 0, 1) := by decide +kernel
theorem dX8_match_26 : decode cX8_match 26 = .ok (.getfield 19, 3) := by decide +kernel
theorem dX8_match_29 : decode cX8_match 29 = .ok (.getfield 106, 3) := by decide +kernel
theorem dX8_match_32 : decode cX8_match 32 = .ok (.if_icmp .ge 29, 3) := by decide +kernel
theorem dX8_match_35 : decode cX8_match 35 = .ok (.aload_n 0, 1) := by decide +kernel
theorem dX8_match_36 : decode cX8_match 36 = .ok (.iload 4, 2) := by decide +kernel
theorem dX8_match_38 : decode cX8_match 38 = .ok (.invokevirtual 214, 3) := by decide +kernel
theorem dX8_match_41 : decode cX8_match 41 = .ok (.istore 5, 2) := by decide +kernel
theorem dX8_match_43 : decode cX8_match 43 = .ok (.iload 5, 2) := by decide +kernel
theorem dX8_match_45 : decode cX8_match 45 = .ok (.iload_n 3, 1) := by decide +kernel
theorem dX8_match_46 : decode cX8_match 46 = .ok (.if_icmp .ge 9, 3) := by decide +kernel
theorem dX8_match_49 : decode cX8_match 49 = .ok (.iload 5, 2) := by decide +kernel
theorem dX8_match_51 : decode cX8_match 51 = .ok (.istore_n 3, 1) := by decide +kernel
theorem dX8_match_52 : decode cX8_match 52 = .ok (.iload 4, 2) := by decide +kernel
theorem dX8_match_54 : decode cX8_match 54 = .ok (.istore_n 2, 1) := by decide +kernel
theorem dX8_match_55 : decode cX8_match 55 = .ok (.iinc 4 1, 3) := by decide +kernel
theorem dX8_match_58 : decode cX8_match 58 = .ok (.goto (-35), 3) := by decide +kernel
theorem dX8_match_61 : decode cX8_match 61 = .ok (.iload_n 1, 1) := by decide +kernel
theorem dX8_match_62 : decode cX8_match 62 = .ok (.ifCond .ne 7, 3) := by decide +kernel
theorem dX8_match_65 : decode cX8_match 65 = .ok (.iload_n 2, 1) := by decide +kernel
theorem dX8_match_66 : decode cX8_match 66 = .ok (.goto 4, 3) := by decide +kernel
theorem dX8_match_69 : decode cX8_match 69 = .ok (.iload_n 3, 1) := by decide +kernel
theorem dX8_match_70 : decode cX8_match 70 = .ok (.ireturn, 1) := by decide +kernel
theorem dX8_judge_0 : decode cX8_judge 0 = .ok (.iload_n 1, 1) := by decide +kernel
theorem dX8_judge_1 : decode cX8_judge 1 = .ok (.iconst 1, 1) := by decide +kernel
theorem dX8_judge_2 : decode cX8_judge 2 = .ok (.if_icmp .lt 24, 3) := by decide +kernel
theorem dX8_judge_5 : decode cX8_judge 5 = .ok (.iload_n 1, 1) := by decide +kernel
theorem dX8_judge_6 : decode cX8_judge 6 = .ok (.iconst 4, 1) := by decide +kernel
theorem dX8_judge_7 : decode cX8_judge 7 = .ok (.if_icmp .gt 19, 3) := by decide +kernel
theorem dX8_judge_10 : decode cX8_judge 10 = .ok (.lload_n 2, 1) := by decide +kernel
theorem dX8_judge_11 : decode cX8_judge 11 = .ok (.lconst 0, 1) := by decide +kernel
theorem dX8_judge_12 : decode cX8_judge 12 = .ok (.lcmp, 1) := by decide +kernel
theorem dX8_judge_13 : decode cX8_judge 13 = .ok (.ifCond .lt 13, 3) := by decide +kernel
theorem dX8_judge_16 : decode cX8_judge 16 = .ok (.lload_n 2, 1) := by decide +kernel
theorem dX8_judge_17 : decode cX8_judge 17 = .ok (.getstatic 217, 3) := by decide +kernel
theorem dX8_judge_20 : decode cX8_judge 20 = .ok (.iload_n 1, 1) := by decide +kernel
theorem dX8_judge_21 : decode cX8_judge 21 = .ok (.laload, 1) := by decide +kernel
theorem dX8_judge_22 : decode cX8_judge 22 = .ok (.lcmp, 1) := by decide +kernel
theorem dX8_judge_23 : decode cX8_judge 23 = .ok (.ifCond .lt 6, 3) := by decide +kernel
theorem dX8_judge_26 : decode cX8_judge 26 = .ok (.bipush (-2), 2) := by decide +kernel
theorem dX8_judge_28 : decode cX8_judge 28 = .ok (.ireturn, 1) := by decide +kernel
theorem dX8_judge_29 : decode cX8_judge 29 = .ok (.aload_n 0, 1) := by decide +kernel
theorem dX8_judge_30 : decode cX8_judge 30 = .ok (.getfield 32, 3) := by decide +kernel
theorem dX8_judge_33 : decode cX8_judge 33 = .ok (.aload_n 0, 1) := by decide +kernel
theorem dX8_judge_34 : decode cX8_judge 34 = .ok (.getfield 28, 3) := by decide +kernel
theorem dX8_judge_37 : decode cX8_judge 37 = .ok (.invokevirtual 221, 3) := by decide +kernel
theorem dX8_judge_40 : decode cX8_judge 40 = .ok (.iconst 0, 1) := by decide +kernel
theorem dX8_judge_41 : decode cX8_judge 41 = .ok (.istore 4, 2) := by decide +kernel
theorem dX8_judge_43 : decode cX8_judge 43 = .ok (.iload 4, 2) := by decide +kernel
theorem dX8_judge_45 : decode cX8_judge 45 = .ok (.iload_n 1, 1) := by decide +kernel
theorem dX8_judge_46 : decode cX8_judge 46 = .ok (.if_icmp .ge 56, 3) := by decide +kernel
theorem dX8_judge_49 : decode cX8_judge 49 = .ok (.lload_n 2, 1) := by decide +kernel
theorem dX8_judge_50 : decode cX8_judge 50 = .ok (.getstatic 217, 3) := by decide +kernel
theorem dX8_judge_53 : decode cX8_judge 53 = .ok (.iload_n 1, 1) := by decide +kernel
theorem dX8_judge_54 : decode cX8_judge 54 = .ok (.iconst 1, 1) := by decide +kernel
theorem dX8_judge_55 : decode cX8_judge 55 = .ok (.isub, 1) := by decide +kernel
theorem dX8_judge_56 : decode cX8_judge 56 = .ok (.iload 4, 2) := by decide +kernel
theorem dX8_judge_58 : decode cX8_judge 58 = .ok (.isub, 1) := by decide +kernel
theorem dX8_judge_59 : decode cX8_judge 59 = .ok (.laload, 1) := by decide +kernel
theorem dX8_judge_60 : decode cX8_judge 60 = .ok (.ldiv, 1) := by decide +kernel
theorem dX8_judge_61 : decode cX8_judge 61 = .ok (.ldc2_w 224, 3) := by decide +kernel
theorem dX8_judge_64 : decode cX8_judge 64 = .ok (.lrem, 1) := by decide +kernel
theorem dX8_judge_65 : decode cX8_judge 65 = .ok (.l2i, 1) := by decide +kernel
theorem dX8_judge_66 : decode cX8_judge 66 = .ok (.istore 5, 2) := by decide +kernel
theorem dX8_judge_68 : decode cX8_judge 68 = .ok (.aload_n 0, 1) := by decide +kernel
theorem dX8_judge_69 : decode cX8_judge 69 = .ok (.iload 5, 2) := by decide +kernel
theorem dX8_judge_71 : decode cX8_judge 71 = .ok (.bipush 100, 2) := by decide +kernel
theorem dX8_judge_73 : decode cX8_judge 73 = .ok (.idiv, 1) := by decide +kernel
theorem dX8_judge_74 : decode cX8_judge 74 = .ok (.iload 5, 2) := by decide +kernel
theorem dX8_judge_76 : decode cX8_judge 76 = .ok (.bipush 10, 2) := by decide +kernel
theorem dX8_judge_78 : decode cX8_judge 78 = .ok (.idiv, 1) := by decide +kernel
theorem dX8_judge_79 : decode cX8_judge 79 = .ok (.bipush 10, 2) := by decide +kernel
theorem dX8_judge_81 : decode cX8_judge 81 = .ok (.irem, 1) := by decide +kernel
theorem dX8_judge_82 : decode cX8_judge 82 = .ok (.iload 5, 2) := by decide +kernel
theorem dX8_judge_84 : decode cX8_judge 84 = .ok (.bipush 10, 2) := by decide +kernel
theorem dX8_judge_86 : decode cX8_judge 86 = .ok (.irem, 1) := by decide +kernel
theorem dX8_judge_87 : decode cX8_judge 87 = .ok (.invokevirtual 226, 3) := by decide +kernel
theorem dX8_judge_90 : decode cX8_judge 90 = .ok (.ifCond .ne 6, 3) := by decide +kernel
theorem dX8_judge_93 : decode cX8_judge 93 = .ok (.iload 4, 2) := by decide +kernel
theorem dX8_judge_95 : decode cX8_judge 95 = .ok (.ireturn, 1) := by decide +kernel
theorem dX8_judge_96 : decode cX8_judge 96 = .ok (.iinc 4 1, 3) := by decide +kernel
theorem dX8_judge_99 : decode cX8_judge 99 = .ok (.goto (-56), 3) := by decide +kernel
theorem dX8_judge_102 : decode cX8_judge 102 = .ok (.bipush (-9), 2) := by decide +kernel
theorem dX8_judge_104 : decode cX8_judge 104 = .ok (.ireturn, 1) := by decide +kernel
theorem dX8_share_0 : decode cX8_share 0 = .ok (.aload_n 0, 1) := by decide +kernel
theorem dX8_share_1 : decode cX8_share 1 = .ok (.getfield 19, 3) := by decide +kernel
theorem dX8_share_4 : decode cX8_share 4 = .ok (.iload_n 1, 1) := by decide +kernel
theorem dX8_share_5 : decode cX8_share 5 = .ok (.invokevirtual 139, 3) := by decide +kernel
theorem dX8_share_8 : decode cX8_share 8 = .ok (.ifCond .ne 5, 3) := by decide +kernel
theorem dX8_share_11 : decode cX8_share 11 = .ok (.iconst (-1), 1) := by decide +kernel
theorem dX8_share_12 : decode cX8_share 12 = .ok (.ireturn, 1) := by decide +kernel
theorem dX8_share_13 : decode cX8_share 13 = .ok (.aload_n 0, 1) := by decide +kernel
theorem dX8_share_14 : decode cX8_share 14 = .ok (.getfield 53, 3) := by decide +kernel
theorem dX8_share_17 : decode cX8_share 17 = .ok (.aload_n 0, 1) := by decide +kernel
theorem dX8_share_18 : decode cX8_share 18 = .ok (.getfield 28, 3) := by decide +kernel
theorem dX8_share_21 : decode cX8_share 21 = .ok (.iload_n 1, 1) := by decide +kernel
theorem dX8_share_22 : decode cX8_share 22 = .ok (.invokevirtual 230, 3) := by decide +kernel
theorem dX8_share_25 : decode cX8_share 25 = .ok (.bipush 60, 2) := by decide +kernel
theorem dX8_share_27 : decode cX8_share 27 = .ok (.iload_n 2, 1) := by decide +kernel
theorem dX8_share_28 : decode cX8_share 28 = .ok (.invokestatic 233, 3) := by decide +kernel
theorem dX8_share_31 : decode cX8_share 31 = .ok (.ireturn, 1) := by decide +kernel
theorem dX8_see_0 : decode cX8_see 0 = .ok (.iload_n 1, 1) := by decide +kernel
theorem dX8_see_1 : decode cX8_see 1 = .ok (.invokestatic 236, 3) := by decide +kernel
theorem dX8_see_4 : decode cX8_see 4 = .ok (.ifCond .eq 19, 3) := by decide +kernel
theorem dX8_see_7 : decode cX8_see 7 = .ok (.iload_n 2, 1) := by decide +kernel
theorem dX8_see_8 : decode cX8_see 8 = .ok (.invokestatic 236, 3) := by decide +kernel
theorem dX8_see_11 : decode cX8_see 11 = .ok (.ifCond .eq 12, 3) := by decide +kernel
theorem dX8_see_14 : decode cX8_see 14 = .ok (.iload_n 3, 1) := by decide +kernel
theorem dX8_see_15 : decode cX8_see 15 = .ok (.ifCond .lt 8, 3) := by decide +kernel
theorem dX8_see_18 : decode cX8_see 18 = .ok (.iload_n 3, 1) := by decide +kernel
theorem dX8_see_19 : decode cX8_see 19 = .ok (.iconst 4, 1) := by decide +kernel
theorem dX8_see_20 : decode cX8_see 20 = .ok (.if_icmp .lt 6, 3) := by decide +kernel
theorem dX8_see_23 : decode cX8_see 23 = .ok (.bipush (-2), 2) := by decide +kernel
