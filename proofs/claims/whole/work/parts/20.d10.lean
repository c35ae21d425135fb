theorem dX10_init_0 : decode cX10_init 0 = .ok (.aload_n 0, 1) := by decide +kernel
theorem dX10_init_1 : decode cX10_init 1 = .ok (.invokespecial 3, 3) := by decide +kernel
theorem dX10_init_4 : decode cX10_init 4 = .ok (.aload_n 0, 1) := by decide +kernel
theorem dX10_init_5 : decode cX10_init 5 = .ok (.bipush 17, 2) := by decide +kernel
theorem dX10_init_7 : decode cX10_init 7 = .ok (.newarray .int, 2) := by decide +kernel
theorem dX10_init_9 : decode cX10_init 9 = .ok (.putfield 11, 3) := by decide +kernel
theorem dX10_init_12 : decode cX10_init 12 = .ok (.aload_n 0, 1) := by decide +kernel
theorem dX10_init_13 : decode cX10_init 13 = .ok (.bipush 25, 2) := by decide +kernel
theorem dX10_init_15 : decode cX10_init 15 = .ok (.newarray .int, 2) := by decide +kernel
theorem dX10_init_17 : decode cX10_init 17 = .ok (.putfield 15, 3) := by decide +kernel
theorem dX10_init_20 : decode cX10_init 20 = .ok (.aload_n 0, 1) := by decide +kernel
theorem dX10_init_21 : decode cX10_init 21 = .ok (.bipush 25, 2) := by decide +kernel
theorem dX10_init_23 : decode cX10_init 23 = .ok (.newarray .int, 2) := by decide +kernel
theorem dX10_init_25 : decode cX10_init 25 = .ok (.putfield 18, 3) := by decide +kernel
theorem dX10_init_28 : decode cX10_init 28 = .ok (.aload_n 0, 1) := by decide +kernel
theorem dX10_init_29 : decode cX10_init 29 = .ok (.bipush 25, 2) := by decide +kernel
theorem dX10_init_31 : decode cX10_init 31 = .ok (.newarray .int, 2) := by decide +kernel
theorem dX10_init_33 : decode cX10_init 33 = .ok (.putfield 21, 3) := by decide +kernel
theorem dX10_init_36 : decode cX10_init 36 = .ok (.aload_n 0, 1) := by decide +kernel
theorem dX10_init_37 : decode cX10_init 37 = .ok (.aload_n 1, 1) := by decide +kernel
theorem dX10_init_38 : decode cX10_init 38 = .ok (.putfield 24, 3) := by decide +kernel
theorem dX10_init_41 : decode cX10_init 41 = .ok (.aload_n 0, 1) := by decide +kernel
theorem dX10_init_42 : decode cX10_init 42 = .ok (.aload_n 2, 1) := by decide +kernel
theorem dX10_init_43 : decode cX10_init 43 = .ok (.putfield 28, 3) := by decide +kernel
theorem dX10_init_46 : decode cX10_init 46 = .ok (.return_, 1) := by decide +kernel
theorem dX10_wrong_0 : decode cX10_wrong 0 = .ok (.iconst 0, 1) := by decide +kernel
theorem dX10_wrong_1 : decode cX10_wrong 1 = .ok (.istore_n 2, 1) := by decide +kernel
theorem dX10_wrong_2 : decode cX10_wrong 2 = .ok (.iconst 0, 1) := by decide +kernel
theorem dX10_wrong_3 : decode cX10_wrong 3 = .ok (.istore_n 3, 1) := by decide +kernel
theorem dX10_wrong_4 : decode cX10_wrong 4 = .ok (.iload_n 3, 1) := by decide +kernel
theorem dX10_wrong_5 : decode cX10_wrong 5 = .ok (.aload_n 0, 1) := by decide +kernel
theorem dX10_wrong_6 : decode cX10_wrong 6 = .ok (.getfield 24, 3) := by decide +kernel
theorem dX10_wrong_9 : decode cX10_wrong 9 = .ok (.getfield 32, 3) := by decide +kernel
theorem dX10_wrong_12 : decode cX10_wrong 12 = .ok (.if_icmp .ge 27, 3) := by decide +kernel
theorem dX10_wrong_15 : decode cX10_wrong 15 = .ok (.iload_n 2, 1) := by decide +kernel
theorem dX10_wrong_16 : decode cX10_wrong 16 = .ok (.aload_n 0, 1) := by decide +kernel
theorem dX10_wrong_17 : decode cX10_wrong 17 = .ok (.getfield 28, 3) := by decide +kernel
theorem dX10_wrong_20 : decode cX10_wrong 20 = .ok (.getfield 38, 3) := by decide +kernel
theorem dX10_wrong_23 : decode cX10_wrong 23 = .ok (.iload_n 1, 1) := by decide +kernel
theorem dX10_wrong_24 : decode cX10_wrong 24 = .ok (.iload_n 3, 1) := by decide +kernel
theorem dX10_wrong_25 : decode cX10_wrong 25 = .ok (.ishr, 1) := by decide +kernel
theorem dX10_wrong_26 : decode cX10_wrong 26 = .ok (.iconst 1, 1) := by decide +kernel
theorem dX10_wrong_27 : decode cX10_wrong 27 = .ok (.iand, 1) := by decide +kernel
theorem dX10_wrong_28 : decode cX10_wrong 28 = .ok (.aaload, 1) := by decide +kernel
theorem dX10_wrong_29 : decode cX10_wrong 29 = .ok (.iload_n 3, 1) := by decide +kernel
theorem dX10_wrong_30 : decode cX10_wrong 30 = .ok (.iaload, 1) := by decide +kernel
theorem dX10_wrong_31 : decode cX10_wrong 31 = .ok (.iadd, 1) := by decide +kernel
theorem dX10_wrong_32 : decode cX10_wrong 32 = .ok (.istore_n 2, 1) := by decide +kernel
theorem dX10_wrong_33 : decode cX10_wrong 33 = .ok (.iinc 3 1, 3) := by decide +kernel
theorem dX10_wrong_36 : decode cX10_wrong 36 = .ok (.goto (-32), 3) := by decide +kernel
theorem dX10_wrong_39 : decode cX10_wrong 39 = .ok (.iload_n 2, 1) := by decide +kernel
theorem dX10_wrong_40 : decode cX10_wrong 40 = .ok (.ireturn, 1) := by decide +kernel
theorem dX10_harm_0 : decode cX10_harm 0 = .ok (.aload_n 0, 1) := by decide +kernel
theorem dX10_harm_1 : decode cX10_harm 1 = .ok (.aload_n 2, 1) := by decide +kernel
theorem dX10_harm_2 : decode cX10_harm 2 = .ok (.invokevirtual 44, 3) := by decide +kernel
theorem dX10_harm_5 : decode cX10_harm 5 = .ok (.aload_n 0, 1) := by decide +kernel
theorem dX10_harm_6 : decode cX10_harm 6 = .ok (.iload_n 1, 1) := by decide +kernel
theorem dX10_harm_7 : decode cX10_harm 7 = .ok (.invokevirtual 48, 3) := by decide +kernel
theorem dX10_harm_10 : decode cX10_harm 10 = .ok (.aload_n 0, 1) := by decide +kernel
theorem dX10_harm_11 : decode cX10_harm 11 = .ok (.getfield 52, 3) := by decide +kernel
theorem dX10_harm_14 : decode cX10_harm 14 = .ok (.aload_n 0, 1) := by decide +kernel
theorem dX10_harm_15 : decode cX10_harm 15 = .ok (.getfield 24, 3) := by decide +kernel
theorem dX10_harm_18 : decode cX10_harm 18 = .ok (.iload_n 1, 1) := by decide +kernel
theorem dX10_harm_19 : decode cX10_harm 19 = .ok (.invokevirtual 55, 3) := by decide +kernel
theorem dX10_harm_22 : decode cX10_harm 22 = .ok (.imul, 1) := by decide +kernel
theorem dX10_harm_23 : decode cX10_harm 23 = .ok (.iadd, 1) := by decide +kernel
theorem dX10_harm_24 : decode cX10_harm 24 = .ok (.aload_n 0, 1) := by decide +kernel
theorem dX10_harm_25 : decode cX10_harm 25 = .ok (.getfield 58, 3) := by decide +kernel
theorem dX10_harm_28 : decode cX10_harm 28 = .ok (.aload_n 0, 1) := by decide +kernel
theorem dX10_harm_29 : decode cX10_harm 29 = .ok (.getfield 24, 3) := by decide +kernel
theorem dX10_harm_32 : decode cX10_harm 32 = .ok (.iload_n 1, 1) := by decide +kernel
theorem dX10_harm_33 : decode cX10_harm 33 = .ok (.invokevirtual 61, 3) := by decide +kernel
theorem dX10_harm_36 : decode cX10_harm 36 = .ok (.imul, 1) := by decide +kernel
theorem dX10_harm_37 : decode cX10_harm 37 = .ok (.iadd, 1) := by decide +kernel
theorem dX10_harm_38 : decode cX10_harm 38 = .ok (.aload_n 0, 1) := by decide +kernel
theorem dX10_harm_39 : decode cX10_harm 39 = .ok (.getfield 64, 3) := by decide +kernel
theorem dX10_harm_42 : decode cX10_harm 42 = .ok (.aload_n 0, 1) := by decide +kernel
theorem dX10_harm_43 : decode cX10_harm 43 = .ok (.getfield 24, 3) := by decide +kernel
theorem dX10_harm_46 : decode cX10_harm 46 = .ok (.iload_n 1, 1) := by decide +kernel
theorem dX10_harm_47 : decode cX10_harm 47 = .ok (.invokevirtual 67, 3) := by decide +kernel
theorem dX10_harm_50 : decode cX10_harm 50 = .ok (.imul, 1) := by decide +kernel
theorem dX10_harm_51 : decode cX10_harm 51 = .ok (.iadd, 1) := by decide +kernel
theorem dX10_harm_52 : decode cX10_harm 52 = .ok (.ireturn, 1) := by decide +kernel
theorem dX10_heed_0 : decode cX10_heed 0 = .ok (.aload_n 0, 1) := by decide +kernel
theorem dX10_heed_1 : decode cX10_heed 1 = .ok (.aload_n 1, 1) := by decide +kernel
theorem dX10_heed_2 : decode cX10_heed 2 = .ok (.getfield 70, 3) := by decide +kernel
theorem dX10_heed_5 : decode cX10_heed 5 = .ok (.iconst 0, 1) := by decide +kernel
theorem dX10_heed_6 : decode cX10_heed 6 = .ok (.iaload, 1) := by decide +kernel
theorem dX10_heed_7 : decode cX10_heed 7 = .ok (.putfield 52, 3) := by decide +kernel
theorem dX10_heed_10 : decode cX10_heed 10 = .ok (.aload_n 0, 1) := by decide +kernel
theorem dX10_heed_11 : decode cX10_heed 11 = .ok (.aload_n 1, 1) := by decide +kernel
theorem dX10_heed_12 : decode cX10_heed 12 = .ok (.getfield 70, 3) := by decide +kernel
theorem dX10_heed_15 : decode cX10_heed 15 = .ok (.iconst 1, 1) := by decide +kernel
theorem dX10_heed_16 : decode cX10_heed 16 = .ok (.iaload, 1) := by decide +kernel
theorem dX10_heed_17 : decode cX10_heed 17 = .ok (.putfield 58, 3) := by decide +kernel
theorem dX10_heed_20 : decode cX10_heed 20 = .ok (.aload_n 0, 1) := by decide +kernel
theorem dX10_heed_21 : decode cX10_heed 21 = .ok (.aload_n 1, 1) := by decide +kernel
theorem dX10_heed_22 : decode cX10_heed 22 = .ok (.getfield 70, 3) := by decide +kernel
theorem dX10_heed_25 : decode cX10_heed 25 = .ok (.iconst 2, 1) := by decide +kernel
theorem dX10_heed_26 : decode cX10_heed 26 = .ok (.iaload, 1) := by decide +kernel
theorem dX10_heed_27 : decode cX10_heed 27 = .ok (.putfield 64, 3) := by decide +kernel
theorem dX10_heed_30 : decode cX10_heed 30 = .ok (.return_, 1) := by decide +kernel
theorem dX10_search_0 : decode cX10_search 0 = .ok (.aload_n 0, 1) := by decide +kernel
theorem dX10_search_1 : decode cX10_search 1 = .ok (.aload_n 1, 1) := by decide +kernel
theorem dX10_search_2 : decode cX10_search 2 = .ok (.invokevirtual 44, 3) := by decide +kernel
theorem dX10_search_5 : decode cX10_search 5 = .ok (.aload_n 0, 1) := by decide +kernel
theorem dX10_search_6 : decode cX10_search 6 = .ok (.getfield 11, 3) := by decide +kernel
theorem dX10_search_9 : decode cX10_search 9 = .ok (.iconst 0, 1) := by decide +kernel
theorem dX10_search_10 : decode cX10_search 10 = .ok (.iconst 0, 1) := by decide +kernel
theorem dX10_search_11 : decode cX10_search 11 = .ok (.iastore, 1) := by decide +kernel
theorem dX10_search_12 : decode cX10_search 12 = .ok (.iconst 0, 1) := by decide +kernel
theorem dX10_search_13 : decode cX10_search 13 = .ok (.istore_n 2, 1) := by decide +kernel
theorem dX10_search_14 : decode cX10_search 14 = .ok (.iload_n 2, 1) := by decide +kernel
theorem dX10_search_15 : decode cX10_search 15 = .ok (.aload_n 0, 1) := by decide +kernel
theorem dX10_search_16 : decode cX10_search 16 = .ok (.getfield 24, 3) := by decide +kernel
theorem dX10_search_19 : decode cX10_search 19 = .ok (.getfield 32, 3) := by decide +kernel
theorem dX10_search_22 : decode cX10_search 22 = .ok (.if_icmp .ge 45, 3) := by decide +kernel
theorem dX10_search_25 : decode cX10_search 25 = .ok (.iload_n 2, 1) := by decide +kernel
theorem dX10_search_26 : decode cX10_search 26 = .ok (.bipush 16, 2) := by decide +kernel
theorem dX10_search_28 : decode cX10_search 28 = .ok (.if_icmp .ge 39, 3) := by decide +kernel
theorem dX10_search_31 : decode cX10_search 31 = .ok (.aload_n 0, 1) := by decide +kernel
theorem dX10_search_32 : decode cX10_search 32 = .ok (.getfield 11, 3) := by decide +kernel
theorem dX10_search_35 : decode cX10_search 35 = .ok (.iload_n 2, 1) := by decide +kernel
theorem dX10_search_36 : decode cX10_search 36 = .ok (.iconst 1, 1) := by decide +kernel
theorem dX10_search_37 : decode cX10_search 37 = .ok (.iadd, 1) := by decide +kernel
theorem dX10_search_38 : decode cX10_search 38 = .ok (.aload_n 0, 1) := by decide +kernel
theorem dX10_search_39 : decode cX10_search 39 = .ok (.getfield 11, 3) := by decide +kernel
theorem dX10_search_42 : decode cX10_search 42 = .ok (.iload_n 2, 1) := by decide +kernel
theorem dX10_search_43 : decode cX10_search 43 = .ok (.iaload, 1) := by decide +kernel
theorem dX10_search_44 : decode cX10_search 44 = .ok (.aload_n 0, 1) := by decide +kernel
theorem dX10_search_45 : decode cX10_search 45 = .ok (.iload_n 2, 1) := by decide +kernel
theorem dX10_search_46 : decode cX10_search 46 = .ok (.iconst 0, 1) := by decide +kernel
theorem dX10_search_47 : decode cX10_search 47 = .ok (.invokevirtual 75, 3) := by decide +kernel
theorem dX10_search_50 : decode cX10_search 50 = .ok (.aload_n 0, 1) := by decide +kernel
theorem dX10_search_51 : decode cX10_search 51 = .ok (.iload_n 2, 1) := by decide +kernel
theorem dX10_search_52 : decode cX10_search 52 = .ok (.iconst 1, 1) := by decide +kernel
theorem dX10_search_53 : decode cX10_search 53 = .ok (.invokevirtual 75, 3) := by decide +kernel
theorem dX10_search_56 : decode cX10_search 56 = .ok (.invokestatic 79, 3) := by decide +kernel
theorem dX10_search_59 : decode cX10_search 59 = .ok (.iadd, 1) := by decide +kernel
theorem dX10_search_60 : decode cX10_search 60 = .ok (.iastore, 1) := by decide +kernel
theorem dX10_search_61 : decode cX10_search 61 = .ok (.iinc 2 1, 3) := by decide +kernel
theorem dX10_search_64 : decode cX10_search 64 = .ok (.goto (-50), 3) := by decide +kernel
theorem dX10_search_67 : decode cX10_search 67 = .ok (.aload_n 0, 1) := by decide +kernel
theorem dX10_search_68 : decode cX10_search 68 = .ok (.iconst 0, 1) := by decide +kernel
theorem dX10_search_69 : decode cX10_search 69 = .ok (.putfield 84, 3) := by decide +kernel
theorem dX10_search_72 : decode cX10_search 72 = .ok (.aload_n 0, 1) := by decide +kernel
theorem dX10_search_73 : decode cX10_search 73 = .ok (.ldc 87, 2) := by decide +kernel
theorem dX10_search_75 : decode cX10_search 75 = .ok (.putfield 88, 3) := by decide +kernel
theorem dX10_search_78 : decode cX10_search 78 = .ok (.aload_n 0, 1) := by decide +kernel
theorem dX10_search_79 : decode cX10_search 79 = .ok (.aload_n 0, 1) := by decide +kernel
theorem dX10_search_80 : decode cX10_search 80 = .ok (.getfield 24, 3) := by decide +kernel
theorem dX10_search_83 : decode cX10_search 83 = .ok (.getfield 32, 3) := by decide +kernel
theorem dX10_search_86 : decode cX10_search 86 = .ok (.iconst 1, 1) := by decide +kernel
theorem dX10_search_87 : decode cX10_search 87 = .ok (.isub, 1) := by decide +kernel
theorem dX10_search_88 : decode cX10_search 88 = .ok (.iconst 0, 1) := by decide +kernel
theorem dX10_search_89 : decode cX10_search 89 = .ok (.iconst 0, 1) := by decide +kernel
theorem dX10_search_90 : decode cX10_search 90 = .ok (.invokevirtual 91, 3) := by decide +kernel
theorem dX10_search_93 : decode cX10_search 93 = .ok (.return_, 1) := by decide +kernel
theorem dX10_ownCost_0 : decode cX10_ownCost 0 = .ok (.aload_n 0, 1) := by decide +kernel
theorem dX10_ownCost_1 : decode cX10_ownCost 1 = .ok (.getfield 24, 3) := by decide +kernel
theorem dX10_ownCost_4 : decode cX10_ownCost 4 = .ok (.getfield 95, 3) := by decide +kernel
theorem dX10_ownCost_7 : decode cX10_ownCost 7 = .ok (.iload_n 2, 1) := by decide +kernel
theorem dX10_ownCost_8 : decode cX10_ownCost 8 = .ok (.iaload, 1) := by decide +kernel
theorem dX10_ownCost_9 : decode cX10_ownCost 9 = .ok (.iload_n 1, 1) := by decide +kernel
theorem dX10_ownCost_10 : decode cX10_ownCost 10 = .ok (.ishr, 1) := by decide +kernel
theorem dX10_ownCost_11 : decode cX10_ownCost 11 = .ok (.iconst 1, 1) := by decide +kernel
theorem dX10_ownCost_12 : decode cX10_ownCost 12 = .ok (.iand, 1) := by decide +kernel
theorem dX10_ownCost_13 : decode cX10_ownCost 13 = .ok (.istore_n 3, 1) := by decide +kernel
theorem dX10_ownCost_14 : decode cX10_ownCost 14 = .ok (.aload_n 0, 1) := by decide +kernel
theorem dX10_ownCost_15 : decode cX10_ownCost 15 = .ok (.getfield 28, 3) := by decide +kernel
theorem dX10_ownCost_18 : decode cX10_ownCost 18 = .ok (.getfield 38, 3) := by decide +kernel
theorem dX10_ownCost_21 : decode cX10_ownCost 21 = .ok (.iload_n 2, 1) := by decide +kernel
theorem dX10_ownCost_22 : decode cX10_ownCost 22 = .ok (.aaload, 1) := by decide +kernel
theorem dX10_ownCost_23 : decode cX10_ownCost 23 = .ok (.iload_n 1, 1) := by decide +kernel
theorem dX10_ownCost_24 : decode cX10_ownCost 24 = .ok (.iaload, 1) := by decide +kernel
theorem dX10_ownCost_25 : decode cX10_ownCost 25 = .ok (.aload_n 0, 1) := by decide +kernel
theorem dX10_ownCost_26 : decode cX10_ownCost 26 = .ok (.getfield 52, 3) := by decide +kernel
theorem dX10_ownCost_29 : decode cX10_ownCost 29 = .ok (.iload_n 3, 1) := by decide +kernel
theorem dX10_ownCost_30 : decode cX10_ownCost 30 = .ok (.imul, 1) := by decide +kernel
theorem dX10_ownCost_31 : decode cX10_ownCost 31 = .ok (.iadd, 1) := by decide +kernel
theorem dX10_ownCost_32 : decode cX10_ownCost 32 = .ok (.ireturn, 1) := by decide +kernel
theorem dX10_choose_0 : decode cX10_choose 0 = .ok (.iload_n 1, 1) := by decide +kernel
theorem dX10_choose_1 : decode cX10_choose 1 = .ok (.ifCond .ge 14, 3) := by decide +kernel
theorem dX10_choose_4 : decode cX10_choose 4 = .ok (.aload_n 0, 1) := by decide +kernel
theorem dX10_choose_5 : decode cX10_choose 5 = .ok (.iload_n 2, 1) := by decide +kernel
theorem dX10_choose_6 : decode cX10_choose 6 = .ok (.putfield 84, 3) := by decide +kernel
theorem dX10_choose_9 : decode cX10_choose 9 = .ok (.aload_n 0, 1) := by decide +kernel
theorem dX10_choose_10 : decode cX10_choose 10 = .ok (.iload_n 3, 1) := by decide +kernel
theorem dX10_choose_11 : decode cX10_choose 11 = .ok (.putfield 88, 3) := by decide +kernel
theorem dX10_choose_14 : decode cX10_choose 14 = .ok (.return_, 1) := by decide +kernel
theorem dX10_choose_15 : decode cX10_choose 15 = .ok (.iconst 1, 1) := by decide +kernel
theorem dX10_choose_16 : decode cX10_choose 16 = .ok (.iload_n 1, 1) := by decide +kernel
theorem dX10_choose_17 : decode cX10_choose 17 = .ok (.ishl, 1) := by decide +kernel
theorem dX10_choose_18 : decode cX10_choose 18 = .ok (.istore 4, 2) := by decide +kernel
theorem dX10_choose_20 : decode cX10_choose 20 = .ok (.iload 4, 2) := by decide +kernel
theorem dX10_choose_22 : decode cX10_choose 22 = .ok (.iconst 1, 1) := by decide +kernel
theorem dX10_choose_23 : decode cX10_choose 23 = .ok (.isub, 1) := by decide +kernel
theorem dX10_choose_24 : decode cX10_choose 24 = .ok (.istore 5, 2) := by decide +kernel
theorem dX10_choose_26 : decode cX10_choose 26 = .ok (.iconst 0, 1) := by decide +kernel
theorem dX10_choose_27 : decode cX10_choose 27 = .ok (.istore 6, 2) := by decide +kernel
theorem dX10_choose_29 : decode cX10_choose 29 = .ok (.iload 6, 2) := by decide +kernel
theorem dX10_choose_31 : decode cX10_choose 31 = .ok (.iconst 2, 1) := by decide +kernel
theorem dX10_choose_32 : decode cX10_choose 32 = .ok (.if_icmp .ge 156, 3) := by decide +kernel
theorem dX10_choose_35 : decode cX10_choose 35 = .ok (.iload 6, 2) := by decide +kernel
theorem dX10_choose_37 : decode cX10_choose 37 = .ok (.ifCond .ne 7, 3) := by decide +kernel
theorem dX10_choose_40 : decode cX10_choose 40 = .ok (.iload_n 2, 1) := by decide +kernel
theorem dX10_choose_41 : decode cX10_choose 41 = .ok (.goto 7, 3) := by decide +kernel
theorem dX10_choose_44 : decode cX10_choose 44 = .ok (.iload_n 2, 1) := by decide +kernel
theorem dX10_choose_45 : decode cX10_choose 45 = .ok (.iload 4, 2) := by decide +kernel
theorem dX10_choose_47 : decode cX10_choose 47 = .ok (.ior, 1) := by decide +kernel
theorem dX10_choose_48 : decode cX10_choose 48 = .ok (.istore 7, 2) := by decide +kernel
theorem dX10_choose_50 : decode cX10_choose 50 = .ok (.aload_n 0, 1) := by decide +kernel
theorem dX10_choose_51 : decode cX10_choose 51 = .ok (.getfield 24, 3) := by decide +kernel
theorem dX10_choose_54 : decode cX10_choose 54 = .ok (.getfield 98, 3) := by decide +kernel
theorem dX10_choose_57 : decode cX10_choose 57 = .ok (.iload 5, 2) := by decide +kernel
theorem dX10_choose_59 : decode cX10_choose 59 = .ok (.iconst (-1), 1) := by decide +kernel
theorem dX10_choose_60 : decode cX10_choose 60 = .ok (.ixor, 1) := by decide +kernel
theorem dX10_choose_61 : decode cX10_choose 61 = .ok (.iand, 1) := by decide +kernel
theorem dX10_choose_62 : decode cX10_choose 62 = .ok (.iload 7, 2) := by decide +kernel
theorem dX10_choose_64 : decode cX10_choose 64 = .ok (.iconst (-1), 1) := by decide +kernel
theorem dX10_choose_65 : decode cX10_choose 65 = .ok (.ixor, 1) := by decide +kernel
theorem dX10_choose_66 : decode cX10_choose 66 = .ok (.iand, 1) := by decide +kernel
theorem dX10_choose_67 : decode cX10_choose 67 = .ok (.istore 8, 2) := by decide +kernel
theorem dX10_choose_69 : decode cX10_choose 69 = .ok (.iload 6, 2) := by decide +kernel
theorem dX10_choose_71 : decode cX10_choose 71 = .ok (.ifCond .ne 8, 3) := by decide +kernel
theorem dX10_choose_74 : decode cX10_choose 74 = .ok (.iload 7, 2) := by decide +kernel
theorem dX10_choose_76 : decode cX10_choose 76 = .ok (.goto 5, 3) := by decide +kernel
theorem dX10_choose_79 : decode cX10_choose 79 = .ok (.iload 8, 2) := by decide +kernel
theorem dX10_choose_81 : decode cX10_choose 81 = .ok (.istore 9, 2) := by decide +kernel
theorem dX10_choose_83 : decode cX10_choose 83 = .ok (.iload_n 3, 1) := by decide +kernel
theorem dX10_choose_84 : decode cX10_choose 84 = .ok (.aload_n 0, 1) := by decide +kernel
theorem dX10_choose_85 : decode cX10_choose 85 = .ok (.iload_n 1, 1) := by decide +kernel
theorem dX10_choose_86 : decode cX10_choose 86 = .ok (.iload 6, 2) := by decide +kernel
theorem dX10_choose_88 : decode cX10_choose 88 = .ok (.invokevirtual 75, 3) := by decide +kernel
theorem dX10_choose_91 : decode cX10_choose 91 = .ok (.iadd, 1) := by decide +kernel
theorem dX10_choose_92 : decode cX10_choose 92 = .ok (.aload_n 0, 1) := by decide +kernel
theorem dX10_choose_93 : decode cX10_choose 93 = .ok (.getfield 58, 3) := by decide +kernel
theorem dX10_choose_96 : decode cX10_choose 96 = .ok (.aload_n 0, 1) := by decide +kernel
theorem dX10_choose_97 : decode cX10_choose 97 = .ok (.getfield 24, 3) := by decide +kernel
theorem dX10_choose_100 : decode cX10_choose 100 = .ok (.iload_n 1, 1) := by decide +kernel
theorem dX10_choose_101 : decode cX10_choose 101 = .ok (.iload 9, 2) := by decide +kernel
theorem dX10_choose_103 : decode cX10_choose 103 = .ok (.invokevirtual 101, 3) := by decide +kernel
theorem dX10_choose_106 : decode cX10_choose 106 = .ok (.imul, 1) := by decide +kernel
theorem dX10_choose_107 : decode cX10_choose 107 = .ok (.iadd, 1) := by decide +kernel
theorem dX10_choose_108 : decode cX10_choose 108 = .ok (.aload_n 0, 1) := by decide +kernel
theorem dX10_choose_109 : decode cX10_choose 109 = .ok (.getfield 64, 3) := by decide +kernel
theorem dX10_choose_112 : decode cX10_choose 112 = .ok (.aload_n 0, 1) := by decide +kernel
theorem dX10_choose_113 : decode cX10_choose 113 = .ok (.getfield 24, 3) := by decide +kernel
theorem dX10_choose_116 : decode cX10_choose 116 = .ok (.iload 4, 2) := by decide +kernel
theorem dX10_choose_118 : decode cX10_choose 118 = .ok (.iload 9, 2) := by decide +kernel
theorem dX10_choose_120 : decode cX10_choose 120 = .ok (.invokevirtual 104, 3) := by decide +kernel
theorem dX10_choose_123 : decode cX10_choose 123 = .ok (.imul, 1) := by decide +kernel
theorem dX10_choose_124 : decode cX10_choose 124 = .ok (.iadd, 1) := by decide +kernel
theorem dX10_choose_125 : decode cX10_choose 125 = .ok (.istore 10, 2) := by decide +kernel
theorem dX10_choose_127 : decode cX10_choose 127 = .ok (.iload 10, 2) := by decide +kernel
theorem dX10_choose_129 : decode cX10_choose 129 = .ok (.aload_n 0, 1) := by decide +kernel
theorem dX10_choose_130 : decode cX10_choose 130 = .ok (.getfield 11, 3) := by decide +kernel
theorem dX10_choose_133 : decode cX10_choose 133 = .ok (.iload_n 1, 1) := by decide +kernel
theorem dX10_choose_134 : decode cX10_choose 134 = .ok (.iaload, 1) := by decide +kernel
theorem dX10_choose_135 : decode cX10_choose 135 = .ok (.iadd, 1) := by decide +kernel
theorem dX10_choose_136 : decode cX10_choose 136 = .ok (.aload_n 0, 1) := by decide +kernel
theorem dX10_choose_137 : decode cX10_choose 137 = .ok (.getfield 88, 3) := by decide +kernel
theorem dX10_choose_140 : decode cX10_choose 140 = .ok (.if_icmp .ge 42, 3) := by decide +kernel
theorem dX10_choose_143 : decode cX10_choose 143 = .ok (.aload_n 0, 1) := by decide +kernel
theorem dX10_choose_144 : decode cX10_choose 144 = .ok (.getfield 24, 3) := by decide +kernel
theorem dX10_choose_147 : decode cX10_choose 147 = .ok (.iload 7, 2) := by decide +kernel
theorem dX10_choose_149 : decode cX10_choose 149 = .ok (.iload 5, 2) := by decide +kernel
theorem dX10_choose_151 : decode cX10_choose 151 = .ok (.invokevirtual 107, 3) := by decide +kernel
theorem dX10_choose_154 : decode cX10_choose 154 = .ok (.ifCond .ne 28, 3) := by decide +kernel
theorem dX10_choose_157 : decode cX10_choose 157 = .ok (.aload_n 0, 1) := by decide +kernel
theorem dX10_choose_158 : decode cX10_choose 158 = .ok (.getfield 24, 3) := by decide +kernel
theorem dX10_choose_161 : decode cX10_choose 161 = .ok (.iload 8, 2) := by decide +kernel
theorem dX10_choose_163 : decode cX10_choose 163 = .ok (.iload 5, 2) := by decide +kernel
theorem dX10_choose_165 : decode cX10_choose 165 = .ok (.invokevirtual 107, 3) := by decide +kernel
theorem dX10_choose_168 : decode cX10_choose 168 = .ok (.ifCond .ne 14, 3) := by decide +kernel
theorem dX10_choose_171 : decode cX10_choose 171 = .ok (.aload_n 0, 1) := by decide +kernel
theorem dX10_choose_172 : decode cX10_choose 172 = .ok (.iload_n 1, 1) := by decide +kernel
theorem dX10_choose_173 : decode cX10_choose 173 = .ok (.iconst 1, 1) := by decide +kernel
theorem dX10_choose_174 : decode cX10_choose 174 = .ok (.isub, 1) := by decide +kernel
theorem dX10_choose_175 : decode cX10_choose 175 = .ok (.iload 7, 2) := by decide +kernel
theorem dX10_choose_177 : decode cX10_choose 177 = .ok (.iload 10, 2) := by decide +kernel
theorem dX10_choose_179 : decode cX10_choose 179 = .ok (.invokevirtual 91, 3) := by decide +kernel
theorem dX10_choose_182 : decode cX10_choose 182 = .ok (.iinc 6 1, 3) := by decide +kernel
theorem dX10_choose_185 : decode cX10_choose 185 = .ok (.goto (-156), 3) := by decide +kernel
theorem dX10_choose_188 : decode cX10_choose 188 = .ok (.return_, 1) := by decide +kernel
theorem dX10_weigh_0 : decode cX10_weigh 0 = .ok (.iconst 0, 1) := by decide +kernel
theorem dX10_weigh_1 : decode cX10_weigh 1 = .ok (.istore_n 2, 1) := by decide +kernel
theorem dX10_weigh_2 : decode cX10_weigh 2 = .ok (.iload_n 2, 1) := by decide +kernel
theorem dX10_weigh_3 : decode cX10_weigh 3 = .ok (.aload_n 0, 1) := by decide +kernel
theorem dX10_weigh_4 : decode cX10_weigh 4 = .ok (.getfield 24, 3) := by decide +kernel
theorem dX10_weigh_7 : decode cX10_weigh 7 = .ok (.getfield 32, 3) := by decide +kernel
theorem dX10_weigh_10 : decode cX10_weigh 10 = .ok (.if_icmp .ge 112, 3) := by decide +kernel
theorem dX10_weigh_13 : decode cX10_weigh 13 = .ok (.iconst 1, 1) := by decide +kernel
theorem dX10_weigh_14 : decode cX10_weigh 14 = .ok (.iload_n 2, 1) := by decide +kernel
theorem dX10_weigh_15 : decode cX10_weigh 15 = .ok (.ishl, 1) := by decide +kernel
theorem dX10_weigh_16 : decode cX10_weigh 16 = .ok (.istore_n 3, 1) := by decide +kernel
theorem dX10_weigh_17 : decode cX10_weigh 17 = .ok (.aload_n 0, 1) := by decide +kernel
theorem dX10_weigh_18 : decode cX10_weigh 18 = .ok (.getfield 24, 3) := by decide +kernel
theorem dX10_weigh_21 : decode cX10_weigh 21 = .ok (.iload_n 3, 1) := by decide +kernel
theorem dX10_weigh_22 : decode cX10_weigh 22 = .ok (.invokevirtual 111, 3) := by decide +kernel
theorem dX10_weigh_25 : decode cX10_weigh 25 = .ok (.istore 4, 2) := by decide +kernel
theorem dX10_weigh_27 : decode cX10_weigh 27 = .ok (.aload_n 0, 1) := by decide +kernel
theorem dX10_weigh_28 : decode cX10_weigh 28 = .ok (.getfield 15, 3) := by decide +kernel
theorem dX10_weigh_31 : decode cX10_weigh 31 = .ok (.iload_n 2, 1) := by decide +kernel
theorem dX10_weigh_32 : decode cX10_weigh 32 = .ok (.aload_n 0, 1) := by decide +kernel
theorem dX10_weigh_33 : decode cX10_weigh 33 = .ok (.getfield 28, 3) := by decide +kernel
theorem dX10_weigh_36 : decode cX10_weigh 36 = .ok (.getfield 38, 3) := by decide +kernel
theorem dX10_weigh_39 : decode cX10_weigh 39 = .ok (.iconst 0, 1) := by decide +kernel
theorem dX10_weigh_40 : decode cX10_weigh 40 = .ok (.aaload, 1) := by decide +kernel
theorem dX10_weigh_41 : decode cX10_weigh 41 = .ok (.iload_n 2, 1) := by decide +kernel
theorem dX10_weigh_42 : decode cX10_weigh 42 = .ok (.iaload, 1) := by decide +kernel
theorem dX10_weigh_43 : decode cX10_weigh 43 = .ok (.aload_n 0, 1) := by decide +kernel
theorem dX10_weigh_44 : decode cX10_weigh 44 = .ok (.getfield 28, 3) := by decide +kernel
theorem dX10_weigh_47 : decode cX10_weigh 47 = .ok (.getfield 38, 3) := by decide +kernel
theorem dX10_weigh_50 : decode cX10_weigh 50 = .ok (.iconst 1, 1) := by decide +kernel
theorem dX10_weigh_51 : decode cX10_weigh 51 = .ok (.aaload, 1) := by decide +kernel
theorem dX10_weigh_52 : decode cX10_weigh 52 = .ok (.iload_n 2, 1) := by decide +kernel
theorem dX10_weigh_53 : decode cX10_weigh 53 = .ok (.iaload, 1) := by decide +kernel
theorem dX10_weigh_54 : decode cX10_weigh 54 = .ok (.isub, 1) := by decide +kernel
theorem dX10_weigh_55 : decode cX10_weigh 55 = .ok (.iastore, 1) := by decide +kernel
theorem dX10_weigh_56 : decode cX10_weigh 56 = .ok (.aload_n 0, 1) := by decide +kernel
theorem dX10_weigh_57 : decode cX10_weigh 57 = .ok (.getfield 18, 3) := by decide +kernel
theorem dX10_weigh_60 : decode cX10_weigh 60 = .ok (.iload_n 2, 1) := by decide +kernel
theorem dX10_weigh_61 : decode cX10_weigh 61 = .ok (.bipush 10, 2) := by decide +kernel
theorem dX10_weigh_63 : decode cX10_weigh 63 = .ok (.aload_n 0, 1) := by decide +kernel
theorem dX10_weigh_64 : decode cX10_weigh 64 = .ok (.getfield 24, 3) := by decide +kernel
theorem dX10_weigh_67 : decode cX10_weigh 67 = .ok (.getfield 95, 3) := by decide +kernel
theorem dX10_weigh_70 : decode cX10_weigh 70 = .ok (.iconst 0, 1) := by decide +kernel
theorem dX10_weigh_71 : decode cX10_weigh 71 = .ok (.iaload, 1) := by decide +kernel
theorem dX10_weigh_72 : decode cX10_weigh 72 = .ok (.iload_n 2, 1) := by decide +kernel
theorem dX10_weigh_73 : decode cX10_weigh 73 = .ok (.ishr, 1) := by decide +kernel
theorem dX10_weigh_74 : decode cX10_weigh 74 = .ok (.iconst 1, 1) := by decide +kernel
theorem dX10_weigh_75 : decode cX10_weigh 75 = .ok (.iand, 1) := by decide +kernel
theorem dX10_weigh_76 : decode cX10_weigh 76 = .ok (.aload_n 0, 1) := by decide +kernel
theorem dX10_weigh_77 : decode cX10_weigh 77 = .ok (.getfield 24, 3) := by decide +kernel
theorem dX10_weigh_80 : decode cX10_weigh 80 = .ok (.getfield 95, 3) := by decide +kernel
theorem dX10_weigh_83 : decode cX10_weigh 83 = .ok (.iconst 1, 1) := by decide +kernel
theorem dX10_weigh_84 : decode cX10_weigh 84 = .ok (.iaload, 1) := by decide +kernel
theorem dX10_weigh_85 : decode cX10_weigh 85 = .ok (.iload_n 2, 1) := by decide +kernel
theorem dX10_weigh_86 : decode cX10_weigh 86 = .ok (.ishr, 1) := by decide +kernel
theorem dX10_weigh_87 : decode cX10_weigh 87 = .ok (.iconst 1, 1) := by decide +kernel
theorem dX10_weigh_88 : decode cX10_weigh 88 = .ok (.iand, 1) := by decide +kernel
theorem dX10_weigh_89 : decode cX10_weigh 89 = .ok (.isub, 1) := by decide +kernel
theorem dX10_weigh_90 : decode cX10_weigh 90 = .ok (.imul, 1) := by decide +kernel
theorem dX10_weigh_91 : decode cX10_weigh 91 = .ok (.iastore, 1) := by decide +kernel
theorem dX10_weigh_92 : decode cX10_weigh 92 = .ok (.aload_n 0, 1) := by decide +kernel
theorem dX10_weigh_93 : decode cX10_weigh 93 = .ok (.getfield 21, 3) := by decide +kernel
theorem dX10_weigh_96 : decode cX10_weigh 96 = .ok (.iload_n 2, 1) := by decide +kernel
theorem dX10_weigh_97 : decode cX10_weigh 97 = .ok (.bipush 10, 2) := by decide +kernel
theorem dX10_weigh_99 : decode cX10_weigh 99 = .ok (.iconst 2, 1) := by decide +kernel
theorem dX10_weigh_100 : decode cX10_weigh 100 = .ok (.iload 4, 2) := by decide +kernel
theorem dX10_weigh_102 : decode cX10_weigh 102 = .ok (.iload_n 1, 1) := by decide +kernel
theorem dX10_weigh_103 : decode cX10_weigh 103 = .ok (.iand, 1) := by decide +kernel
theorem dX10_weigh_104 : decode cX10_weigh 104 = .ok (.invokestatic 114, 3) := by decide +kernel
theorem dX10_weigh_107 : decode cX10_weigh 107 = .ok (.imul, 1) := by decide +kernel
theorem dX10_weigh_108 : decode cX10_weigh 108 = .ok (.iload 4, 2) := by decide +kernel
theorem dX10_weigh_110 : decode cX10_weigh 110 = .ok (.invokestatic 114, 3) := by decide +kernel
theorem dX10_weigh_113 : decode cX10_weigh 113 = .ok (.isub, 1) := by decide +kernel
theorem dX10_weigh_114 : decode cX10_weigh 114 = .ok (.imul, 1) := by decide +kernel
theorem dX10_weigh_115 : decode cX10_weigh 115 = .ok (.iastore, 1) := by decide +kernel
theorem dX10_weigh_116 : decode cX10_weigh 116 = .ok (.iinc 2 1, 3) := by decide +kernel
theorem dX10_weigh_119 : decode cX10_weigh 119 = .ok (.goto (-117), 3) := by decide +kernel
theorem dX10_weigh_122 : decode cX10_weigh 122 = .ok (.iconst 0, 1) := by decide +kernel
theorem dX10_weigh_123 : decode cX10_weigh 123 = .ok (.istore_n 2, 1) := by decide +kernel
theorem dX10_weigh_124 : decode cX10_weigh 124 = .ok (.iload_n 2, 1) := by decide +kernel
theorem dX10_weigh_125 : decode cX10_weigh 125 = .ok (.bipush 9, 2) := by decide +kernel
theorem dX10_weigh_127 : decode cX10_weigh 127 = .ok (.if_icmp .gt 64, 3) := by decide +kernel
theorem dX10_weigh_130 : decode cX10_weigh 130 = .ok (.iconst 0, 1) := by decide +kernel
theorem dX10_weigh_131 : decode cX10_weigh 131 = .ok (.istore_n 3, 1) := by decide +kernel
theorem dX10_weigh_132 : decode cX10_weigh 132 = .ok (.iload_n 3, 1) := by decide +kernel
theorem dX10_weigh_133 : decode cX10_weigh 133 = .ok (.bipush 9, 2) := by decide +kernel
theorem dX10_weigh_135 : decode cX10_weigh 135 = .ok (.if_icmp .gt 50, 3) := by decide +kernel
theorem dX10_weigh_138 : decode cX10_weigh 138 = .ok (.iconst 0, 1) := by decide +kernel
theorem dX10_weigh_139 : decode cX10_weigh 139 = .ok (.istore 4, 2) := by decide +kernel
theorem dX10_weigh_141 : decode cX10_weigh 141 = .ok (.iload 4, 2) := by decide +kernel
theorem dX10_weigh_143 : decode cX10_weigh 143 = .ok (.bipush 9, 2) := by decide +kernel
theorem dX10_weigh_145 : decode cX10_weigh 145 = .ok (.if_icmp .gt 34, 3) := by decide +kernel
theorem dX10_weigh_148 : decode cX10_weigh 148 = .ok (.aload_n 0, 1) := by decide +kernel
theorem dX10_weigh_149 : decode cX10_weigh 149 = .ok (.iload_n 1, 1) := by decide +kernel
theorem dX10_weigh_150 : decode cX10_weigh 150 = .ok (.iload_n 2, 1) := by decide +kernel
theorem dX10_weigh_151 : decode cX10_weigh 151 = .ok (.iload_n 3, 1) := by decide +kernel
theorem dX10_weigh_152 : decode cX10_weigh 152 = .ok (.iload 4, 2) := by decide +kernel
theorem dX10_weigh_154 : decode cX10_weigh 154 = .ok (.invokevirtual 119, 3) := by decide +kernel
theorem dX10_weigh_157 : decode cX10_weigh 157 = .ok (.ifCond .eq 16, 3) := by decide +kernel
theorem dX10_weigh_160 : decode cX10_weigh 160 = .ok (.bipush 100, 2) := by decide +kernel
theorem dX10_weigh_162 : decode cX10_weigh 162 = .ok (.iload_n 2, 1) := by decide +kernel
theorem dX10_weigh_163 : decode cX10_weigh 163 = .ok (.imul, 1) := by decide +kernel
theorem dX10_weigh_164 : decode cX10_weigh 164 = .ok (.bipush 10, 2) := by decide +kernel
theorem dX10_weigh_166 : decode cX10_weigh 166 = .ok (.iload_n 3, 1) := by decide +kernel
theorem dX10_weigh_167 : decode cX10_weigh 167 = .ok (.imul, 1) := by decide +kernel
theorem dX10_weigh_168 : decode cX10_weigh 168 = .ok (.iadd, 1) := by decide +kernel
theorem dX10_weigh_169 : decode cX10_weigh 169 = .ok (.iload 4, 2) := by decide +kernel
theorem dX10_weigh_171 : decode cX10_weigh 171 = .ok (.iadd, 1) := by decide +kernel
theorem dX10_weigh_172 : decode cX10_weigh 172 = .ok (.ireturn, 1) := by decide +kernel
theorem dX10_weigh_173 : decode cX10_weigh 173 = .ok (.iinc 4 1, 3) := by decide +kernel
theorem dX10_weigh_176 : decode cX10_weigh 176 = .ok (.goto (-35), 3) := by decide +kernel
theorem dX10_weigh_179 : decode cX10_weigh 179 = .ok (.iinc 3 1, 3) := by decide +kernel
theorem dX10_weigh_182 : decode cX10_weigh 182 = .ok (.goto (-50), 3) := by decide +kernel
theorem dX10_weigh_185 : decode cX10_weigh 185 = .ok (.iinc 2 1, 3) := by decide +kernel
theorem dX10_weigh_188 : decode cX10_weigh 188 = .ok (.goto (-64), 3) := by decide +kernel
theorem dX10_weigh_191 : decode cX10_weigh 191 = .ok (.iconst (-1), 1) := by decide +kernel
theorem dX10_weigh_192 : decode cX10_weigh 192 = .ok (.ireturn, 1) := by decide +kernel
theorem dX10_gives_0 : decode cX10_gives 0 = .ok (.iconst 0, 1) := by decide +kernel
theorem dX10_gives_1 : decode cX10_gives 1 = .ok (.istore 5, 2) := by decide +kernel
theorem dX10_gives_3 : decode cX10_gives 3 = .ok (.iload 5, 2) := by decide +kernel
theorem dX10_gives_5 : decode cX10_gives 5 = .ok (.aload_n 0, 1) := by decide +kernel
theorem dX10_gives_6 : decode cX10_gives 6 = .ok (.getfield 24, 3) := by decide +kernel
theorem dX10_gives_9 : decode cX10_gives 9 = .ok (.getfield 32, 3) := by decide +kernel
theorem dX10_gives_12 : decode cX10_gives 12 = .ok (.if_icmp .ge 70, 3) := by decide +kernel
theorem dX10_gives_15 : decode cX10_gives 15 = .ok (.iload_n 2, 1) := by decide +kernel
theorem dX10_gives_16 : decode cX10_gives 16 = .ok (.aload_n 0, 1) := by decide +kernel
theorem dX10_gives_17 : decode cX10_gives 17 = .ok (.getfield 15, 3) := by decide +kernel
theorem dX10_gives_20 : decode cX10_gives 20 = .ok (.iload 5, 2) := by decide +kernel
theorem dX10_gives_22 : decode cX10_gives 22 = .ok (.iaload, 1) := by decide +kernel
theorem dX10_gives_23 : decode cX10_gives 23 = .ok (.imul, 1) := by decide +kernel
theorem dX10_gives_24 : decode cX10_gives 24 = .ok (.iload_n 3, 1) := by decide +kernel
theorem dX10_gives_25 : decode cX10_gives 25 = .ok (.aload_n 0, 1) := by decide +kernel
theorem dX10_gives_26 : decode cX10_gives 26 = .ok (.getfield 18, 3) := by decide +kernel
theorem dX10_gives_29 : decode cX10_gives 29 = .ok (.iload 5, 2) := by decide +kernel
theorem dX10_gives_31 : decode cX10_gives 31 = .ok (.iaload, 1) := by decide +kernel
theorem dX10_gives_32 : decode cX10_gives 32 = .ok (.imul, 1) := by decide +kernel
theorem dX10_gives_33 : decode cX10_gives 33 = .ok (.iadd, 1) := by decide +kernel
theorem dX10_gives_34 : decode cX10_gives 34 = .ok (.iload 4, 2) := by decide +kernel
theorem dX10_gives_36 : decode cX10_gives 36 = .ok (.aload_n 0, 1) := by decide +kernel
theorem dX10_gives_37 : decode cX10_gives 37 = .ok (.getfield 21, 3) := by decide +kernel
theorem dX10_gives_40 : decode cX10_gives 40 = .ok (.iload 5, 2) := by decide +kernel
theorem dX10_gives_42 : decode cX10_gives 42 = .ok (.iaload, 1) := by decide +kernel
theorem dX10_gives_43 : decode cX10_gives 43 = .ok (.imul, 1) := by decide +kernel
theorem dX10_gives_44 : decode cX10_gives 44 = .ok (.iadd, 1) := by decide +kernel
theorem dX10_gives_45 : decode cX10_gives 45 = .ok (.ifCond .le 7, 3) := by decide +kernel
theorem dX10_gives_48 : decode cX10_gives 48 = .ok (.iconst 1, 1) := by decide +kernel
theorem dX10_gives_49 : decode cX10_gives 49 = .ok (.goto 4, 3) := by decide +kernel
theorem dX10_gives_52 : decode cX10_gives 52 = .ok (.iconst 0, 1) := by decide +kernel
theorem dX10_gives_53 : decode cX10_gives 53 = .ok (.istore 6, 2) := by decide +kernel
theorem dX10_gives_55 : decode cX10_gives 55 = .ok (.iload 6, 2) := by decide +kernel
theorem dX10_gives_57 : decode cX10_gives 57 = .ok (.iload_n 1, 1) := by decide +kernel
theorem dX10_gives_58 : decode cX10_gives 58 = .ok (.iload 5, 2) := by decide +kernel
theorem dX10_gives_60 : decode cX10_gives 60 = .ok (.ishr, 1) := by decide +kernel
theorem dX10_gives_61 : decode cX10_gives 61 = .ok (.iconst 1, 1) := by decide +kernel
theorem dX10_gives_62 : decode cX10_gives 62 = .ok (.iand, 1) := by decide +kernel
theorem dX10_gives_63 : decode cX10_gives 63 = .ok (.ifCond .eq 7, 3) := by decide +kernel
theorem dX10_gives_66 : decode cX10_gives 66 = .ok (.iconst 1, 1) := by decide +kernel
theorem dX10_gives_67 : decode cX10_gives 67 = .ok (.goto 4, 3) := by decide +kernel
theorem dX10_gives_70 : decode cX10_gives 70 = .ok (.iconst 0, 1) := by decide +kernel
theorem dX10_gives_71 : decode cX10_gives 71 = .ok (.if_icmp .eq 5, 3) := by decide +kernel
theorem dX10_gives_74 : decode cX10_gives 74 = .ok (.iconst 0, 1) := by decide +kernel
theorem dX10_gives_75 : decode cX10_gives 75 = .ok (.ireturn, 1) := by decide +kernel
theorem dX10_gives_76 : decode cX10_gives 76 = .ok (.iinc 5 1, 3) := by decide +kernel
theorem dX10_gives_79 : decode cX10_gives 79 = .ok (.goto (-76), 3) := by decide +kernel
theorem dX10_gives_82 : decode cX10_gives 82 = .ok (.iconst 1, 1) := by decide +kernel
theorem dX10_gives_83 : decode cX10_gives 83 = .ok (.ireturn, 1) := by decide +kernel
