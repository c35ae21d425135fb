theorem dX7_init_0 : decode cX7_init 0 = .ok (.aload_n 0, 1) := by decide +kernel
theorem dX7_init_1 : decode cX7_init 1 = .ok (.invokespecial 3, 3) := by decide +kernel
theorem dX7_init_4 : decode cX7_init 4 = .ok (.aload_n 0, 1) := by decide +kernel
theorem dX7_init_5 : decode cX7_init 5 = .ok (.bipush 8, 2) := by decide +kernel
theorem dX7_init_7 : decode cX7_init 7 = .ok (.newarray .int, 2) := by decide +kernel
theorem dX7_init_9 : decode cX7_init 9 = .ok (.putfield 9, 3) := by decide +kernel
theorem dX7_init_12 : decode cX7_init 12 = .ok (.aload_n 0, 1) := by decide +kernel
theorem dX7_init_13 : decode cX7_init 13 = .ok (.bipush 8, 2) := by decide +kernel
theorem dX7_init_15 : decode cX7_init 15 = .ok (.newarray .int, 2) := by decide +kernel
theorem dX7_init_17 : decode cX7_init 17 = .ok (.putfield 15, 3) := by decide +kernel
theorem dX7_init_20 : decode cX7_init 20 = .ok (.aload_n 0, 1) := by decide +kernel
theorem dX7_init_21 : decode cX7_init 21 = .ok (.aload_n 1, 1) := by decide +kernel
theorem dX7_init_22 : decode cX7_init 22 = .ok (.putfield 18, 3) := by decide +kernel
theorem dX7_init_25 : decode cX7_init 25 = .ok (.return_, 1) := by decide +kernel
theorem dX7_spread_0 : decode cX7_spread 0 = .ok (.aload_n 0, 1) := by decide +kernel
theorem dX7_spread_1 : decode cX7_spread 1 = .ok (.getfield 9, 3) := by decide +kernel
theorem dX7_spread_4 : decode cX7_spread 4 = .ok (.sipush 1000, 3) := by decide +kernel
theorem dX7_spread_7 : decode cX7_spread 7 = .ok (.invokestatic 22, 3) := by decide +kernel
theorem dX7_spread_10 : decode cX7_spread 10 = .ok (.iconst 0, 1) := by decide +kernel
theorem dX7_spread_11 : decode cX7_spread 11 = .ok (.istore_n 3, 1) := by decide +kernel
theorem dX7_spread_12 : decode cX7_spread 12 = .ok (.iload_n 3, 1) := by decide +kernel
theorem dX7_spread_13 : decode cX7_spread 13 = .ok (.aload_n 0, 1) := by decide +kernel
theorem dX7_spread_14 : decode cX7_spread 14 = .ok (.getfield 18, 3) := by decide +kernel
theorem dX7_spread_17 : decode cX7_spread 17 = .ok (.getfield 28, 3) := by decide +kernel
theorem dX7_spread_20 : decode cX7_spread 20 = .ok (.if_icmp .ge 57, 3) := by decide +kernel
theorem dX7_spread_23 : decode cX7_spread 23 = .ok (.aload_n 0, 1) := by decide +kernel
theorem dX7_spread_24 : decode cX7_spread 24 = .ok (.getfield 18, 3) := by decide +kernel
theorem dX7_spread_27 : decode cX7_spread 27 = .ok (.iload_n 3, 1) := by decide +kernel
theorem dX7_spread_28 : decode cX7_spread 28 = .ok (.iconst 0, 1) := by decide +kernel
theorem dX7_spread_29 : decode cX7_spread 29 = .ok (.invokevirtual 34, 3) := by decide +kernel
theorem dX7_spread_32 : decode cX7_spread 32 = .ok (.ifCond .eq 39, 3) := by decide +kernel
theorem dX7_spread_35 : decode cX7_spread 35 = .ok (.aload_n 0, 1) := by decide +kernel
theorem dX7_spread_36 : decode cX7_spread 36 = .ok (.getfield 18, 3) := by decide +kernel
theorem dX7_spread_39 : decode cX7_spread 39 = .ok (.getfield 38, 3) := by decide +kernel
theorem dX7_spread_42 : decode cX7_spread 42 = .ok (.iload_n 3, 1) := by decide +kernel
theorem dX7_spread_43 : decode cX7_spread 43 = .ok (.iaload, 1) := by decide +kernel
theorem dX7_spread_44 : decode cX7_spread 44 = .ok (.iload_n 1, 1) := by decide +kernel
theorem dX7_spread_45 : decode cX7_spread 45 = .ok (.if_icmp .ne 26, 3) := by decide +kernel
theorem dX7_spread_48 : decode cX7_spread 48 = .ok (.aload_n 0, 1) := by decide +kernel
theorem dX7_spread_49 : decode cX7_spread 49 = .ok (.aload_n 0, 1) := by decide +kernel
theorem dX7_spread_50 : decode cX7_spread 50 = .ok (.getfield 18, 3) := by decide +kernel
theorem dX7_spread_53 : decode cX7_spread 53 = .ok (.getfield 41, 3) := by decide +kernel
theorem dX7_spread_56 : decode cX7_spread 56 = .ok (.iload_n 3, 1) := by decide +kernel
theorem dX7_spread_57 : decode cX7_spread 57 = .ok (.iaload, 1) := by decide +kernel
theorem dX7_spread_58 : decode cX7_spread 58 = .ok (.aload_n 0, 1) := by decide +kernel
theorem dX7_spread_59 : decode cX7_spread 59 = .ok (.getfield 18, 3) := by decide +kernel
theorem dX7_spread_62 : decode cX7_spread 62 = .ok (.getfield 44, 3) := by decide +kernel
theorem dX7_spread_65 : decode cX7_spread 65 = .ok (.iload_n 3, 1) := by decide +kernel
theorem dX7_spread_66 : decode cX7_spread 66 = .ok (.iaload, 1) := by decide +kernel
theorem dX7_spread_67 : decode cX7_spread 67 = .ok (.invokevirtual 47, 3) := by decide +kernel
theorem dX7_spread_70 : decode cX7_spread 70 = .ok (.pop, 1) := by decide +kernel
theorem dX7_spread_71 : decode cX7_spread 71 = .ok (.iinc 3 1, 3) := by decide +kernel
theorem dX7_spread_74 : decode cX7_spread 74 = .ok (.goto (-62), 3) := by decide +kernel
theorem dX7_spread_77 : decode cX7_spread 77 = .ok (.iconst 1, 1) := by decide +kernel
theorem dX7_spread_78 : decode cX7_spread 78 = .ok (.istore_n 3, 1) := by decide +kernel
theorem dX7_spread_79 : decode cX7_spread 79 = .ok (.iconst 0, 1) := by decide +kernel
theorem dX7_spread_80 : decode cX7_spread 80 = .ok (.istore 4, 2) := by decide +kernel
theorem dX7_spread_82 : decode cX7_spread 82 = .ok (.iload 4, 2) := by decide +kernel
theorem dX7_spread_84 : decode cX7_spread 84 = .ok (.bipush 8, 2) := by decide +kernel
theorem dX7_spread_86 : decode cX7_spread 86 = .ok (.if_icmp .ge 19, 3) := by decide +kernel
theorem dX7_spread_89 : decode cX7_spread 89 = .ok (.iload_n 3, 1) := by decide +kernel
theorem dX7_spread_90 : decode cX7_spread 90 = .ok (.ifCond .eq 15, 3) := by decide +kernel
theorem dX7_spread_93 : decode cX7_spread 93 = .ok (.aload_n 0, 1) := by decide +kernel
theorem dX7_spread_94 : decode cX7_spread 94 = .ok (.iload_n 2, 1) := by decide +kernel
theorem dX7_spread_95 : decode cX7_spread 95 = .ok (.invokevirtual 50, 3) := by decide +kernel
theorem dX7_spread_98 : decode cX7_spread 98 = .ok (.istore_n 3, 1) := by decide +kernel
theorem dX7_spread_99 : decode cX7_spread 99 = .ok (.iinc 4 1, 3) := by decide +kernel
theorem dX7_spread_102 : decode cX7_spread 102 = .ok (.goto (-20), 3) := by decide +kernel
theorem dX7_spread_105 : decode cX7_spread 105 = .ok (.return_, 1) := by decide +kernel
theorem dX7_meetAll_0 : decode cX7_meetAll 0 = .ok (.iconst 0, 1) := by decide +kernel
theorem dX7_meetAll_1 : decode cX7_meetAll 1 = .ok (.istore_n 2, 1) := by decide +kernel
theorem dX7_meetAll_2 : decode cX7_meetAll 2 = .ok (.iconst 0, 1) := by decide +kernel
theorem dX7_meetAll_3 : decode cX7_meetAll 3 = .ok (.istore_n 3, 1) := by decide +kernel
theorem dX7_meetAll_4 : decode cX7_meetAll 4 = .ok (.iload_n 3, 1) := by decide +kernel
theorem dX7_meetAll_5 : decode cX7_meetAll 5 = .ok (.aload_n 0, 1) := by decide +kernel
theorem dX7_meetAll_6 : decode cX7_meetAll 6 = .ok (.getfield 18, 3) := by decide +kernel
theorem dX7_meetAll_9 : decode cX7_meetAll 9 = .ok (.getfield 28, 3) := by decide +kernel
theorem dX7_meetAll_12 : decode cX7_meetAll 12 = .ok (.if_icmp .ge 91, 3) := by decide +kernel
theorem dX7_meetAll_15 : decode cX7_meetAll 15 = .ok (.aload_n 0, 1) := by decide +kernel
theorem dX7_meetAll_16 : decode cX7_meetAll 16 = .ok (.getfield 18, 3) := by decide +kernel
theorem dX7_meetAll_19 : decode cX7_meetAll 19 = .ok (.iload_n 3, 1) := by decide +kernel
theorem dX7_meetAll_20 : decode cX7_meetAll 20 = .ok (.iconst 1, 1) := by decide +kernel
theorem dX7_meetAll_21 : decode cX7_meetAll 21 = .ok (.invokevirtual 34, 3) := by decide +kernel
theorem dX7_meetAll_24 : decode cX7_meetAll 24 = .ok (.ifCond .eq 73, 3) := by decide +kernel
theorem dX7_meetAll_27 : decode cX7_meetAll 27 = .ok (.iload_n 2, 1) := by decide +kernel
theorem dX7_meetAll_28 : decode cX7_meetAll 28 = .ok (.aload_n 0, 1) := by decide +kernel
theorem dX7_meetAll_29 : decode cX7_meetAll 29 = .ok (.aload_n 0, 1) := by decide +kernel
theorem dX7_meetAll_30 : decode cX7_meetAll 30 = .ok (.getfield 18, 3) := by decide +kernel
theorem dX7_meetAll_33 : decode cX7_meetAll 33 = .ok (.getfield 38, 3) := by decide +kernel
theorem dX7_meetAll_36 : decode cX7_meetAll 36 = .ok (.iload_n 3, 1) := by decide +kernel
theorem dX7_meetAll_37 : decode cX7_meetAll 37 = .ok (.iaload, 1) := by decide +kernel
theorem dX7_meetAll_38 : decode cX7_meetAll 38 = .ok (.aload_n 0, 1) := by decide +kernel
theorem dX7_meetAll_39 : decode cX7_meetAll 39 = .ok (.getfield 18, 3) := by decide +kernel
theorem dX7_meetAll_42 : decode cX7_meetAll 42 = .ok (.getfield 41, 3) := by decide +kernel
theorem dX7_meetAll_45 : decode cX7_meetAll 45 = .ok (.iload_n 3, 1) := by decide +kernel
theorem dX7_meetAll_46 : decode cX7_meetAll 46 = .ok (.iaload, 1) := by decide +kernel
theorem dX7_meetAll_47 : decode cX7_meetAll 47 = .ok (.aload_n 0, 1) := by decide +kernel
theorem dX7_meetAll_48 : decode cX7_meetAll 48 = .ok (.getfield 18, 3) := by decide +kernel
theorem dX7_meetAll_51 : decode cX7_meetAll 51 = .ok (.getfield 44, 3) := by decide +kernel
theorem dX7_meetAll_54 : decode cX7_meetAll 54 = .ok (.iload_n 3, 1) := by decide +kernel
theorem dX7_meetAll_55 : decode cX7_meetAll 55 = .ok (.iaload, 1) := by decide +kernel
theorem dX7_meetAll_56 : decode cX7_meetAll 56 = .ok (.iload_n 1, 1) := by decide +kernel
theorem dX7_meetAll_57 : decode cX7_meetAll 57 = .ok (.invokevirtual 54, 3) := by decide +kernel
theorem dX7_meetAll_60 : decode cX7_meetAll 60 = .ok (.ior, 1) := by decide +kernel
theorem dX7_meetAll_61 : decode cX7_meetAll 61 = .ok (.istore_n 2, 1) := by decide +kernel
theorem dX7_meetAll_62 : decode cX7_meetAll 62 = .ok (.iload_n 2, 1) := by decide +kernel
theorem dX7_meetAll_63 : decode cX7_meetAll 63 = .ok (.aload_n 0, 1) := by decide +kernel
theorem dX7_meetAll_64 : decode cX7_meetAll 64 = .ok (.aload_n 0, 1) := by decide +kernel
theorem dX7_meetAll_65 : decode cX7_meetAll 65 = .ok (.getfield 18, 3) := by decide +kernel
theorem dX7_meetAll_68 : decode cX7_meetAll 68 = .ok (.getfield 41, 3) := by decide +kernel
theorem dX7_meetAll_71 : decode cX7_meetAll 71 = .ok (.iload_n 3, 1) := by decide +kernel
theorem dX7_meetAll_72 : decode cX7_meetAll 72 = .ok (.iaload, 1) := by decide +kernel
theorem dX7_meetAll_73 : decode cX7_meetAll 73 = .ok (.aload_n 0, 1) := by decide +kernel
theorem dX7_meetAll_74 : decode cX7_meetAll 74 = .ok (.getfield 18, 3) := by decide +kernel
theorem dX7_meetAll_77 : decode cX7_meetAll 77 = .ok (.getfield 38, 3) := by decide +kernel
theorem dX7_meetAll_80 : decode cX7_meetAll 80 = .ok (.iload_n 3, 1) := by decide +kernel
theorem dX7_meetAll_81 : decode cX7_meetAll 81 = .ok (.iaload, 1) := by decide +kernel
theorem dX7_meetAll_82 : decode cX7_meetAll 82 = .ok (.aload_n 0, 1) := by decide +kernel
theorem dX7_meetAll_83 : decode cX7_meetAll 83 = .ok (.getfield 18, 3) := by decide +kernel
theorem dX7_meetAll_86 : decode cX7_meetAll 86 = .ok (.getfield 44, 3) := by decide +kernel
theorem dX7_meetAll_89 : decode cX7_meetAll 89 = .ok (.iload_n 3, 1) := by decide +kernel
theorem dX7_meetAll_90 : decode cX7_meetAll 90 = .ok (.iaload, 1) := by decide +kernel
theorem dX7_meetAll_91 : decode cX7_meetAll 91 = .ok (.iload_n 1, 1) := by decide +kernel
theorem dX7_meetAll_92 : decode cX7_meetAll 92 = .ok (.invokevirtual 54, 3) := by decide +kernel
theorem dX7_meetAll_95 : decode cX7_meetAll 95 = .ok (.ior, 1) := by decide +kernel
theorem dX7_meetAll_96 : decode cX7_meetAll 96 = .ok (.istore_n 2, 1) := by decide +kernel
theorem dX7_meetAll_97 : decode cX7_meetAll 97 = .ok (.iinc 3 1, 3) := by decide +kernel
theorem dX7_meetAll_100 : decode cX7_meetAll 100 = .ok (.goto (-96), 3) := by decide +kernel
theorem dX7_meetAll_103 : decode cX7_meetAll 103 = .ok (.iload_n 2, 1) := by decide +kernel
theorem dX7_meetAll_104 : decode cX7_meetAll 104 = .ok (.ireturn, 1) := by decide +kernel
theorem dX7_tells_0 : decode cX7_tells 0 = .ok (.iload_n 1, 1) := by decide +kernel
theorem dX7_tells_1 : decode cX7_tells 1 = .ok (.iload 4, 2) := by decide +kernel
theorem dX7_tells_3 : decode cX7_tells 3 = .ok (.if_icmp .eq 26, 3) := by decide +kernel
theorem dX7_tells_6 : decode cX7_tells 6 = .ok (.aload_n 0, 1) := by decide +kernel
theorem dX7_tells_7 : decode cX7_tells 7 = .ok (.getfield 9, 3) := by decide +kernel
theorem dX7_tells_10 : decode cX7_tells 10 = .ok (.iload_n 1, 1) := by decide +kernel
theorem dX7_tells_11 : decode cX7_tells 11 = .ok (.iaload, 1) := by decide +kernel
theorem dX7_tells_12 : decode cX7_tells 12 = .ok (.iload_n 3, 1) := by decide +kernel
theorem dX7_tells_13 : decode cX7_tells 13 = .ok (.if_icmp .gt 16, 3) := by decide +kernel
theorem dX7_tells_16 : decode cX7_tells 16 = .ok (.aload_n 0, 1) := by decide +kernel
theorem dX7_tells_17 : decode cX7_tells 17 = .ok (.iload_n 2, 1) := by decide +kernel
theorem dX7_tells_18 : decode cX7_tells 18 = .ok (.iload_n 3, 1) := by decide +kernel
theorem dX7_tells_19 : decode cX7_tells 19 = .ok (.invokevirtual 47, 3) := by decide +kernel
theorem dX7_tells_22 : decode cX7_tells 22 = .ok (.ifCond .eq 7, 3) := by decide +kernel
theorem dX7_tells_25 : decode cX7_tells 25 = .ok (.iconst 1, 1) := by decide +kernel
theorem dX7_tells_26 : decode cX7_tells 26 = .ok (.goto 4, 3) := by decide +kernel
theorem dX7_tells_29 : decode cX7_tells 29 = .ok (.iconst 0, 1) := by decide +kernel
theorem dX7_tells_30 : decode cX7_tells 30 = .ok (.ireturn, 1) := by decide +kernel
theorem dX7_hears_0 : decode cX7_hears 0 = .ok (.aload_n 0, 1) := by decide +kernel
theorem dX7_hears_1 : decode cX7_hears 1 = .ok (.getfield 9, 3) := by decide +kernel
theorem dX7_hears_4 : decode cX7_hears 4 = .ok (.iload_n 1, 1) := by decide +kernel
theorem dX7_hears_5 : decode cX7_hears 5 = .ok (.iaload, 1) := by decide +kernel
theorem dX7_hears_6 : decode cX7_hears 6 = .ok (.iload_n 2, 1) := by decide +kernel
theorem dX7_hears_7 : decode cX7_hears 7 = .ok (.if_icmp .gt 5, 3) := by decide +kernel
theorem dX7_hears_10 : decode cX7_hears 10 = .ok (.iconst 0, 1) := by decide +kernel
theorem dX7_hears_11 : decode cX7_hears 11 = .ok (.ireturn, 1) := by decide +kernel
theorem dX7_hears_12 : decode cX7_hears 12 = .ok (.aload_n 0, 1) := by decide +kernel
theorem dX7_hears_13 : decode cX7_hears 13 = .ok (.getfield 9, 3) := by decide +kernel
theorem dX7_hears_16 : decode cX7_hears 16 = .ok (.iload_n 1, 1) := by decide +kernel
theorem dX7_hears_17 : decode cX7_hears 17 = .ok (.iload_n 2, 1) := by decide +kernel
theorem dX7_hears_18 : decode cX7_hears 18 = .ok (.iastore, 1) := by decide +kernel
theorem dX7_hears_19 : decode cX7_hears 19 = .ok (.iconst 1, 1) := by decide +kernel
theorem dX7_hears_20 : decode cX7_hears 20 = .ok (.ireturn, 1) := by decide +kernel
theorem dX7_explain_0 : decode cX7_explain 0 = .ok (.aload_n 0, 1) := by decide +kernel
theorem dX7_explain_1 : decode cX7_explain 1 = .ok (.getfield 18, 3) := by decide +kernel
theorem dX7_explain_4 : decode cX7_explain 4 = .ok (.getfield 38, 3) := by decide +kernel
theorem dX7_explain_7 : decode cX7_explain 7 = .ok (.iload_n 1, 1) := by decide +kernel
theorem dX7_explain_8 : decode cX7_explain 8 = .ok (.iaload, 1) := by decide +kernel
theorem dX7_explain_9 : decode cX7_explain 9 = .ok (.istore_n 2, 1) := by decide +kernel
theorem dX7_explain_10 : decode cX7_explain 10 = .ok (.aload_n 0, 1) := by decide +kernel
theorem dX7_explain_11 : decode cX7_explain 11 = .ok (.getfield 18, 3) := by decide +kernel
theorem dX7_explain_14 : decode cX7_explain 14 = .ok (.getfield 41, 3) := by decide +kernel
theorem dX7_explain_17 : decode cX7_explain 17 = .ok (.iload_n 1, 1) := by decide +kernel
theorem dX7_explain_18 : decode cX7_explain 18 = .ok (.iaload, 1) := by decide +kernel
theorem dX7_explain_19 : decode cX7_explain 19 = .ok (.istore_n 3, 1) := by decide +kernel
theorem dX7_explain_20 : decode cX7_explain 20 = .ok (.aload_n 0, 1) := by decide +kernel
theorem dX7_explain_21 : decode cX7_explain 21 = .ok (.getfield 18, 3) := by decide +kernel
theorem dX7_explain_24 : decode cX7_explain 24 = .ok (.getfield 44, 3) := by decide +kernel
theorem dX7_explain_27 : decode cX7_explain 27 = .ok (.iload_n 1, 1) := by decide +kernel
theorem dX7_explain_28 : decode cX7_explain 28 = .ok (.iaload, 1) := by decide +kernel
theorem dX7_explain_29 : decode cX7_explain 29 = .ok (.istore 4, 2) := by decide +kernel
theorem dX7_explain_31 : decode cX7_explain 31 = .ok (.iconst 0, 1) := by decide +kernel
theorem dX7_explain_32 : decode cX7_explain 32 = .ok (.istore 5, 2) := by decide +kernel
theorem dX7_explain_34 : decode cX7_explain 34 = .ok (.iload 5, 2) := by decide +kernel
theorem dX7_explain_36 : decode cX7_explain 36 = .ok (.aload_n 0, 1) := by decide +kernel
theorem dX7_explain_37 : decode cX7_explain 37 = .ok (.getfield 18, 3) := by decide +kernel
theorem dX7_explain_40 : decode cX7_explain 40 = .ok (.getfield 28, 3) := by decide +kernel
theorem dX7_explain_43 : decode cX7_explain 43 = .ok (.if_icmp .ge 67, 3) := by decide +kernel
theorem dX7_explain_46 : decode cX7_explain 46 = .ok (.aload_n 0, 1) := by decide +kernel
theorem dX7_explain_47 : decode cX7_explain 47 = .ok (.getfield 18, 3) := by decide +kernel
theorem dX7_explain_50 : decode cX7_explain 50 = .ok (.iload 5, 2) := by decide +kernel
theorem dX7_explain_52 : decode cX7_explain 52 = .ok (.iconst 0, 1) := by decide +kernel
theorem dX7_explain_53 : decode cX7_explain 53 = .ok (.invokevirtual 34, 3) := by decide +kernel
theorem dX7_explain_56 : decode cX7_explain 56 = .ok (.ifCond .eq 48, 3) := by decide +kernel
theorem dX7_explain_59 : decode cX7_explain 59 = .ok (.aload_n 0, 1) := by decide +kernel
theorem dX7_explain_60 : decode cX7_explain 60 = .ok (.getfield 18, 3) := by decide +kernel
theorem dX7_explain_63 : decode cX7_explain 63 = .ok (.getfield 38, 3) := by decide +kernel
theorem dX7_explain_66 : decode cX7_explain 66 = .ok (.iload 5, 2) := by decide +kernel
theorem dX7_explain_68 : decode cX7_explain 68 = .ok (.iaload, 1) := by decide +kernel
theorem dX7_explain_69 : decode cX7_explain 69 = .ok (.iload_n 2, 1) := by decide +kernel
theorem dX7_explain_70 : decode cX7_explain 70 = .ok (.if_icmp .ne 34, 3) := by decide +kernel
theorem dX7_explain_73 : decode cX7_explain 73 = .ok (.aload_n 0, 1) := by decide +kernel
theorem dX7_explain_74 : decode cX7_explain 74 = .ok (.getfield 18, 3) := by decide +kernel
theorem dX7_explain_77 : decode cX7_explain 77 = .ok (.getfield 41, 3) := by decide +kernel
theorem dX7_explain_80 : decode cX7_explain 80 = .ok (.iload 5, 2) := by decide +kernel
theorem dX7_explain_82 : decode cX7_explain 82 = .ok (.iaload, 1) := by decide +kernel
theorem dX7_explain_83 : decode cX7_explain 83 = .ok (.iload_n 3, 1) := by decide +kernel
theorem dX7_explain_84 : decode cX7_explain 84 = .ok (.if_icmp .ne 20, 3) := by decide +kernel
theorem dX7_explain_87 : decode cX7_explain 87 = .ok (.aload_n 0, 1) := by decide +kernel
theorem dX7_explain_88 : decode cX7_explain 88 = .ok (.getfield 18, 3) := by decide +kernel
theorem dX7_explain_91 : decode cX7_explain 91 = .ok (.getfield 44, 3) := by decide +kernel
theorem dX7_explain_94 : decode cX7_explain 94 = .ok (.iload 5, 2) := by decide +kernel
theorem dX7_explain_96 : decode cX7_explain 96 = .ok (.iaload, 1) := by decide +kernel
theorem dX7_explain_97 : decode cX7_explain 97 = .ok (.iload 4, 2) := by decide +kernel
theorem dX7_explain_99 : decode cX7_explain 99 = .ok (.if_icmp .gt 5, 3) := by decide +kernel
theorem dX7_explain_102 : decode cX7_explain 102 = .ok (.iconst 2, 1) := by decide +kernel
theorem dX7_explain_103 : decode cX7_explain 103 = .ok (.ireturn, 1) := by decide +kernel
theorem dX7_explain_104 : decode cX7_explain 104 = .ok (.iinc 5 1, 3) := by decide +kernel
theorem dX7_explain_107 : decode cX7_explain 107 = .ok (.goto (-73), 3) := by decide +kernel
theorem dX7_explain_110 : decode cX7_explain 110 = .ok (.aload_n 0, 1) := by decide +kernel
theorem dX7_explain_111 : decode cX7_explain 111 = .ok (.iload_n 2, 1) := by decide +kernel
theorem dX7_explain_112 : decode cX7_explain 112 = .ok (.iconst (-1), 1) := by decide +kernel
theorem dX7_explain_113 : decode cX7_explain 113 = .ok (.invokevirtual 58, 3) := by decide +kernel
theorem dX7_explain_116 : decode cX7_explain 116 = .ok (.aload_n 0, 1) := by decide +kernel
theorem dX7_explain_117 : decode cX7_explain 117 = .ok (.getfield 9, 3) := by decide +kernel
theorem dX7_explain_120 : decode cX7_explain 120 = .ok (.iload_n 3, 1) := by decide +kernel
theorem dX7_explain_121 : decode cX7_explain 121 = .ok (.iaload, 1) := by decide +kernel
theorem dX7_explain_122 : decode cX7_explain 122 = .ok (.iload 4, 2) := by decide +kernel
theorem dX7_explain_124 : decode cX7_explain 124 = .ok (.if_icmp .gt 7, 3) := by decide +kernel
theorem dX7_explain_127 : decode cX7_explain 127 = .ok (.iconst 1, 1) := by decide +kernel
theorem dX7_explain_128 : decode cX7_explain 128 = .ok (.goto 4, 3) := by decide +kernel
theorem dX7_explain_131 : decode cX7_explain 131 = .ok (.iconst 0, 1) := by decide +kernel
theorem dX7_explain_132 : decode cX7_explain 132 = .ok (.ireturn, 1) := by decide +kernel
theorem dX7_carriers_0 : decode cX7_carriers 0 = .ok (.iconst 0, 1) := by decide +kernel
theorem dX7_carriers_1 : decode cX7_carriers 1 = .ok (.istore_n 1, 1) := by decide +kernel
theorem dX7_carriers_2 : decode cX7_carriers 2 = .ok (.iconst 0, 1) := by decide +kernel
theorem dX7_carriers_3 : decode cX7_carriers 3 = .ok (.istore_n 2, 1) := by decide +kernel
theorem dX7_carriers_4 : decode cX7_carriers 4 = .ok (.iload_n 2, 1) := by decide +kernel
theorem dX7_carriers_5 : decode cX7_carriers 5 = .ok (.bipush 12, 2) := by decide +kernel
theorem dX7_carriers_7 : decode cX7_carriers 7 = .ok (.if_icmp .ge 25, 3) := by decide +kernel
theorem dX7_carriers_10 : decode cX7_carriers 10 = .ok (.aload_n 0, 1) := by decide +kernel
theorem dX7_carriers_11 : decode cX7_carriers 11 = .ok (.iload_n 2, 1) := by decide +kernel
theorem dX7_carriers_12 : decode cX7_carriers 12 = .ok (.invokevirtual 62, 3) := by decide +kernel
theorem dX7_carriers_15 : decode cX7_carriers 15 = .ok (.ifCond .eq 11, 3) := by decide +kernel
theorem dX7_carriers_18 : decode cX7_carriers 18 = .ok (.iload_n 1, 1) := by decide +kernel
theorem dX7_carriers_19 : decode cX7_carriers 19 = .ok (.aload_n 0, 1) := by decide +kernel
theorem dX7_carriers_20 : decode cX7_carriers 20 = .ok (.iload_n 2, 1) := by decide +kernel
theorem dX7_carriers_21 : decode cX7_carriers 21 = .ok (.invokevirtual 65, 3) := by decide +kernel
theorem dX7_carriers_24 : decode cX7_carriers 24 = .ok (.ior, 1) := by decide +kernel
theorem dX7_carriers_25 : decode cX7_carriers 25 = .ok (.istore_n 1, 1) := by decide +kernel
theorem dX7_carriers_26 : decode cX7_carriers 26 = .ok (.iinc 2 1, 3) := by decide +kernel
theorem dX7_carriers_29 : decode cX7_carriers 29 = .ok (.goto (-25), 3) := by decide +kernel
theorem dX7_carriers_32 : decode cX7_carriers 32 = .ok (.iload_n 1, 1) := by decide +kernel
theorem dX7_carriers_33 : decode cX7_carriers 33 = .ok (.ireturn, 1) := by decide +kernel
theorem dX7_hasAct_0 : decode cX7_hasAct 0 = .ok (.iconst 0, 1) := by decide +kernel
theorem dX7_hasAct_1 : decode cX7_hasAct 1 = .ok (.istore_n 2, 1) := by decide +kernel
theorem dX7_hasAct_2 : decode cX7_hasAct 2 = .ok (.iload_n 2, 1) := by decide +kernel
theorem dX7_hasAct_3 : decode cX7_hasAct 3 = .ok (.aload_n 0, 1) := by decide +kernel
theorem dX7_hasAct_4 : decode cX7_hasAct 4 = .ok (.getfield 18, 3) := by decide +kernel
theorem dX7_hasAct_7 : decode cX7_hasAct 7 = .ok (.getfield 28, 3) := by decide +kernel
theorem dX7_hasAct_10 : decode cX7_hasAct 10 = .ok (.if_icmp .ge 36, 3) := by decide +kernel
theorem dX7_hasAct_13 : decode cX7_hasAct 13 = .ok (.aload_n 0, 1) := by decide +kernel
theorem dX7_hasAct_14 : decode cX7_hasAct 14 = .ok (.getfield 18, 3) := by decide +kernel
theorem dX7_hasAct_17 : decode cX7_hasAct 17 = .ok (.iload_n 2, 1) := by decide +kernel
theorem dX7_hasAct_18 : decode cX7_hasAct 18 = .ok (.iconst 2, 1) := by decide +kernel
theorem dX7_hasAct_19 : decode cX7_hasAct 19 = .ok (.invokevirtual 34, 3) := by decide +kernel
theorem dX7_hasAct_22 : decode cX7_hasAct 22 = .ok (.ifCond .eq 18, 3) := by decide +kernel
theorem dX7_hasAct_25 : decode cX7_hasAct 25 = .ok (.aload_n 0, 1) := by decide +kernel
theorem dX7_hasAct_26 : decode cX7_hasAct 26 = .ok (.getfield 18, 3) := by decide +kernel
theorem dX7_hasAct_29 : decode cX7_hasAct 29 = .ok (.getfield 38, 3) := by decide +kernel
theorem dX7_hasAct_32 : decode cX7_hasAct 32 = .ok (.iload_n 2, 1) := by decide +kernel
theorem dX7_hasAct_33 : decode cX7_hasAct 33 = .ok (.iaload, 1) := by decide +kernel
theorem dX7_hasAct_34 : decode cX7_hasAct 34 = .ok (.iload_n 1, 1) := by decide +kernel
theorem dX7_hasAct_35 : decode cX7_hasAct 35 = .ok (.if_icmp .ne 5, 3) := by decide +kernel
theorem dX7_hasAct_38 : decode cX7_hasAct 38 = .ok (.iconst 1, 1) := by decide +kernel
theorem dX7_hasAct_39 : decode cX7_hasAct 39 = .ok (.ireturn, 1) := by decide +kernel
theorem dX7_hasAct_40 : decode cX7_hasAct 40 = .ok (.iinc 2 1, 3) := by decide +kernel
theorem dX7_hasAct_43 : decode cX7_hasAct 43 = .ok (.goto (-41), 3) := by decide +kernel
theorem dX7_hasAct_46 : decode cX7_hasAct 46 = .ok (.iconst 0, 1) := by decide +kernel
theorem dX7_hasAct_47 : decode cX7_hasAct 47 = .ok (.ireturn, 1) := by decide +kernel
theorem dX7_carriersOf_0 : decode cX7_carriersOf 0 = .ok (.aload_n 0, 1) := by decide +kernel
theorem dX7_carriersOf_1 : decode cX7_carriersOf 1 = .ok (.iload_n 1, 1) := by decide +kernel
theorem dX7_carriersOf_2 : decode cX7_carriersOf 2 = .ok (.iconst (-1), 1) := by decide +kernel
theorem dX7_carriersOf_3 : decode cX7_carriersOf 3 = .ok (.invokevirtual 58, 3) := by decide +kernel
theorem dX7_carriersOf_6 : decode cX7_carriersOf 6 = .ok (.aload_n 0, 1) := by decide +kernel
theorem dX7_carriersOf_7 : decode cX7_carriersOf 7 = .ok (.getfield 9, 3) := by decide +kernel
theorem dX7_carriersOf_10 : decode cX7_carriersOf 10 = .ok (.iconst 0, 1) := by decide +kernel
theorem dX7_carriersOf_11 : decode cX7_carriersOf 11 = .ok (.aload_n 0, 1) := by decide +kernel
theorem dX7_carriersOf_12 : decode cX7_carriersOf 12 = .ok (.getfield 15, 3) := by decide +kernel
theorem dX7_carriersOf_15 : decode cX7_carriersOf 15 = .ok (.iconst 0, 1) := by decide +kernel
theorem dX7_carriersOf_16 : decode cX7_carriersOf 16 = .ok (.bipush 8, 2) := by decide +kernel
theorem dX7_carriersOf_18 : decode cX7_carriersOf 18 = .ok (.invokestatic 69, 3) := by decide +kernel
theorem dX7_carriersOf_21 : decode cX7_carriersOf 21 = .ok (.iconst 0, 1) := by decide +kernel
theorem dX7_carriersOf_22 : decode cX7_carriersOf 22 = .ok (.istore_n 2, 1) := by decide +kernel
theorem dX7_carriersOf_23 : decode cX7_carriersOf 23 = .ok (.iconst 0, 1) := by decide +kernel
theorem dX7_carriersOf_24 : decode cX7_carriersOf 24 = .ok (.istore_n 3, 1) := by decide +kernel
theorem dX7_carriersOf_25 : decode cX7_carriersOf 25 = .ok (.iload_n 3, 1) := by decide +kernel
theorem dX7_carriersOf_26 : decode cX7_carriersOf 26 = .ok (.bipush 8, 2) := by decide +kernel
theorem dX7_carriersOf_28 : decode cX7_carriersOf 28 = .ok (.if_icmp .ge 45, 3) := by decide +kernel
theorem dX7_carriersOf_31 : decode cX7_carriersOf 31 = .ok (.aload_n 0, 1) := by decide +kernel
theorem dX7_carriersOf_32 : decode cX7_carriersOf 32 = .ok (.getfield 15, 3) := by decide +kernel
theorem dX7_carriersOf_35 : decode cX7_carriersOf 35 = .ok (.iload_n 3, 1) := by decide +kernel
theorem dX7_carriersOf_36 : decode cX7_carriersOf 36 = .ok (.iaload, 1) := by decide +kernel
theorem dX7_carriersOf_37 : decode cX7_carriersOf 37 = .ok (.sipush 1000, 3) := by decide +kernel
theorem dX7_carriersOf_40 : decode cX7_carriersOf 40 = .ok (.if_icmp .eq 27, 3) := by decide +kernel
theorem dX7_carriersOf_43 : decode cX7_carriersOf 43 = .ok (.aload_n 0, 1) := by decide +kernel
theorem dX7_carriersOf_44 : decode cX7_carriersOf 44 = .ok (.iload_n 1, 1) := by decide +kernel
theorem dX7_carriersOf_45 : decode cX7_carriersOf 45 = .ok (.iload_n 3, 1) := by decide +kernel
theorem dX7_carriersOf_46 : decode cX7_carriersOf 46 = .ok (.invokevirtual 58, 3) := by decide +kernel
theorem dX7_carriersOf_49 : decode cX7_carriersOf 49 = .ok (.iload_n 2, 1) := by decide +kernel
theorem dX7_carriersOf_50 : decode cX7_carriersOf 50 = .ok (.aload_n 0, 1) := by decide +kernel
theorem dX7_carriersOf_51 : decode cX7_carriersOf 51 = .ok (.iload_n 1, 1) := by decide +kernel
theorem dX7_carriersOf_52 : decode cX7_carriersOf 52 = .ok (.invokevirtual 75, 3) := by decide +kernel
theorem dX7_carriersOf_55 : decode cX7_carriersOf 55 = .ok (.ifCond .eq 9, 3) := by decide +kernel
theorem dX7_carriersOf_58 : decode cX7_carriersOf 58 = .ok (.iconst 1, 1) := by decide +kernel
theorem dX7_carriersOf_59 : decode cX7_carriersOf 59 = .ok (.iload_n 3, 1) := by decide +kernel
theorem dX7_carriersOf_60 : decode cX7_carriersOf 60 = .ok (.ishl, 1) := by decide +kernel
theorem dX7_carriersOf_61 : decode cX7_carriersOf 61 = .ok (.goto 4, 3) := by decide +kernel
theorem dX7_carriersOf_64 : decode cX7_carriersOf 64 = .ok (.iconst 0, 1) := by decide +kernel
theorem dX7_carriersOf_65 : decode cX7_carriersOf 65 = .ok (.ior, 1) := by decide +kernel
theorem dX7_carriersOf_66 : decode cX7_carriersOf 66 = .ok (.istore_n 2, 1) := by decide +kernel
theorem dX7_carriersOf_67 : decode cX7_carriersOf 67 = .ok (.iinc 3 1, 3) := by decide +kernel
theorem dX7_carriersOf_70 : decode cX7_carriersOf 70 = .ok (.goto (-45), 3) := by decide +kernel
theorem dX7_carriersOf_73 : decode cX7_carriersOf 73 = .ok (.iload_n 2, 1) := by decide +kernel
theorem dX7_carriersOf_74 : decode cX7_carriersOf 74 = .ok (.ireturn, 1) := by decide +kernel
theorem dX7_losesAct_0 : decode cX7_losesAct 0 = .ok (.iconst 0, 1) := by decide +kernel
theorem dX7_losesAct_1 : decode cX7_losesAct 1 = .ok (.istore_n 2, 1) := by decide +kernel
theorem dX7_losesAct_2 : decode cX7_losesAct 2 = .ok (.iload_n 2, 1) := by decide +kernel
theorem dX7_losesAct_3 : decode cX7_losesAct 3 = .ok (.aload_n 0, 1) := by decide +kernel
theorem dX7_losesAct_4 : decode cX7_losesAct 4 = .ok (.getfield 18, 3) := by decide +kernel
theorem dX7_losesAct_7 : decode cX7_losesAct 7 = .ok (.getfield 28, 3) := by decide +kernel
theorem dX7_losesAct_10 : decode cX7_losesAct 10 = .ok (.if_icmp .ge 79, 3) := by decide +kernel
theorem dX7_losesAct_13 : decode cX7_losesAct 13 = .ok (.aload_n 0, 1) := by decide +kernel
theorem dX7_losesAct_14 : decode cX7_losesAct 14 = .ok (.getfield 18, 3) := by decide +kernel
theorem dX7_losesAct_17 : decode cX7_losesAct 17 = .ok (.iload_n 2, 1) := by decide +kernel
theorem dX7_losesAct_18 : decode cX7_losesAct 18 = .ok (.iconst 2, 1) := by decide +kernel
theorem dX7_losesAct_19 : decode cX7_losesAct 19 = .ok (.invokevirtual 34, 3) := by decide +kernel
theorem dX7_losesAct_22 : decode cX7_losesAct 22 = .ok (.ifCond .eq 61, 3) := by decide +kernel
theorem dX7_losesAct_25 : decode cX7_losesAct 25 = .ok (.aload_n 0, 1) := by decide +kernel
theorem dX7_losesAct_26 : decode cX7_losesAct 26 = .ok (.getfield 18, 3) := by decide +kernel
theorem dX7_losesAct_29 : decode cX7_losesAct 29 = .ok (.getfield 38, 3) := by decide +kernel
theorem dX7_losesAct_32 : decode cX7_losesAct 32 = .ok (.iload_n 2, 1) := by decide +kernel
theorem dX7_losesAct_33 : decode cX7_losesAct 33 = .ok (.iaload, 1) := by decide +kernel
theorem dX7_losesAct_34 : decode cX7_losesAct 34 = .ok (.iload_n 1, 1) := by decide +kernel
theorem dX7_losesAct_35 : decode cX7_losesAct 35 = .ok (.if_icmp .ne 48, 3) := by decide +kernel
theorem dX7_losesAct_38 : decode cX7_losesAct 38 = .ok (.aload_n 0, 1) := by decide +kernel
theorem dX7_losesAct_39 : decode cX7_losesAct 39 = .ok (.getfield 18, 3) := by decide +kernel
theorem dX7_losesAct_42 : decode cX7_losesAct 42 = .ok (.getfield 41, 3) := by decide +kernel
theorem dX7_losesAct_45 : decode cX7_losesAct 45 = .ok (.iload_n 2, 1) := by decide +kernel
theorem dX7_losesAct_46 : decode cX7_losesAct 46 = .ok (.iaload, 1) := by decide +kernel
theorem dX7_losesAct_47 : decode cX7_losesAct 47 = .ok (.istore_n 3, 1) := by decide +kernel
theorem dX7_losesAct_48 : decode cX7_losesAct 48 = .ok (.aload_n 0, 1) := by decide +kernel
theorem dX7_losesAct_49 : decode cX7_losesAct 49 = .ok (.getfield 18, 3) := by decide +kernel
theorem dX7_losesAct_52 : decode cX7_losesAct 52 = .ok (.getfield 44, 3) := by decide +kernel
theorem dX7_losesAct_55 : decode cX7_losesAct 55 = .ok (.iload_n 2, 1) := by decide +kernel
theorem dX7_losesAct_56 : decode cX7_losesAct 56 = .ok (.iaload, 1) := by decide +kernel
theorem dX7_losesAct_57 : decode cX7_losesAct 57 = .ok (.istore 4, 2) := by decide +kernel
theorem dX7_losesAct_59 : decode cX7_losesAct 59 = .ok (.aload_n 0, 1) := by decide +kernel
theorem dX7_losesAct_60 : decode cX7_losesAct 60 = .ok (.getfield 15, 3) := by decide +kernel
theorem dX7_losesAct_63 : decode cX7_losesAct 63 = .ok (.iload_n 3, 1) := by decide +kernel
theorem dX7_losesAct_64 : decode cX7_losesAct 64 = .ok (.iaload, 1) := by decide +kernel
theorem dX7_losesAct_65 : decode cX7_losesAct 65 = .ok (.iload 4, 2) := by decide +kernel
theorem dX7_losesAct_67 : decode cX7_losesAct 67 = .ok (.if_icmp .gt 16, 3) := by decide +kernel
theorem dX7_losesAct_70 : decode cX7_losesAct 70 = .ok (.aload_n 0, 1) := by decide +kernel
theorem dX7_losesAct_71 : decode cX7_losesAct 71 = .ok (.getfield 9, 3) := by decide +kernel
theorem dX7_losesAct_74 : decode cX7_losesAct 74 = .ok (.iload_n 3, 1) := by decide +kernel
theorem dX7_losesAct_75 : decode cX7_losesAct 75 = .ok (.iaload, 1) := by decide +kernel
theorem dX7_losesAct_76 : decode cX7_losesAct 76 = .ok (.iload 4, 2) := by decide +kernel
theorem dX7_losesAct_78 : decode cX7_losesAct 78 = .ok (.if_icmp .le 5, 3) := by decide +kernel
theorem dX7_losesAct_81 : decode cX7_losesAct 81 = .ok (.iconst 1, 1) := by decide +kernel
theorem dX7_losesAct_82 : decode cX7_losesAct 82 = .ok (.ireturn, 1) := by decide +kernel
theorem dX7_losesAct_83 : decode cX7_losesAct 83 = .ok (.iinc 2 1, 3) := by decide +kernel
theorem dX7_losesAct_86 : decode cX7_losesAct 86 = .ok (.goto (-84), 3) := by decide +kernel
theorem dX7_losesAct_89 : decode cX7_losesAct 89 = .ok (.iconst 0, 1) := by decide +kernel
theorem dX7_losesAct_90 : decode cX7_losesAct 90 = .ok (.ireturn, 1) := by decide +kernel
