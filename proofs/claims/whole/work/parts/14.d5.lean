theorem dX1_init_0 : decode cX1_init 0 = .ok (.aload_n 0, 1) := by decide +kernel
theorem dX1_init_1 : decode cX1_init 1 = .ok (.invokespecial 3, 3) := by decide +kernel
theorem dX1_init_4 : decode cX1_init 4 = .ok (.aload_n 0, 1) := by decide +kernel
theorem dX1_init_5 : decode cX1_init 5 = .ok (.bipush 12, 2) := by decide +kernel
theorem dX1_init_7 : decode cX1_init 7 = .ok (.newarray .int, 2) := by decide +kernel
theorem dX1_init_9 : decode cX1_init 9 = .ok (.putfield 9, 3) := by decide +kernel
theorem dX1_init_12 : decode cX1_init 12 = .ok (.aload_n 0, 1) := by decide +kernel
theorem dX1_init_13 : decode cX1_init 13 = .ok (.bipush 12, 2) := by decide +kernel
theorem dX1_init_15 : decode cX1_init 15 = .ok (.newarray .int, 2) := by decide +kernel
theorem dX1_init_17 : decode cX1_init 17 = .ok (.putfield 15, 3) := by decide +kernel
theorem dX1_init_20 : decode cX1_init 20 = .ok (.return_, 1) := by decide +kernel
theorem dX1_has_0 : decode cX1_has 0 = .ok (.iload_n 1, 1) := by decide +kernel
theorem dX1_has_1 : decode cX1_has 1 = .ok (.ifCond .lt 15, 3) := by decide +kernel
theorem dX1_has_4 : decode cX1_has 4 = .ok (.iload_n 1, 1) := by decide +kernel
theorem dX1_has_5 : decode cX1_has 5 = .ok (.aload_n 0, 1) := by decide +kernel
theorem dX1_has_6 : decode cX1_has 6 = .ok (.getfield 18, 3) := by decide +kernel
theorem dX1_has_9 : decode cX1_has 9 = .ok (.if_icmp .ge 7, 3) := by decide +kernel
theorem dX1_has_12 : decode cX1_has 12 = .ok (.iconst 1, 1) := by decide +kernel
theorem dX1_has_13 : decode cX1_has 13 = .ok (.goto 4, 3) := by decide +kernel
theorem dX1_has_16 : decode cX1_has 16 = .ok (.iconst 0, 1) := by decide +kernel
theorem dX1_has_17 : decode cX1_has 17 = .ok (.ireturn, 1) := by decide +kernel
theorem dX1_add_0 : decode cX1_add 0 = .ok (.aload_n 0, 1) := by decide +kernel
theorem dX1_add_1 : decode cX1_add 1 = .ok (.getfield 18, 3) := by decide +kernel
theorem dX1_add_4 : decode cX1_add 4 = .ok (.bipush 12, 2) := by decide +kernel
theorem dX1_add_6 : decode cX1_add 6 = .ok (.if_icmp .lt 5, 3) := by decide +kernel
theorem dX1_add_9 : decode cX1_add 9 = .ok (.iconst (-1), 1) := by decide +kernel
theorem dX1_add_10 : decode cX1_add 10 = .ok (.ireturn, 1) := by decide +kernel
theorem dX1_add_11 : decode cX1_add 11 = .ok (.aload_n 0, 1) := by decide +kernel
theorem dX1_add_12 : decode cX1_add 12 = .ok (.getfield 9, 3) := by decide +kernel
theorem dX1_add_15 : decode cX1_add 15 = .ok (.aload_n 0, 1) := by decide +kernel
theorem dX1_add_16 : decode cX1_add 16 = .ok (.getfield 18, 3) := by decide +kernel
theorem dX1_add_19 : decode cX1_add 19 = .ok (.iload_n 1, 1) := by decide +kernel
theorem dX1_add_20 : decode cX1_add 20 = .ok (.iastore, 1) := by decide +kernel
theorem dX1_add_21 : decode cX1_add 21 = .ok (.aload_n 0, 1) := by decide +kernel
theorem dX1_add_22 : decode cX1_add 22 = .ok (.getfield 15, 3) := by decide +kernel
theorem dX1_add_25 : decode cX1_add 25 = .ok (.aload_n 0, 1) := by decide +kernel
theorem dX1_add_26 : decode cX1_add 26 = .ok (.getfield 18, 3) := by decide +kernel
theorem dX1_add_29 : decode cX1_add 29 = .ok (.iload_n 2, 1) := by decide +kernel
theorem dX1_add_30 : decode cX1_add 30 = .ok (.iastore, 1) := by decide +kernel
theorem dX1_add_31 : decode cX1_add 31 = .ok (.aload_n 0, 1) := by decide +kernel
theorem dX1_add_32 : decode cX1_add 32 = .ok (.dup, 1) := by decide +kernel
theorem dX1_add_33 : decode cX1_add 33 = .ok (.getfield 18, 3) := by decide +kernel
theorem dX1_add_36 : decode cX1_add 36 = .ok (.iconst 1, 1) := by decide +kernel
theorem dX1_add_37 : decode cX1_add 37 = .ok (.iadd, 1) := by decide +kernel
theorem dX1_add_38 : decode cX1_add 38 = .ok (.putfield 18, 3) := by decide +kernel
theorem dX1_add_41 : decode cX1_add 41 = .ok (.aload_n 0, 1) := by decide +kernel
theorem dX1_add_42 : decode cX1_add 42 = .ok (.getfield 18, 3) := by decide +kernel
theorem dX1_add_45 : decode cX1_add 45 = .ok (.iconst 1, 1) := by decide +kernel
theorem dX1_add_46 : decode cX1_add 46 = .ok (.isub, 1) := by decide +kernel
theorem dX1_add_47 : decode cX1_add 47 = .ok (.ireturn, 1) := by decide +kernel
theorem dX5_init_0 : decode cX5_init 0 = .ok (.aload_n 0, 1) := by decide +kernel
theorem dX5_init_1 : decode cX5_init 1 = .ok (.invokespecial 3, 3) := by decide +kernel
theorem dX5_init_4 : decode cX5_init 4 = .ok (.aload_n 0, 1) := by decide +kernel
theorem dX5_init_5 : decode cX5_init 5 = .ok (.bipush 80, 2) := by decide +kernel
theorem dX5_init_7 : decode cX5_init 7 = .ok (.newarray .int, 2) := by decide +kernel
theorem dX5_init_9 : decode cX5_init 9 = .ok (.putfield 11, 3) := by decide +kernel
theorem dX5_init_12 : decode cX5_init 12 = .ok (.aload_n 0, 1) := by decide +kernel
theorem dX5_init_13 : decode cX5_init 13 = .ok (.bipush 80, 2) := by decide +kernel
theorem dX5_init_15 : decode cX5_init 15 = .ok (.newarray .int, 2) := by decide +kernel
theorem dX5_init_17 : decode cX5_init 17 = .ok (.putfield 15, 3) := by decide +kernel
theorem dX5_init_20 : decode cX5_init 20 = .ok (.aload_n 0, 1) := by decide +kernel
theorem dX5_init_21 : decode cX5_init 21 = .ok (.bipush 80, 2) := by decide +kernel
theorem dX5_init_23 : decode cX5_init 23 = .ok (.newarray .int, 2) := by decide +kernel
theorem dX5_init_25 : decode cX5_init 25 = .ok (.putfield 18, 3) := by decide +kernel
theorem dX5_init_28 : decode cX5_init 28 = .ok (.aload_n 0, 1) := by decide +kernel
theorem dX5_init_29 : decode cX5_init 29 = .ok (.bipush 80, 2) := by decide +kernel
theorem dX5_init_31 : decode cX5_init 31 = .ok (.newarray .int, 2) := by decide +kernel
theorem dX5_init_33 : decode cX5_init 33 = .ok (.putfield 21, 3) := by decide +kernel
theorem dX5_init_36 : decode cX5_init 36 = .ok (.aload_n 0, 1) := by decide +kernel
theorem dX5_init_37 : decode cX5_init 37 = .ok (.bipush 80, 2) := by decide +kernel
theorem dX5_init_39 : decode cX5_init 39 = .ok (.newarray .int, 2) := by decide +kernel
theorem dX5_init_41 : decode cX5_init 41 = .ok (.putfield 24, 3) := by decide +kernel
theorem dX5_init_44 : decode cX5_init 44 = .ok (.aload_n 0, 1) := by decide +kernel
theorem dX5_init_45 : decode cX5_init 45 = .ok (.bipush 80, 2) := by decide +kernel
theorem dX5_init_47 : decode cX5_init 47 = .ok (.newarray .int, 2) := by decide +kernel
theorem dX5_init_49 : decode cX5_init 49 = .ok (.putfield 27, 3) := by decide +kernel
theorem dX5_init_52 : decode cX5_init 52 = .ok (.aload_n 0, 1) := by decide +kernel
theorem dX5_init_53 : decode cX5_init 53 = .ok (.bipush 80, 2) := by decide +kernel
theorem dX5_init_55 : decode cX5_init 55 = .ok (.newarray .boolean, 2) := by decide +kernel
theorem dX5_init_57 : decode cX5_init 57 = .ok (.putfield 30, 3) := by decide +kernel
theorem dX5_init_60 : decode cX5_init 60 = .ok (.return_, 1) := by decide +kernel
theorem dX5_has_0 : decode cX5_has 0 = .ok (.iload_n 1, 1) := by decide +kernel
theorem dX5_has_1 : decode cX5_has 1 = .ok (.ifCond .lt 15, 3) := by decide +kernel
theorem dX5_has_4 : decode cX5_has 4 = .ok (.iload_n 1, 1) := by decide +kernel
theorem dX5_has_5 : decode cX5_has 5 = .ok (.aload_n 0, 1) := by decide +kernel
theorem dX5_has_6 : decode cX5_has 6 = .ok (.getfield 34, 3) := by decide +kernel
theorem dX5_has_9 : decode cX5_has 9 = .ok (.if_icmp .ge 7, 3) := by decide +kernel
theorem dX5_has_12 : decode cX5_has 12 = .ok (.iconst 1, 1) := by decide +kernel
theorem dX5_has_13 : decode cX5_has 13 = .ok (.goto 4, 3) := by decide +kernel
theorem dX5_has_16 : decode cX5_has 16 = .ok (.iconst 0, 1) := by decide +kernel
theorem dX5_has_17 : decode cX5_has 17 = .ok (.ireturn, 1) := by decide +kernel
theorem dX5_add_0 : decode cX5_add 0 = .ok (.aload_n 0, 1) := by decide +kernel
theorem dX5_add_1 : decode cX5_add 1 = .ok (.getfield 34, 3) := by decide +kernel
theorem dX5_add_4 : decode cX5_add 4 = .ok (.bipush 80, 2) := by decide +kernel
theorem dX5_add_6 : decode cX5_add 6 = .ok (.if_icmp .lt 5, 3) := by decide +kernel
theorem dX5_add_9 : decode cX5_add 9 = .ok (.iconst (-1), 1) := by decide +kernel
theorem dX5_add_10 : decode cX5_add 10 = .ok (.ireturn, 1) := by decide +kernel
theorem dX5_add_11 : decode cX5_add 11 = .ok (.aload_n 0, 1) := by decide +kernel
theorem dX5_add_12 : decode cX5_add 12 = .ok (.getfield 11, 3) := by decide +kernel
theorem dX5_add_15 : decode cX5_add 15 = .ok (.aload_n 0, 1) := by decide +kernel
theorem dX5_add_16 : decode cX5_add 16 = .ok (.getfield 34, 3) := by decide +kernel
theorem dX5_add_19 : decode cX5_add 19 = .ok (.iload_n 1, 1) := by decide +kernel
theorem dX5_add_20 : decode cX5_add 20 = .ok (.iastore, 1) := by decide +kernel
theorem dX5_add_21 : decode cX5_add 21 = .ok (.aload_n 0, 1) := by decide +kernel
theorem dX5_add_22 : decode cX5_add 22 = .ok (.getfield 15, 3) := by decide +kernel
theorem dX5_add_25 : decode cX5_add 25 = .ok (.aload_n 0, 1) := by decide +kernel
theorem dX5_add_26 : decode cX5_add 26 = .ok (.getfield 34, 3) := by decide +kernel
theorem dX5_add_29 : decode cX5_add 29 = .ok (.iload_n 2, 1) := by decide +kernel
theorem dX5_add_30 : decode cX5_add 30 = .ok (.iastore, 1) := by decide +kernel
theorem dX5_add_31 : decode cX5_add 31 = .ok (.aload_n 0, 1) := by decide +kernel
theorem dX5_add_32 : decode cX5_add 32 = .ok (.getfield 18, 3) := by decide +kernel
theorem dX5_add_35 : decode cX5_add 35 = .ok (.aload_n 0, 1) := by decide +kernel
theorem dX5_add_36 : decode cX5_add 36 = .ok (.getfield 34, 3) := by decide +kernel
theorem dX5_add_39 : decode cX5_add 39 = .ok (.iload_n 3, 1) := by decide +kernel
theorem dX5_add_40 : decode cX5_add 40 = .ok (.iastore, 1) := by decide +kernel
theorem dX5_add_41 : decode cX5_add 41 = .ok (.aload_n 0, 1) := by decide +kernel
theorem dX5_add_42 : decode cX5_add 42 = .ok (.getfield 21, 3) := by decide +kernel
theorem dX5_add_45 : decode cX5_add 45 = .ok (.aload_n 0, 1) := by decide +kernel
theorem dX5_add_46 : decode cX5_add 46 = .ok (.getfield 34, 3) := by decide +kernel
theorem dX5_add_49 : decode cX5_add 49 = .ok (.iload 4, 2) := by decide +kernel
theorem dX5_add_51 : decode cX5_add 51 = .ok (.iastore, 1) := by decide +kernel
theorem dX5_add_52 : decode cX5_add 52 = .ok (.aload_n 0, 1) := by decide +kernel
theorem dX5_add_53 : decode cX5_add 53 = .ok (.getfield 24, 3) := by decide +kernel
theorem dX5_add_56 : decode cX5_add 56 = .ok (.aload_n 0, 1) := by decide +kernel
theorem dX5_add_57 : decode cX5_add 57 = .ok (.getfield 34, 3) := by decide +kernel
theorem dX5_add_60 : decode cX5_add 60 = .ok (.iload 5, 2) := by decide +kernel
theorem dX5_add_62 : decode cX5_add 62 = .ok (.iastore, 1) := by decide +kernel
theorem dX5_add_63 : decode cX5_add 63 = .ok (.aload_n 0, 1) := by decide +kernel
theorem dX5_add_64 : decode cX5_add 64 = .ok (.getfield 27, 3) := by decide +kernel
theorem dX5_add_67 : decode cX5_add 67 = .ok (.aload_n 0, 1) := by decide +kernel
theorem dX5_add_68 : decode cX5_add 68 = .ok (.getfield 34, 3) := by decide +kernel
theorem dX5_add_71 : decode cX5_add 71 = .ok (.iload 6, 2) := by decide +kernel
theorem dX5_add_73 : decode cX5_add 73 = .ok (.iastore, 1) := by decide +kernel
theorem dX5_add_74 : decode cX5_add 74 = .ok (.aload_n 0, 1) := by decide +kernel
theorem dX5_add_75 : decode cX5_add 75 = .ok (.dup, 1) := by decide +kernel
theorem dX5_add_76 : decode cX5_add 76 = .ok (.getfield 34, 3) := by decide +kernel
theorem dX5_add_79 : decode cX5_add 79 = .ok (.iconst 1, 1) := by decide +kernel
theorem dX5_add_80 : decode cX5_add 80 = .ok (.iadd, 1) := by decide +kernel
theorem dX5_add_81 : decode cX5_add 81 = .ok (.putfield 34, 3) := by decide +kernel
theorem dX5_add_84 : decode cX5_add 84 = .ok (.aload_n 0, 1) := by decide +kernel
theorem dX5_add_85 : decode cX5_add 85 = .ok (.getfield 34, 3) := by decide +kernel
theorem dX5_add_88 : decode cX5_add 88 = .ok (.iconst 1, 1) := by decide +kernel
theorem dX5_add_89 : decode cX5_add 89 = .ok (.isub, 1) := by decide +kernel
theorem dX5_add_90 : decode cX5_add 90 = .ok (.ireturn, 1) := by decide +kernel
theorem dX5_sift_0 : decode cX5_sift 0 = .ok (.iconst 0, 1) := by decide +kernel
theorem dX5_sift_1 : decode cX5_sift 1 = .ok (.istore_n 2, 1) := by decide +kernel
theorem dX5_sift_2 : decode cX5_sift 2 = .ok (.iload_n 2, 1) := by decide +kernel
theorem dX5_sift_3 : decode cX5_sift 3 = .ok (.aload_n 0, 1) := by decide +kernel
theorem dX5_sift_4 : decode cX5_sift 4 = .ok (.getfield 34, 3) := by decide +kernel
theorem dX5_sift_7 : decode cX5_sift 7 = .ok (.if_icmp .ge 30, 3) := by decide +kernel
theorem dX5_sift_10 : decode cX5_sift 10 = .ok (.aload_n 0, 1) := by decide +kernel
theorem dX5_sift_11 : decode cX5_sift 11 = .ok (.getfield 30, 3) := by decide +kernel
theorem dX5_sift_14 : decode cX5_sift 14 = .ok (.iload_n 2, 1) := by decide +kernel
theorem dX5_sift_15 : decode cX5_sift 15 = .ok (.aload_n 0, 1) := by decide +kernel
theorem dX5_sift_16 : decode cX5_sift 16 = .ok (.getfield 27, 3) := by decide +kernel
theorem dX5_sift_19 : decode cX5_sift 19 = .ok (.iload_n 2, 1) := by decide +kernel
theorem dX5_sift_20 : decode cX5_sift 20 = .ok (.iaload, 1) := by decide +kernel
theorem dX5_sift_21 : decode cX5_sift 21 = .ok (.iload_n 1, 1) := by decide +kernel
theorem dX5_sift_22 : decode cX5_sift 22 = .ok (.if_icmp .gt 7, 3) := by decide +kernel
theorem dX5_sift_25 : decode cX5_sift 25 = .ok (.iconst 1, 1) := by decide +kernel
theorem dX5_sift_26 : decode cX5_sift 26 = .ok (.goto 4, 3) := by decide +kernel
theorem dX5_sift_29 : decode cX5_sift 29 = .ok (.iconst 0, 1) := by decide +kernel
theorem dX5_sift_30 : decode cX5_sift 30 = .ok (.bastore, 1) := by decide +kernel
theorem dX5_sift_31 : decode cX5_sift 31 = .ok (.iinc 2 1, 3) := by decide +kernel
theorem dX5_sift_34 : decode cX5_sift 34 = .ok (.goto (-32), 3) := by decide +kernel
theorem dX5_sift_37 : decode cX5_sift 37 = .ok (.aload_n 0, 1) := by decide +kernel
theorem dX5_sift_38 : decode cX5_sift 38 = .ok (.getfield 34, 3) := by decide +kernel
theorem dX5_sift_41 : decode cX5_sift 41 = .ok (.iconst 1, 1) := by decide +kernel
theorem dX5_sift_42 : decode cX5_sift 42 = .ok (.isub, 1) := by decide +kernel
theorem dX5_sift_43 : decode cX5_sift 43 = .ok (.istore_n 2, 1) := by decide +kernel
theorem dX5_sift_44 : decode cX5_sift 44 = .ok (.iload_n 2, 1) := by decide +kernel
theorem dX5_sift_45 : decode cX5_sift 45 = .ok (.ifCond .lt 43, 3) := by decide +kernel
theorem dX5_sift_48 : decode cX5_sift 48 = .ok (.aload_n 0, 1) := by decide +kernel
theorem dX5_sift_49 : decode cX5_sift 49 = .ok (.iload_n 2, 1) := by decide +kernel
theorem dX5_sift_50 : decode cX5_sift 50 = .ok (.iconst 4, 1) := by decide +kernel
theorem dX5_sift_51 : decode cX5_sift 51 = .ok (.invokevirtual 38, 3) := by decide +kernel
theorem dX5_sift_54 : decode cX5_sift 54 = .ok (.ifCond .eq 28, 3) := by decide +kernel
theorem dX5_sift_57 : decode cX5_sift 57 = .ok (.aload_n 0, 1) := by decide +kernel
theorem dX5_sift_58 : decode cX5_sift 58 = .ok (.aload_n 0, 1) := by decide +kernel
theorem dX5_sift_59 : decode cX5_sift 59 = .ok (.getfield 15, 3) := by decide +kernel
theorem dX5_sift_62 : decode cX5_sift 62 = .ok (.iload_n 2, 1) := by decide +kernel
theorem dX5_sift_63 : decode cX5_sift 63 = .ok (.iaload, 1) := by decide +kernel
theorem dX5_sift_64 : decode cX5_sift 64 = .ok (.invokevirtual 42, 3) := by decide +kernel
theorem dX5_sift_67 : decode cX5_sift 67 = .ok (.ifCond .eq 15, 3) := by decide +kernel
theorem dX5_sift_70 : decode cX5_sift 70 = .ok (.aload_n 0, 1) := by decide +kernel
theorem dX5_sift_71 : decode cX5_sift 71 = .ok (.getfield 30, 3) := by decide +kernel
theorem dX5_sift_74 : decode cX5_sift 74 = .ok (.aload_n 0, 1) := by decide +kernel
theorem dX5_sift_75 : decode cX5_sift 75 = .ok (.getfield 15, 3) := by decide +kernel
theorem dX5_sift_78 : decode cX5_sift 78 = .ok (.iload_n 2, 1) := by decide +kernel
theorem dX5_sift_79 : decode cX5_sift 79 = .ok (.iaload, 1) := by decide +kernel
theorem dX5_sift_80 : decode cX5_sift 80 = .ok (.iconst 0, 1) := by decide +kernel
theorem dX5_sift_81 : decode cX5_sift 81 = .ok (.bastore, 1) := by decide +kernel
theorem dX5_sift_82 : decode cX5_sift 82 = .ok (.iinc 2 (-1), 3) := by decide +kernel
theorem dX5_sift_85 : decode cX5_sift 85 = .ok (.goto (-41), 3) := by decide +kernel
theorem dX5_sift_88 : decode cX5_sift 88 = .ok (.return_, 1) := by decide +kernel
theorem dX5_isKnown_0 : decode cX5_isKnown 0 = .ok (.aload_n 0, 1) := by decide +kernel
theorem dX5_isKnown_1 : decode cX5_isKnown 1 = .ok (.getfield 30, 3) := by decide +kernel
theorem dX5_isKnown_4 : decode cX5_isKnown 4 = .ok (.iload_n 1, 1) := by decide +kernel
theorem dX5_isKnown_5 : decode cX5_isKnown 5 = .ok (.baload, 1) := by decide +kernel
theorem dX5_isKnown_6 : decode cX5_isKnown 6 = .ok (.ifCond .eq 17, 3) := by decide +kernel
theorem dX5_isKnown_9 : decode cX5_isKnown 9 = .ok (.aload_n 0, 1) := by decide +kernel
theorem dX5_isKnown_10 : decode cX5_isKnown 10 = .ok (.getfield 11, 3) := by decide +kernel
theorem dX5_isKnown_13 : decode cX5_isKnown 13 = .ok (.iload_n 1, 1) := by decide +kernel
theorem dX5_isKnown_14 : decode cX5_isKnown 14 = .ok (.iaload, 1) := by decide +kernel
theorem dX5_isKnown_15 : decode cX5_isKnown 15 = .ok (.iload_n 2, 1) := by decide +kernel
theorem dX5_isKnown_16 : decode cX5_isKnown 16 = .ok (.if_icmp .ne 7, 3) := by decide +kernel
theorem dX5_isKnown_19 : decode cX5_isKnown 19 = .ok (.iconst 1, 1) := by decide +kernel
theorem dX5_isKnown_20 : decode cX5_isKnown 20 = .ok (.goto 4, 3) := by decide +kernel
theorem dX5_isKnown_23 : decode cX5_isKnown 23 = .ok (.iconst 0, 1) := by decide +kernel
theorem dX5_isKnown_24 : decode cX5_isKnown 24 = .ok (.ireturn, 1) := by decide +kernel
theorem dX8_init_0 : decode cX8_init 0 = .ok (.aload_n 0, 1) := by decide +kernel
theorem dX8_init_1 : decode cX8_init 1 = .ok (.invokespecial 3, 3) := by decide +kernel
theorem dX8_init_4 : decode cX8_init 4 = .ok (.aload_n 0, 1) := by decide +kernel
theorem dX8_init_5 : decode cX8_init 5 = .ok (.iconst 3, 1) := by decide +kernel
theorem dX8_init_6 : decode cX8_init 6 = .ok (.newarray .int, 2) := by decide +kernel
theorem dX8_init_8 : decode cX8_init 8 = .ok (.putfield 11, 3) := by decide +kernel
theorem dX8_init_11 : decode cX8_init 11 = .ok (.aload_n 0, 1) := by decide +kernel
theorem dX8_init_12 : decode cX8_init 12 = .ok (.bipush 64, 2) := by decide +kernel
theorem dX8_init_14 : decode cX8_init 14 = .ok (.newarray .int, 2) := by decide +kernel
theorem dX8_init_16 : decode cX8_init 16 = .ok (.putfield 15, 3) := by decide +kernel
theorem dX8_init_19 : decode cX8_init 19 = .ok (.aload_n 0, 1) := by decide +kernel
theorem dX8_init_20 : decode cX8_init 20 = .ok (.bipush 64, 2) := by decide +kernel
theorem dX8_init_22 : decode cX8_init 22 = .ok (.newarray .int, 2) := by decide +kernel
theorem dX8_init_24 : decode cX8_init 24 = .ok (.putfield 18, 3) := by decide +kernel
theorem dX8_init_27 : decode cX8_init 27 = .ok (.aload_n 0, 1) := by decide +kernel
theorem dX8_init_28 : decode cX8_init 28 = .ok (.invokevirtual 21, 3) := by decide +kernel
theorem dX8_init_31 : decode cX8_init 31 = .ok (.return_, 1) := by decide +kernel
theorem dX8_clear_0 : decode cX8_clear 0 = .ok (.aload_n 0, 1) := by decide +kernel
theorem dX8_clear_1 : decode cX8_clear 1 = .ok (.iconst 0, 1) := by decide +kernel
theorem dX8_clear_2 : decode cX8_clear 2 = .ok (.putfield 24, 3) := by decide +kernel
theorem dX8_clear_5 : decode cX8_clear 5 = .ok (.aload_n 0, 1) := by decide +kernel
theorem dX8_clear_6 : decode cX8_clear 6 = .ok (.bipush 10, 2) := by decide +kernel
theorem dX8_clear_8 : decode cX8_clear 8 = .ok (.putfield 28, 3) := by decide +kernel
theorem dX8_clear_11 : decode cX8_clear 11 = .ok (.aload_n 0, 1) := by decide +kernel
theorem dX8_clear_12 : decode cX8_clear 12 = .ok (.iconst 5, 1) := by decide +kernel
theorem dX8_clear_13 : decode cX8_clear 13 = .ok (.putfield 31, 3) := by decide +kernel
theorem dX8_clear_16 : decode cX8_clear 16 = .ok (.aload_n 0, 1) := by decide +kernel
theorem dX8_clear_17 : decode cX8_clear 17 = .ok (.iconst 0, 1) := by decide +kernel
theorem dX8_clear_18 : decode cX8_clear 18 = .ok (.putfield 34, 3) := by decide +kernel
theorem dX8_clear_21 : decode cX8_clear 21 = .ok (.aload_n 0, 1) := by decide +kernel
theorem dX8_clear_22 : decode cX8_clear 22 = .ok (.getfield 11, 3) := by decide +kernel
theorem dX8_clear_25 : decode cX8_clear 25 = .ok (.iconst 0, 1) := by decide +kernel
theorem dX8_clear_26 : decode cX8_clear 26 = .ok (.invokestatic 37, 3) := by decide +kernel
theorem dX8_clear_29 : decode cX8_clear 29 = .ok (.return_, 1) := by decide +kernel
theorem dX11_isDay_0 : decode cX11_isDay 0 = .ok (.iload_n 0, 1) := by decide +kernel
theorem dX11_isDay_1 : decode cX11_isDay 1 = .ok (.ifCond .lt 14, 3) := by decide +kernel
theorem dX11_isDay_4 : decode cX11_isDay 4 = .ok (.iload_n 0, 1) := by decide +kernel
theorem dX11_isDay_5 : decode cX11_isDay 5 = .ok (.sipush 999, 3) := by decide +kernel
theorem dX11_isDay_8 : decode cX11_isDay 8 = .ok (.if_icmp .gt 7, 3) := by decide +kernel
theorem dX11_isDay_11 : decode cX11_isDay 11 = .ok (.iconst 1, 1) := by decide +kernel
theorem dX11_isDay_12 : decode cX11_isDay 12 = .ok (.goto 4, 3) := by decide +kernel
theorem dX11_isDay_15 : decode cX11_isDay 15 = .ok (.iconst 0, 1) := by decide +kernel
theorem dX11_isDay_16 : decode cX11_isDay 16 = .ok (.ireturn, 1) := by decide +kernel
theorem dX11_isSide_0 : decode cX11_isSide 0 = .ok (.iload_n 0, 1) := by decide +kernel
theorem dX11_isSide_1 : decode cX11_isSide 1 = .ok (.ifCond .eq 8, 3) := by decide +kernel
theorem dX11_isSide_4 : decode cX11_isSide 4 = .ok (.iload_n 0, 1) := by decide +kernel
theorem dX11_isSide_5 : decode cX11_isSide 5 = .ok (.iconst 1, 1) := by decide +kernel
theorem dX11_isSide_6 : decode cX11_isSide 6 = .ok (.if_icmp .ne 7, 3) := by decide +kernel
theorem dX11_isSide_9 : decode cX11_isSide 9 = .ok (.iconst 1, 1) := by decide +kernel
theorem dX11_isSide_10 : decode cX11_isSide 10 = .ok (.goto 4, 3) := by decide +kernel
theorem dX11_isSide_13 : decode cX11_isSide 13 = .ok (.iconst 0, 1) := by decide +kernel
theorem dX11_isSide_14 : decode cX11_isSide 14 = .ok (.ireturn, 1) := by decide +kernel
theorem dX11_isHand_0 : decode cX11_isHand 0 = .ok (.iload_n 0, 1) := by decide +kernel
theorem dX11_isHand_1 : decode cX11_isHand 1 = .ok (.ifCond .lt 12, 3) := by decide +kernel
theorem dX11_isHand_4 : decode cX11_isHand 4 = .ok (.iload_n 0, 1) := by decide +kernel
theorem dX11_isHand_5 : decode cX11_isHand 5 = .ok (.iconst 4, 1) := by decide +kernel
theorem dX11_isHand_6 : decode cX11_isHand 6 = .ok (.if_icmp .ge 7, 3) := by decide +kernel
theorem dX11_isHand_9 : decode cX11_isHand 9 = .ok (.iconst 1, 1) := by decide +kernel
theorem dX11_isHand_10 : decode cX11_isHand 10 = .ok (.goto 4, 3) := by decide +kernel
theorem dX11_isHand_13 : decode cX11_isHand 13 = .ok (.iconst 0, 1) := by decide +kernel
theorem dX11_isHand_14 : decode cX11_isHand 14 = .ok (.ireturn, 1) := by decide +kernel
theorem dX11_isPerson_0 : decode cX11_isPerson 0 = .ok (.iload_n 0, 1) := by decide +kernel
theorem dX11_isPerson_1 : decode cX11_isPerson 1 = .ok (.ifCond .lt 13, 3) := by decide +kernel
theorem dX11_isPerson_4 : decode cX11_isPerson 4 = .ok (.iload_n 0, 1) := by decide +kernel
theorem dX11_isPerson_5 : decode cX11_isPerson 5 = .ok (.bipush 8, 2) := by decide +kernel
theorem dX11_isPerson_7 : decode cX11_isPerson 7 = .ok (.if_icmp .ge 7, 3) := by decide +kernel
theorem dX11_isPerson_10 : decode cX11_isPerson 10 = .ok (.iconst 1, 1) := by decide +kernel
theorem dX11_isPerson_11 : decode cX11_isPerson 11 = .ok (.goto 4, 3) := by decide +kernel
theorem dX11_isPerson_14 : decode cX11_isPerson 14 = .ok (.iconst 0, 1) := by decide +kernel
theorem dX11_isPerson_15 : decode cX11_isPerson 15 = .ok (.ireturn, 1) := by decide +kernel
theorem dX11_isCount_0 : decode cX11_isCount 0 = .ok (.iload_n 0, 1) := by decide +kernel
theorem dX11_isCount_1 : decode cX11_isCount 1 = .ok (.ifCond .lt 14, 3) := by decide +kernel
theorem dX11_isCount_4 : decode cX11_isCount 4 = .ok (.iload_n 0, 1) := by decide +kernel
theorem dX11_isCount_5 : decode cX11_isCount 5 = .ok (.sipush 999, 3) := by decide +kernel
theorem dX11_isCount_8 : decode cX11_isCount 8 = .ok (.if_icmp .gt 7, 3) := by decide +kernel
theorem dX11_isCount_11 : decode cX11_isCount 11 = .ok (.iconst 1, 1) := by decide +kernel
theorem dX11_isCount_12 : decode cX11_isCount 12 = .ok (.goto 4, 3) := by decide +kernel
theorem dX11_isCount_15 : decode cX11_isCount 15 = .ok (.iconst 0, 1) := by decide +kernel
theorem dX11_isCount_16 : decode cX11_isCount 16 = .ok (.ireturn, 1) := by decide +kernel
theorem dX11_leastOf_0 : decode cX11_leastOf 0 = .ok (.iload_n 0, 1) := by decide +kernel
theorem dX11_leastOf_1 : decode cX11_leastOf 1 = .ok (.iload_n 0, 1) := by decide +kernel
theorem dX11_leastOf_2 : decode cX11_leastOf 2 = .ok (.ineg, 1) := by decide +kernel
theorem dX11_leastOf_3 : decode cX11_leastOf 3 = .ok (.iand, 1) := by decide +kernel
theorem dX11_leastOf_4 : decode cX11_leastOf 4 = .ok (.iconst 1, 1) := by decide +kernel
theorem dX11_leastOf_5 : decode cX11_leastOf 5 = .ok (.isub, 1) := by decide +kernel
theorem dX11_leastOf_6 : decode cX11_leastOf 6 = .ok (.invokestatic 189, 3) := by decide +kernel
theorem dX11_leastOf_9 : decode cX11_leastOf 9 = .ok (.ireturn, 1) := by decide +kernel
theorem dX11_shareUp_0 : decode cX11_shareUp 0 = .ok (.iload_n 0, 1) := by decide +kernel
theorem dX11_shareUp_1 : decode cX11_shareUp 1 = .ok (.iload_n 1, 1) := by decide +kernel
theorem dX11_shareUp_2 : decode cX11_shareUp 2 = .ok (.imul, 1) := by decide +kernel
theorem dX11_shareUp_3 : decode cX11_shareUp 3 = .ok (.bipush 99, 2) := by decide +kernel
theorem dX11_shareUp_5 : decode cX11_shareUp 5 = .ok (.iadd, 1) := by decide +kernel
theorem dX11_shareUp_6 : decode cX11_shareUp 6 = .ok (.bipush 100, 2) := by decide +kernel
theorem dX11_shareUp_8 : decode cX11_shareUp 8 = .ok (.idiv, 1) := by decide +kernel
theorem dX11_shareUp_9 : decode cX11_shareUp 9 = .ok (.ireturn, 1) := by decide +kernel
