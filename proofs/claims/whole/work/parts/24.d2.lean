theorem dX2_init_0 : decode cX2_init 0 = .ok (.aload_n 0, 1) := by decide +kernel
theorem dX2_init_1 : decode cX2_init 1 = .ok (.invokespecial 3, 3) := by decide +kernel
theorem dX2_init_4 : decode cX2_init 4 = .ok (.aload_n 0, 1) := by decide +kernel
theorem dX2_init_5 : decode cX2_init 5 = .ok (.bipush 8, 2) := by decide +kernel
theorem dX2_init_7 : decode cX2_init 7 = .ok (.newarray .int, 2) := by decide +kernel
theorem dX2_init_9 : decode cX2_init 9 = .ok (.putfield 9, 3) := by decide +kernel
theorem dX2_init_12 : decode cX2_init 12 = .ok (.aload_n 0, 1) := by decide +kernel
theorem dX2_init_13 : decode cX2_init 13 = .ok (.bipush 12, 2) := by decide +kernel
theorem dX2_init_15 : decode cX2_init 15 = .ok (.bipush 25, 2) := by decide +kernel
theorem dX2_init_17 : decode cX2_init 17 = .ok (.multianewarray 15 2, 4) := by decide +kernel
theorem dX2_init_21 : decode cX2_init 21 = .ok (.putfield 17, 3) := by decide +kernel
theorem dX2_init_24 : decode cX2_init 24 = .ok (.aload_n 0, 1) := by decide +kernel
theorem dX2_init_25 : decode cX2_init 25 = .ok (.bipush 25, 2) := by decide +kernel
theorem dX2_init_27 : decode cX2_init 27 = .ok (.newarray .int, 2) := by decide +kernel
theorem dX2_init_29 : decode cX2_init 29 = .ok (.putfield 20, 3) := by decide +kernel
theorem dX2_init_32 : decode cX2_init 32 = .ok (.aload_n 0, 1) := by decide +kernel
theorem dX2_init_33 : decode cX2_init 33 = .ok (.bipush 25, 2) := by decide +kernel
theorem dX2_init_35 : decode cX2_init 35 = .ok (.newarray .int, 2) := by decide +kernel
theorem dX2_init_37 : decode cX2_init 37 = .ok (.putfield 23, 3) := by decide +kernel
theorem dX2_init_40 : decode cX2_init 40 = .ok (.aload_n 0, 1) := by decide +kernel
theorem dX2_init_41 : decode cX2_init 41 = .ok (.bipush 25, 2) := by decide +kernel
theorem dX2_init_43 : decode cX2_init 43 = .ok (.newarray .int, 2) := by decide +kernel
theorem dX2_init_45 : decode cX2_init 45 = .ok (.putfield 26, 3) := by decide +kernel
theorem dX2_init_48 : decode cX2_init 48 = .ok (.aload_n 0, 1) := by decide +kernel
theorem dX2_init_49 : decode cX2_init 49 = .ok (.aload_n 1, 1) := by decide +kernel
theorem dX2_init_50 : decode cX2_init 50 = .ok (.putfield 29, 3) := by decide +kernel
theorem dX2_init_53 : decode cX2_init 53 = .ok (.aload_n 0, 1) := by decide +kernel
theorem dX2_init_54 : decode cX2_init 54 = .ok (.aload_n 2, 1) := by decide +kernel
theorem dX2_init_55 : decode cX2_init 55 = .ok (.putfield 33, 3) := by decide +kernel
theorem dX2_init_58 : decode cX2_init 58 = .ok (.return_, 1) := by decide +kernel
theorem dX2_addCandidate_0 : decode cX2_addCandidate 0 = .ok (.iconst 0, 1) := by decide +kernel
theorem dX2_addCandidate_1 : decode cX2_addCandidate 1 = .ok (.istore_n 2, 1) := by decide +kernel
theorem dX2_addCandidate_2 : decode cX2_addCandidate 2 = .ok (.iload_n 2, 1) := by decide +kernel
theorem dX2_addCandidate_3 : decode cX2_addCandidate 3 = .ok (.aload_n 0, 1) := by decide +kernel
theorem dX2_addCandidate_4 : decode cX2_addCandidate 4 = .ok (.getfield 37, 3) := by decide +kernel
theorem dX2_addCandidate_7 : decode cX2_addCandidate 7 = .ok (.if_icmp .ge 21, 3) := by decide +kernel
theorem dX2_addCandidate_10 : decode cX2_addCandidate 10 = .ok (.aload_n 0, 1) := by decide +kernel
theorem dX2_addCandidate_11 : decode cX2_addCandidate 11 = .ok (.getfield 9, 3) := by decide +kernel
theorem dX2_addCandidate_14 : decode cX2_addCandidate 14 = .ok (.iload_n 2, 1) := by decide +kernel
theorem dX2_addCandidate_15 : decode cX2_addCandidate 15 = .ok (.iaload, 1) := by decide +kernel
theorem dX2_addCandidate_16 : decode cX2_addCandidate 16 = .ok (.iload_n 1, 1) := by decide +kernel
theorem dX2_addCandidate_17 : decode cX2_addCandidate 17 = .ok (.if_icmp .ne 5, 3) := by decide +kernel
theorem dX2_addCandidate_20 : decode cX2_addCandidate 20 = .ok (.iconst (-1), 1) := by decide +kernel
theorem dX2_addCandidate_21 : decode cX2_addCandidate 21 = .ok (.ireturn, 1) := by decide +kernel
theorem dX2_addCandidate_22 : decode cX2_addCandidate 22 = .ok (.iinc 2 1, 3) := by decide +kernel
theorem dX2_addCandidate_25 : decode cX2_addCandidate 25 = .ok (.goto (-23), 3) := by decide +kernel
theorem dX2_addCandidate_28 : decode cX2_addCandidate 28 = .ok (.aload_n 0, 1) := by decide +kernel
theorem dX2_addCandidate_29 : decode cX2_addCandidate 29 = .ok (.getfield 37, 3) := by decide +kernel
theorem dX2_addCandidate_32 : decode cX2_addCandidate 32 = .ok (.bipush 8, 2) := by decide +kernel
theorem dX2_addCandidate_34 : decode cX2_addCandidate 34 = .ok (.if_icmp .lt 5, 3) := by decide +kernel
theorem dX2_addCandidate_37 : decode cX2_addCandidate 37 = .ok (.iconst (-1), 1) := by decide +kernel
theorem dX2_addCandidate_38 : decode cX2_addCandidate 38 = .ok (.ireturn, 1) := by decide +kernel
theorem dX2_addCandidate_39 : decode cX2_addCandidate 39 = .ok (.aload_n 0, 1) := by decide +kernel
theorem dX2_addCandidate_40 : decode cX2_addCandidate 40 = .ok (.getfield 9, 3) := by decide +kernel
theorem dX2_addCandidate_43 : decode cX2_addCandidate 43 = .ok (.aload_n 0, 1) := by decide +kernel
theorem dX2_addCandidate_44 : decode cX2_addCandidate 44 = .ok (.getfield 37, 3) := by decide +kernel
theorem dX2_addCandidate_47 : decode cX2_addCandidate 47 = .ok (.iload_n 1, 1) := by decide +kernel
theorem dX2_addCandidate_48 : decode cX2_addCandidate 48 = .ok (.iastore, 1) := by decide +kernel
theorem dX2_addCandidate_49 : decode cX2_addCandidate 49 = .ok (.aload_n 0, 1) := by decide +kernel
theorem dX2_addCandidate_50 : decode cX2_addCandidate 50 = .ok (.dup, 1) := by decide +kernel
theorem dX2_addCandidate_51 : decode cX2_addCandidate 51 = .ok (.getfield 37, 3) := by decide +kernel
theorem dX2_addCandidate_54 : decode cX2_addCandidate 54 = .ok (.iconst 1, 1) := by decide +kernel
theorem dX2_addCandidate_55 : decode cX2_addCandidate 55 = .ok (.iadd, 1) := by decide +kernel
theorem dX2_addCandidate_56 : decode cX2_addCandidate 56 = .ok (.putfield 37, 3) := by decide +kernel
theorem dX2_addCandidate_59 : decode cX2_addCandidate 59 = .ok (.aload_n 0, 1) := by decide +kernel
theorem dX2_addCandidate_60 : decode cX2_addCandidate 60 = .ok (.getfield 37, 3) := by decide +kernel
theorem dX2_addCandidate_63 : decode cX2_addCandidate 63 = .ok (.iconst 1, 1) := by decide +kernel
theorem dX2_addCandidate_64 : decode cX2_addCandidate 64 = .ok (.isub, 1) := by decide +kernel
theorem dX2_addCandidate_65 : decode cX2_addCandidate 65 = .ok (.ireturn, 1) := by decide +kernel
theorem dX2_agree_0 : decode cX2_agree 0 = .ok (.aload_n 0, 1) := by decide +kernel
theorem dX2_agree_1 : decode cX2_agree 1 = .ok (.aload_n 1, 1) := by decide +kernel
theorem dX2_agree_2 : decode cX2_agree 2 = .ok (.getfield 41, 3) := by decide +kernel
theorem dX2_agree_5 : decode cX2_agree 5 = .ok (.putfield 46, 3) := by decide +kernel
theorem dX2_agree_8 : decode cX2_agree 8 = .ok (.aload_n 0, 1) := by decide +kernel
theorem dX2_agree_9 : decode cX2_agree 9 = .ok (.aload_n 1, 1) := by decide +kernel
theorem dX2_agree_10 : decode cX2_agree 10 = .ok (.getfield 47, 3) := by decide +kernel
theorem dX2_agree_13 : decode cX2_agree 13 = .ok (.putfield 50, 3) := by decide +kernel
theorem dX2_agree_16 : decode cX2_agree 16 = .ok (.return_, 1) := by decide +kernel
theorem dX2_tell_0 : decode cX2_tell 0 = .ok (.aload_n 0, 1) := by decide +kernel
theorem dX2_tell_1 : decode cX2_tell 1 = .ok (.iload_n 1, 1) := by decide +kernel
theorem dX2_tell_2 : decode cX2_tell 2 = .ok (.aload_n 0, 1) := by decide +kernel
theorem dX2_tell_3 : decode cX2_tell 3 = .ok (.getfield 17, 3) := by decide +kernel
theorem dX2_tell_6 : decode cX2_tell 6 = .ok (.iconst 0, 1) := by decide +kernel
theorem dX2_tell_7 : decode cX2_tell 7 = .ok (.aaload, 1) := by decide +kernel
theorem dX2_tell_8 : decode cX2_tell 8 = .ok (.invokevirtual 51, 3) := by decide +kernel
theorem dX2_tell_11 : decode cX2_tell 11 = .ok (.aload_n 0, 1) := by decide +kernel
theorem dX2_tell_12 : decode cX2_tell 12 = .ok (.iload_n 1, 1) := by decide +kernel
theorem dX2_tell_13 : decode cX2_tell 13 = .ok (.aload_n 0, 1) := by decide +kernel
theorem dX2_tell_14 : decode cX2_tell 14 = .ok (.getfield 17, 3) := by decide +kernel
theorem dX2_tell_17 : decode cX2_tell 17 = .ok (.iconst 0, 1) := by decide +kernel
theorem dX2_tell_18 : decode cX2_tell 18 = .ok (.aaload, 1) := by decide +kernel
theorem dX2_tell_19 : decode cX2_tell 19 = .ok (.iload_n 2, 1) := by decide +kernel
theorem dX2_tell_20 : decode cX2_tell 20 = .ok (.aload_n 0, 1) := by decide +kernel
theorem dX2_tell_21 : decode cX2_tell 21 = .ok (.iload_n 3, 1) := by decide +kernel
theorem dX2_tell_22 : decode cX2_tell 22 = .ok (.invokevirtual 55, 3) := by decide +kernel
theorem dX2_tell_25 : decode cX2_tell 25 = .ok (.ldc 59, 2) := by decide +kernel
theorem dX2_tell_27 : decode cX2_tell 27 = .ok (.invokevirtual 60, 3) := by decide +kernel
theorem dX2_tell_30 : decode cX2_tell 30 = .ok (.ireturn, 1) := by decide +kernel
theorem dX2_guarded_0 : decode cX2_guarded 0 = .ok (.iconst 0, 1) := by decide +kernel
theorem dX2_guarded_1 : decode cX2_guarded 1 = .ok (.istore_n 2, 1) := by decide +kernel
theorem dX2_guarded_2 : decode cX2_guarded 2 = .ok (.iconst 0, 1) := by decide +kernel
theorem dX2_guarded_3 : decode cX2_guarded 3 = .ok (.istore_n 3, 1) := by decide +kernel
theorem dX2_guarded_4 : decode cX2_guarded 4 = .ok (.iload_n 3, 1) := by decide +kernel
theorem dX2_guarded_5 : decode cX2_guarded 5 = .ok (.aload_n 0, 1) := by decide +kernel
theorem dX2_guarded_6 : decode cX2_guarded 6 = .ok (.getfield 37, 3) := by decide +kernel
theorem dX2_guarded_9 : decode cX2_guarded 9 = .ok (.if_icmp .ge 28, 3) := by decide +kernel
theorem dX2_guarded_12 : decode cX2_guarded 12 = .ok (.iload_n 1, 1) := by decide +kernel
theorem dX2_guarded_13 : decode cX2_guarded 13 = .ok (.iload_n 3, 1) := by decide +kernel
theorem dX2_guarded_14 : decode cX2_guarded 14 = .ok (.ishr, 1) := by decide +kernel
theorem dX2_guarded_15 : decode cX2_guarded 15 = .ok (.iconst 1, 1) := by decide +kernel
theorem dX2_guarded_16 : decode cX2_guarded 16 = .ok (.iand, 1) := by decide +kernel
theorem dX2_guarded_17 : decode cX2_guarded 17 = .ok (.ifCond .eq 14, 3) := by decide +kernel
theorem dX2_guarded_20 : decode cX2_guarded 20 = .ok (.iload_n 2, 1) := by decide +kernel
theorem dX2_guarded_21 : decode cX2_guarded 21 = .ok (.iconst 1, 1) := by decide +kernel
theorem dX2_guarded_22 : decode cX2_guarded 22 = .ok (.aload_n 0, 1) := by decide +kernel
theorem dX2_guarded_23 : decode cX2_guarded 23 = .ok (.getfield 9, 3) := by decide +kernel
theorem dX2_guarded_26 : decode cX2_guarded 26 = .ok (.iload_n 3, 1) := by decide +kernel
theorem dX2_guarded_27 : decode cX2_guarded 27 = .ok (.iaload, 1) := by decide +kernel
theorem dX2_guarded_28 : decode cX2_guarded 28 = .ok (.ishl, 1) := by decide +kernel
theorem dX2_guarded_29 : decode cX2_guarded 29 = .ok (.ior, 1) := by decide +kernel
theorem dX2_guarded_30 : decode cX2_guarded 30 = .ok (.istore_n 2, 1) := by decide +kernel
theorem dX2_guarded_31 : decode cX2_guarded 31 = .ok (.iinc 3 1, 3) := by decide +kernel
theorem dX2_guarded_34 : decode cX2_guarded 34 = .ok (.goto (-30), 3) := by decide +kernel
theorem dX2_guarded_37 : decode cX2_guarded 37 = .ok (.iload_n 2, 1) := by decide +kernel
theorem dX2_guarded_38 : decode cX2_guarded 38 = .ok (.ireturn, 1) := by decide +kernel
theorem dX2_aim_0 : decode cX2_aim 0 = .ok (.iconst 0, 1) := by decide +kernel
theorem dX2_aim_1 : decode cX2_aim 1 = .ok (.istore_n 3, 1) := by decide +kernel
theorem dX2_aim_2 : decode cX2_aim 2 = .ok (.iload_n 3, 1) := by decide +kernel
theorem dX2_aim_3 : decode cX2_aim 3 = .ok (.aload_n 0, 1) := by decide +kernel
theorem dX2_aim_4 : decode cX2_aim 4 = .ok (.getfield 29, 3) := by decide +kernel
theorem dX2_aim_7 : decode cX2_aim 7 = .ok (.getfield 64, 3) := by decide +kernel
theorem dX2_aim_10 : decode cX2_aim 10 = .ok (.if_icmp .ge 52, 3) := by decide +kernel
theorem dX2_aim_13 : decode cX2_aim 13 = .ok (.iload_n 1, 1) := by decide +kernel
theorem dX2_aim_14 : decode cX2_aim 14 = .ok (.iload_n 3, 1) := by decide +kernel
theorem dX2_aim_15 : decode cX2_aim 15 = .ok (.ishr, 1) := by decide +kernel
theorem dX2_aim_16 : decode cX2_aim 16 = .ok (.iconst 1, 1) := by decide +kernel
theorem dX2_aim_17 : decode cX2_aim 17 = .ok (.iand, 1) := by decide +kernel
theorem dX2_aim_18 : decode cX2_aim 18 = .ok (.ifCond .eq 7, 3) := by decide +kernel
theorem dX2_aim_21 : decode cX2_aim 21 = .ok (.iconst 1, 1) := by decide +kernel
theorem dX2_aim_22 : decode cX2_aim 22 = .ok (.goto 4, 3) := by decide +kernel
theorem dX2_aim_25 : decode cX2_aim 25 = .ok (.iconst 0, 1) := by decide +kernel
theorem dX2_aim_26 : decode cX2_aim 26 = .ok (.istore 4, 2) := by decide +kernel
theorem dX2_aim_28 : decode cX2_aim 28 = .ok (.aload_n 2, 1) := by decide +kernel
theorem dX2_aim_29 : decode cX2_aim 29 = .ok (.iload_n 3, 1) := by decide +kernel
theorem dX2_aim_30 : decode cX2_aim 30 = .ok (.aload_n 0, 1) := by decide +kernel
theorem dX2_aim_31 : decode cX2_aim 31 = .ok (.iload_n 3, 1) := by decide +kernel
theorem dX2_aim_32 : decode cX2_aim 32 = .ok (.iload 4, 2) := by decide +kernel
theorem dX2_aim_34 : decode cX2_aim 34 = .ok (.ifCond .eq 17, 3) := by decide +kernel
theorem dX2_aim_37 : decode cX2_aim 37 = .ok (.aload_n 0, 1) := by decide +kernel
theorem dX2_aim_38 : decode cX2_aim 38 = .ok (.getfield 29, 3) := by decide +kernel
theorem dX2_aim_41 : decode cX2_aim 41 = .ok (.getfield 69, 3) := by decide +kernel
theorem dX2_aim_44 : decode cX2_aim 44 = .ok (.iload_n 1, 1) := by decide +kernel
theorem dX2_aim_45 : decode cX2_aim 45 = .ok (.iconst (-1), 1) := by decide +kernel
theorem dX2_aim_46 : decode cX2_aim 46 = .ok (.ixor, 1) := by decide +kernel
theorem dX2_aim_47 : decode cX2_aim 47 = .ok (.iand, 1) := by decide +kernel
theorem dX2_aim_48 : decode cX2_aim 48 = .ok (.goto 4, 3) := by decide +kernel
theorem dX2_aim_51 : decode cX2_aim 51 = .ok (.iload_n 1, 1) := by decide +kernel
theorem dX2_aim_52 : decode cX2_aim 52 = .ok (.invokevirtual 72, 3) := by decide +kernel
theorem dX2_aim_55 : decode cX2_aim 55 = .ok (.iastore, 1) := by decide +kernel
theorem dX2_aim_56 : decode cX2_aim 56 = .ok (.iinc 3 1, 3) := by decide +kernel
theorem dX2_aim_59 : decode cX2_aim 59 = .ok (.goto (-57), 3) := by decide +kernel
theorem dX2_aim_62 : decode cX2_aim 62 = .ok (.return_, 1) := by decide +kernel
theorem dX2_towards_0 : decode cX2_towards 0 = .ok (.aload_n 0, 1) := by decide +kernel
theorem dX2_towards_1 : decode cX2_towards 1 = .ok (.getfield 29, 3) := by decide +kernel
theorem dX2_towards_4 : decode cX2_towards 4 = .ok (.iconst 1, 1) := by decide +kernel
theorem dX2_towards_5 : decode cX2_towards 5 = .ok (.iload_n 1, 1) := by decide +kernel
theorem dX2_towards_6 : decode cX2_towards 6 = .ok (.ishl, 1) := by decide +kernel
theorem dX2_towards_7 : decode cX2_towards 7 = .ok (.invokevirtual 76, 3) := by decide +kernel
theorem dX2_towards_10 : decode cX2_towards 10 = .ok (.istore_n 3, 1) := by decide +kernel
theorem dX2_towards_11 : decode cX2_towards 11 = .ok (.iload_n 2, 1) := by decide +kernel
theorem dX2_towards_12 : decode cX2_towards 12 = .ok (.istore 4, 2) := by decide +kernel
theorem dX2_towards_14 : decode cX2_towards 14 = .ok (.iconst 0, 1) := by decide +kernel
theorem dX2_towards_15 : decode cX2_towards 15 = .ok (.istore 5, 2) := by decide +kernel
theorem dX2_towards_17 : decode cX2_towards 17 = .ok (.iload 5, 2) := by decide +kernel
theorem dX2_towards_19 : decode cX2_towards 19 = .ok (.bipush 25, 2) := by decide +kernel
theorem dX2_towards_21 : decode cX2_towards 21 = .ok (.if_icmp .ge 45, 3) := by decide +kernel
theorem dX2_towards_24 : decode cX2_towards 24 = .ok (.iload 4, 2) := by decide +kernel
theorem dX2_towards_26 : decode cX2_towards 26 = .ok (.ifCond .eq 40, 3) := by decide +kernel
theorem dX2_towards_29 : decode cX2_towards 29 = .ok (.iload_n 3, 1) := by decide +kernel
theorem dX2_towards_30 : decode cX2_towards 30 = .ok (.iload 4, 2) := by decide +kernel
theorem dX2_towards_32 : decode cX2_towards 32 = .ok (.iand, 1) := by decide +kernel
theorem dX2_towards_33 : decode cX2_towards 33 = .ok (.istore 6, 2) := by decide +kernel
theorem dX2_towards_35 : decode cX2_towards 35 = .ok (.iload 6, 2) := by decide +kernel
theorem dX2_towards_37 : decode cX2_towards 37 = .ok (.ifCond .eq 9, 3) := by decide +kernel
theorem dX2_towards_40 : decode cX2_towards 40 = .ok (.iload 6, 2) := by decide +kernel
theorem dX2_towards_42 : decode cX2_towards 42 = .ok (.invokestatic 79, 3) := by decide +kernel
theorem dX2_towards_45 : decode cX2_towards 45 = .ok (.ireturn, 1) := by decide +kernel
theorem dX2_towards_46 : decode cX2_towards 46 = .ok (.iload 4, 2) := by decide +kernel
theorem dX2_towards_48 : decode cX2_towards 48 = .ok (.aload_n 0, 1) := by decide +kernel
theorem dX2_towards_49 : decode cX2_towards 49 = .ok (.getfield 29, 3) := by decide +kernel
theorem dX2_towards_52 : decode cX2_towards 52 = .ok (.iload 4, 2) := by decide +kernel
theorem dX2_towards_54 : decode cX2_towards 54 = .ok (.invokevirtual 76, 3) := by decide +kernel
theorem dX2_towards_57 : decode cX2_towards 57 = .ok (.ior, 1) := by decide +kernel
theorem dX2_towards_58 : decode cX2_towards 58 = .ok (.istore 4, 2) := by decide +kernel
theorem dX2_towards_60 : decode cX2_towards 60 = .ok (.iinc 5 1, 3) := by decide +kernel
theorem dX2_towards_63 : decode cX2_towards 63 = .ok (.goto (-46), 3) := by decide +kernel
theorem dX2_towards_66 : decode cX2_towards 66 = .ok (.iconst (-1), 1) := by decide +kernel
theorem dX2_towards_67 : decode cX2_towards 67 = .ok (.ireturn, 1) := by decide +kernel
theorem dX2_walk_0 : decode cX2_walk 0 = .ok (.iconst 0, 1) := by decide +kernel
theorem dX2_walk_1 : decode cX2_walk 1 = .ok (.istore 6, 2) := by decide +kernel
theorem dX2_walk_3 : decode cX2_walk 3 = .ok (.iload 6, 2) := by decide +kernel
theorem dX2_walk_5 : decode cX2_walk 5 = .ok (.aload_n 0, 1) := by decide +kernel
theorem dX2_walk_6 : decode cX2_walk 6 = .ok (.getfield 29, 3) := by decide +kernel
theorem dX2_walk_9 : decode cX2_walk 9 = .ok (.getfield 64, 3) := by decide +kernel
theorem dX2_walk_12 : decode cX2_walk 12 = .ok (.if_icmp .ge 59, 3) := by decide +kernel
theorem dX2_walk_15 : decode cX2_walk 15 = .ok (.iload_n 1, 1) := by decide +kernel
theorem dX2_walk_16 : decode cX2_walk 16 = .ok (.iload 6, 2) := by decide +kernel
theorem dX2_walk_18 : decode cX2_walk 18 = .ok (.ishr, 1) := by decide +kernel
theorem dX2_walk_19 : decode cX2_walk 19 = .ok (.iconst 1, 1) := by decide +kernel
theorem dX2_walk_20 : decode cX2_walk 20 = .ok (.iand, 1) := by decide +kernel
theorem dX2_walk_21 : decode cX2_walk 21 = .ok (.istore 7, 2) := by decide +kernel
theorem dX2_walk_23 : decode cX2_walk 23 = .ok (.aload_n 0, 1) := by decide +kernel
theorem dX2_walk_24 : decode cX2_walk 24 = .ok (.getfield 20, 3) := by decide +kernel
theorem dX2_walk_27 : decode cX2_walk 27 = .ok (.iload 6, 2) := by decide +kernel
theorem dX2_walk_29 : decode cX2_walk 29 = .ok (.aload_n 0, 1) := by decide +kernel
theorem dX2_walk_30 : decode cX2_walk 30 = .ok (.getfield 33, 3) := by decide +kernel
theorem dX2_walk_33 : decode cX2_walk 33 = .ok (.getfield 82, 3) := by decide +kernel
theorem dX2_walk_36 : decode cX2_walk 36 = .ok (.iload 7, 2) := by decide +kernel
theorem dX2_walk_38 : decode cX2_walk 38 = .ok (.aaload, 1) := by decide +kernel
theorem dX2_walk_39 : decode cX2_walk 39 = .ok (.iload 6, 2) := by decide +kernel
theorem dX2_walk_41 : decode cX2_walk 41 = .ok (.iaload, 1) := by decide +kernel
theorem dX2_walk_42 : decode cX2_walk 42 = .ok (.iastore, 1) := by decide +kernel
theorem dX2_walk_43 : decode cX2_walk 43 = .ok (.aload_n 0, 1) := by decide +kernel
theorem dX2_walk_44 : decode cX2_walk 44 = .ok (.getfield 23, 3) := by decide +kernel
theorem dX2_walk_47 : decode cX2_walk 47 = .ok (.iload 6, 2) := by decide +kernel
theorem dX2_walk_49 : decode cX2_walk 49 = .ok (.aload_n 0, 1) := by decide +kernel
theorem dX2_walk_50 : decode cX2_walk 50 = .ok (.getfield 33, 3) := by decide +kernel
theorem dX2_walk_53 : decode cX2_walk 53 = .ok (.getfield 82, 3) := by decide +kernel
theorem dX2_walk_56 : decode cX2_walk 56 = .ok (.iconst 1, 1) := by decide +kernel
theorem dX2_walk_57 : decode cX2_walk 57 = .ok (.iload 7, 2) := by decide +kernel
theorem dX2_walk_59 : decode cX2_walk 59 = .ok (.isub, 1) := by decide +kernel
theorem dX2_walk_60 : decode cX2_walk 60 = .ok (.aaload, 1) := by decide +kernel
theorem dX2_walk_61 : decode cX2_walk 61 = .ok (.iload 6, 2) := by decide +kernel
theorem dX2_walk_63 : decode cX2_walk 63 = .ok (.iaload, 1) := by decide +kernel
theorem dX2_walk_64 : decode cX2_walk 64 = .ok (.iastore, 1) := by decide +kernel
theorem dX2_walk_65 : decode cX2_walk 65 = .ok (.iinc 6 1, 3) := by decide +kernel
theorem dX2_walk_68 : decode cX2_walk 68 = .ok (.goto (-65), 3) := by decide +kernel
theorem dX2_walk_71 : decode cX2_walk 71 = .ok (.iconst 0, 1) := by decide +kernel
theorem dX2_walk_72 : decode cX2_walk 72 = .ok (.istore 6, 2) := by decide +kernel
theorem dX2_walk_74 : decode cX2_walk 74 = .ok (.iconst 0, 1) := by decide +kernel
theorem dX2_walk_75 : decode cX2_walk 75 = .ok (.istore 7, 2) := by decide +kernel
theorem dX2_walk_77 : decode cX2_walk 77 = .ok (.iload 7, 2) := by decide +kernel
theorem dX2_walk_79 : decode cX2_walk 79 = .ok (.iload_n 3, 1) := by decide +kernel
theorem dX2_walk_80 : decode cX2_walk 80 = .ok (.if_icmp .ge 29, 3) := by decide +kernel
theorem dX2_walk_83 : decode cX2_walk 83 = .ok (.iload 6, 2) := by decide +kernel
theorem dX2_walk_85 : decode cX2_walk 85 = .ok (.iload 5, 2) := by decide +kernel
theorem dX2_walk_87 : decode cX2_walk 87 = .ok (.if_icmp .ge 22, 3) := by decide +kernel
theorem dX2_walk_90 : decode cX2_walk 90 = .ok (.iload 6, 2) := by decide +kernel
theorem dX2_walk_92 : decode cX2_walk 92 = .ok (.aload_n 0, 1) := by decide +kernel
theorem dX2_walk_93 : decode cX2_walk 93 = .ok (.iload_n 1, 1) := by decide +kernel
theorem dX2_walk_94 : decode cX2_walk 94 = .ok (.aload_n 2, 1) := by decide +kernel
theorem dX2_walk_95 : decode cX2_walk 95 = .ok (.iload 4, 2) := by decide +kernel
theorem dX2_walk_97 : decode cX2_walk 97 = .ok (.invokevirtual 87, 3) := by decide +kernel
theorem dX2_walk_100 : decode cX2_walk 100 = .ok (.iadd, 1) := by decide +kernel
theorem dX2_walk_101 : decode cX2_walk 101 = .ok (.istore 6, 2) := by decide +kernel
theorem dX2_walk_103 : decode cX2_walk 103 = .ok (.iinc 7 1, 3) := by decide +kernel
theorem dX2_walk_106 : decode cX2_walk 106 = .ok (.goto (-29), 3) := by decide +kernel
theorem dX2_walk_109 : decode cX2_walk 109 = .ok (.iload 6, 2) := by decide +kernel
theorem dX2_walk_111 : decode cX2_walk 111 = .ok (.ireturn, 1) := by decide +kernel
theorem dX2_walkOneDay_0 : decode cX2_walkOneDay 0 = .ok (.iconst 0, 1) := by decide +kernel
theorem dX2_walkOneDay_1 : decode cX2_walkOneDay 1 = .ok (.istore 4, 2) := by decide +kernel
theorem dX2_walkOneDay_3 : decode cX2_walkOneDay 3 = .ok (.aload_n 0, 1) := by decide +kernel
theorem dX2_walkOneDay_4 : decode cX2_walkOneDay 4 = .ok (.getfield 26, 3) := by decide +kernel
theorem dX2_walkOneDay_7 : decode cX2_walkOneDay 7 = .ok (.iconst 0, 1) := by decide +kernel
theorem dX2_walkOneDay_8 : decode cX2_walkOneDay 8 = .ok (.invokestatic 91, 3) := by decide +kernel
theorem dX2_walkOneDay_11 : decode cX2_walkOneDay 11 = .ok (.iconst 0, 1) := by decide +kernel
theorem dX2_walkOneDay_12 : decode cX2_walkOneDay 12 = .ok (.istore 5, 2) := by decide +kernel
theorem dX2_walkOneDay_14 : decode cX2_walkOneDay 14 = .ok (.iload 5, 2) := by decide +kernel
theorem dX2_walkOneDay_16 : decode cX2_walkOneDay 16 = .ok (.aload_n 0, 1) := by decide +kernel
theorem dX2_walkOneDay_17 : decode cX2_walkOneDay 17 = .ok (.getfield 29, 3) := by decide +kernel
theorem dX2_walkOneDay_20 : decode cX2_walkOneDay 20 = .ok (.getfield 64, 3) := by decide +kernel
theorem dX2_walkOneDay_23 : decode cX2_walkOneDay 23 = .ok (.if_icmp .ge 143, 3) := by decide +kernel
theorem dX2_walkOneDay_26 : decode cX2_walkOneDay 26 = .ok (.aload_n 2, 1) := by decide +kernel
theorem dX2_walkOneDay_27 : decode cX2_walkOneDay 27 = .ok (.iload 5, 2) := by decide +kernel
theorem dX2_walkOneDay_29 : decode cX2_walkOneDay 29 = .ok (.iaload, 1) := by decide +kernel
theorem dX2_walkOneDay_30 : decode cX2_walkOneDay 30 = .ok (.istore 6, 2) := by decide +kernel
theorem dX2_walkOneDay_32 : decode cX2_walkOneDay 32 = .ok (.aload_n 0, 1) := by decide +kernel
theorem dX2_walkOneDay_33 : decode cX2_walkOneDay 33 = .ok (.getfield 20, 3) := by decide +kernel
theorem dX2_walkOneDay_36 : decode cX2_walkOneDay 36 = .ok (.iload 5, 2) := by decide +kernel
theorem dX2_walkOneDay_38 : decode cX2_walkOneDay 38 = .ok (.iaload, 1) := by decide +kernel
theorem dX2_walkOneDay_39 : decode cX2_walkOneDay 39 = .ok (.ifCond .le 121, 3) := by decide +kernel
theorem dX2_walkOneDay_42 : decode cX2_walkOneDay 42 = .ok (.aload_n 0, 1) := by decide +kernel
theorem dX2_walkOneDay_43 : decode cX2_walkOneDay 43 = .ok (.getfield 29, 3) := by decide +kernel
theorem dX2_walkOneDay_46 : decode cX2_walkOneDay 46 = .ok (.iload 6, 2) := by decide +kernel
theorem dX2_walkOneDay_48 : decode cX2_walkOneDay 48 = .ok (.invokevirtual 97, 3) := by decide +kernel
theorem dX2_walkOneDay_51 : decode cX2_walkOneDay 51 = .ok (.ifCond .eq 109, 3) := by decide +kernel
theorem dX2_walkOneDay_54 : decode cX2_walkOneDay 54 = .ok (.aload_n 0, 1) := by decide +kernel
theorem dX2_walkOneDay_55 : decode cX2_walkOneDay 55 = .ok (.getfield 20, 3) := by decide +kernel
theorem dX2_walkOneDay_58 : decode cX2_walkOneDay 58 = .ok (.iload 5, 2) := by decide +kernel
theorem dX2_walkOneDay_60 : decode cX2_walkOneDay 60 = .ok (.iaload, 1) := by decide +kernel
theorem dX2_walkOneDay_61 : decode cX2_walkOneDay 61 = .ok (.aload_n 0, 1) := by decide +kernel
theorem dX2_walkOneDay_62 : decode cX2_walkOneDay 62 = .ok (.getfield 46, 3) := by decide +kernel
theorem dX2_walkOneDay_65 : decode cX2_walkOneDay 65 = .ok (.invokestatic 101, 3) := by decide +kernel
theorem dX2_walkOneDay_68 : decode cX2_walkOneDay 68 = .ok (.istore 7, 2) := by decide +kernel
theorem dX2_walkOneDay_70 : decode cX2_walkOneDay 70 = .ok (.iload_n 3, 1) := by decide +kernel
theorem dX2_walkOneDay_71 : decode cX2_walkOneDay 71 = .ok (.iload 5, 2) := by decide +kernel
theorem dX2_walkOneDay_73 : decode cX2_walkOneDay 73 = .ok (.ishr, 1) := by decide +kernel
theorem dX2_walkOneDay_74 : decode cX2_walkOneDay 74 = .ok (.iconst 1, 1) := by decide +kernel
theorem dX2_walkOneDay_75 : decode cX2_walkOneDay 75 = .ok (.iand, 1) := by decide +kernel
theorem dX2_walkOneDay_76 : decode cX2_walkOneDay 76 = .ok (.ifCond .eq 7, 3) := by decide +kernel
theorem dX2_walkOneDay_79 : decode cX2_walkOneDay 79 = .ok (.iconst 0, 1) := by decide +kernel
theorem dX2_walkOneDay_80 : decode cX2_walkOneDay 80 = .ok (.goto 12, 3) := by decide +kernel
theorem dX2_walkOneDay_83 : decode cX2_walkOneDay 83 = .ok (.iload 7, 2) := by decide +kernel
theorem dX2_walkOneDay_85 : decode cX2_walkOneDay 85 = .ok (.aload_n 0, 1) := by decide +kernel
theorem dX2_walkOneDay_86 : decode cX2_walkOneDay 86 = .ok (.getfield 50, 3) := by decide +kernel
theorem dX2_walkOneDay_89 : decode cX2_walkOneDay 89 = .ok (.invokestatic 101, 3) := by decide +kernel
theorem dX2_walkOneDay_92 : decode cX2_walkOneDay 92 = .ok (.istore 8, 2) := by decide +kernel
theorem dX2_walkOneDay_94 : decode cX2_walkOneDay 94 = .ok (.aload_n 0, 1) := by decide +kernel
theorem dX2_walkOneDay_95 : decode cX2_walkOneDay 95 = .ok (.getfield 20, 3) := by decide +kernel
theorem dX2_walkOneDay_98 : decode cX2_walkOneDay 98 = .ok (.iload 5, 2) := by decide +kernel
theorem dX2_walkOneDay_100 : decode cX2_walkOneDay 100 = .ok (.dup2, 1) := by decide +kernel
theorem dX2_walkOneDay_101 : decode cX2_walkOneDay 101 = .ok (.iaload, 1) := by decide +kernel
theorem dX2_walkOneDay_102 : decode cX2_walkOneDay 102 = .ok (.iload 7, 2) := by decide +kernel
theorem dX2_walkOneDay_104 : decode cX2_walkOneDay 104 = .ok (.isub, 1) := by decide +kernel
theorem dX2_walkOneDay_105 : decode cX2_walkOneDay 105 = .ok (.iastore, 1) := by decide +kernel
theorem dX2_walkOneDay_106 : decode cX2_walkOneDay 106 = .ok (.iload 4, 2) := by decide +kernel
theorem dX2_walkOneDay_108 : decode cX2_walkOneDay 108 = .ok (.iload 8, 2) := by decide +kernel
theorem dX2_walkOneDay_110 : decode cX2_walkOneDay 110 = .ok (.iadd, 1) := by decide +kernel
theorem dX2_walkOneDay_111 : decode cX2_walkOneDay 111 = .ok (.istore 4, 2) := by decide +kernel
theorem dX2_walkOneDay_113 : decode cX2_walkOneDay 113 = .ok (.iload_n 1, 1) := by decide +kernel
theorem dX2_walkOneDay_114 : decode cX2_walkOneDay 114 = .ok (.iload 5, 2) := by decide +kernel
theorem dX2_walkOneDay_116 : decode cX2_walkOneDay 116 = .ok (.ishr, 1) := by decide +kernel
theorem dX2_walkOneDay_117 : decode cX2_walkOneDay 117 = .ok (.iload_n 1, 1) := by decide +kernel
theorem dX2_walkOneDay_118 : decode cX2_walkOneDay 118 = .ok (.iload 6, 2) := by decide +kernel
theorem dX2_walkOneDay_120 : decode cX2_walkOneDay 120 = .ok (.ishr, 1) := by decide +kernel
theorem dX2_walkOneDay_121 : decode cX2_walkOneDay 121 = .ok (.ixor, 1) := by decide +kernel
theorem dX2_walkOneDay_122 : decode cX2_walkOneDay 122 = .ok (.iconst 1, 1) := by decide +kernel
theorem dX2_walkOneDay_123 : decode cX2_walkOneDay 123 = .ok (.iand, 1) := by decide +kernel
theorem dX2_walkOneDay_124 : decode cX2_walkOneDay 124 = .ok (.ifCond .ne 21, 3) := by decide +kernel
theorem dX2_walkOneDay_127 : decode cX2_walkOneDay 127 = .ok (.aload_n 0, 1) := by decide +kernel
theorem dX2_walkOneDay_128 : decode cX2_walkOneDay 128 = .ok (.getfield 26, 3) := by decide +kernel
theorem dX2_walkOneDay_131 : decode cX2_walkOneDay 131 = .ok (.iload 6, 2) := by decide +kernel
theorem dX2_walkOneDay_133 : decode cX2_walkOneDay 133 = .ok (.dup2, 1) := by decide +kernel
theorem dX2_walkOneDay_134 : decode cX2_walkOneDay 134 = .ok (.iaload, 1) := by decide +kernel
theorem dX2_walkOneDay_135 : decode cX2_walkOneDay 135 = .ok (.iload 7, 2) := by decide +kernel
theorem dX2_walkOneDay_137 : decode cX2_walkOneDay 137 = .ok (.iload 8, 2) := by decide +kernel
theorem dX2_walkOneDay_139 : decode cX2_walkOneDay 139 = .ok (.isub, 1) := by decide +kernel
theorem dX2_walkOneDay_140 : decode cX2_walkOneDay 140 = .ok (.iadd, 1) := by decide +kernel
theorem dX2_walkOneDay_141 : decode cX2_walkOneDay 141 = .ok (.iastore, 1) := by decide +kernel
theorem dX2_walkOneDay_142 : decode cX2_walkOneDay 142 = .ok (.goto 18, 3) := by decide +kernel
theorem dX2_walkOneDay_145 : decode cX2_walkOneDay 145 = .ok (.aload_n 0, 1) := by decide +kernel
theorem dX2_walkOneDay_146 : decode cX2_walkOneDay 146 = .ok (.getfield 23, 3) := by decide +kernel
theorem dX2_walkOneDay_149 : decode cX2_walkOneDay 149 = .ok (.iload 6, 2) := by decide +kernel
theorem dX2_walkOneDay_151 : decode cX2_walkOneDay 151 = .ok (.dup2, 1) := by decide +kernel
theorem dX2_walkOneDay_152 : decode cX2_walkOneDay 152 = .ok (.iaload, 1) := by decide +kernel
theorem dX2_walkOneDay_153 : decode cX2_walkOneDay 153 = .ok (.iload 7, 2) := by decide +kernel
theorem dX2_walkOneDay_155 : decode cX2_walkOneDay 155 = .ok (.iload 8, 2) := by decide +kernel
theorem dX2_walkOneDay_157 : decode cX2_walkOneDay 157 = .ok (.isub, 1) := by decide +kernel
theorem dX2_walkOneDay_158 : decode cX2_walkOneDay 158 = .ok (.iadd, 1) := by decide +kernel
theorem dX2_walkOneDay_159 : decode cX2_walkOneDay 159 = .ok (.iastore, 1) := by decide +kernel
theorem dX2_walkOneDay_160 : decode cX2_walkOneDay 160 = .ok (.iinc 5 1, 3) := by decide +kernel
theorem dX2_walkOneDay_163 : decode cX2_walkOneDay 163 = .ok (.goto (-149), 3) := by decide +kernel
theorem dX2_walkOneDay_166 : decode cX2_walkOneDay 166 = .ok (.iconst 0, 1) := by decide +kernel
theorem dX2_walkOneDay_167 : decode cX2_walkOneDay 167 = .ok (.istore 5, 2) := by decide +kernel
theorem dX2_walkOneDay_169 : decode cX2_walkOneDay 169 = .ok (.iload 5, 2) := by decide +kernel
theorem dX2_walkOneDay_171 : decode cX2_walkOneDay 171 = .ok (.aload_n 0, 1) := by decide +kernel
theorem dX2_walkOneDay_172 : decode cX2_walkOneDay 172 = .ok (.getfield 29, 3) := by decide +kernel
theorem dX2_walkOneDay_175 : decode cX2_walkOneDay 175 = .ok (.getfield 64, 3) := by decide +kernel
theorem dX2_walkOneDay_178 : decode cX2_walkOneDay 178 = .ok (.if_icmp .ge 26, 3) := by decide +kernel
theorem dX2_walkOneDay_181 : decode cX2_walkOneDay 181 = .ok (.aload_n 0, 1) := by decide +kernel
theorem dX2_walkOneDay_182 : decode cX2_walkOneDay 182 = .ok (.getfield 20, 3) := by decide +kernel
theorem dX2_walkOneDay_185 : decode cX2_walkOneDay 185 = .ok (.iload 5, 2) := by decide +kernel
theorem dX2_walkOneDay_187 : decode cX2_walkOneDay 187 = .ok (.dup2, 1) := by decide +kernel
theorem dX2_walkOneDay_188 : decode cX2_walkOneDay 188 = .ok (.iaload, 1) := by decide +kernel
theorem dX2_walkOneDay_189 : decode cX2_walkOneDay 189 = .ok (.aload_n 0, 1) := by decide +kernel
theorem dX2_walkOneDay_190 : decode cX2_walkOneDay 190 = .ok (.getfield 26, 3) := by decide +kernel
theorem dX2_walkOneDay_193 : decode cX2_walkOneDay 193 = .ok (.iload 5, 2) := by decide +kernel
theorem dX2_walkOneDay_195 : decode cX2_walkOneDay 195 = .ok (.iaload, 1) := by decide +kernel
theorem dX2_walkOneDay_196 : decode cX2_walkOneDay 196 = .ok (.iadd, 1) := by decide +kernel
theorem dX2_walkOneDay_197 : decode cX2_walkOneDay 197 = .ok (.iastore, 1) := by decide +kernel
theorem dX2_walkOneDay_198 : decode cX2_walkOneDay 198 = .ok (.iinc 5 1, 3) := by decide +kernel
theorem dX2_walkOneDay_201 : decode cX2_walkOneDay 201 = .ok (.goto (-32), 3) := by decide +kernel
theorem dX2_walkOneDay_204 : decode cX2_walkOneDay 204 = .ok (.iload 4, 2) := by decide +kernel
theorem dX2_walkOneDay_206 : decode cX2_walkOneDay 206 = .ok (.ireturn, 1) := by decide +kernel
theorem dX2_stillAstray_0 : decode cX2_stillAstray 0 = .ok (.iconst 0, 1) := by decide +kernel
theorem dX2_stillAstray_1 : decode cX2_stillAstray 1 = .ok (.istore_n 1, 1) := by decide +kernel
theorem dX2_stillAstray_2 : decode cX2_stillAstray 2 = .ok (.iconst 0, 1) := by decide +kernel
theorem dX2_stillAstray_3 : decode cX2_stillAstray 3 = .ok (.istore_n 2, 1) := by decide +kernel
theorem dX2_stillAstray_4 : decode cX2_stillAstray 4 = .ok (.iload_n 2, 1) := by decide +kernel
theorem dX2_stillAstray_5 : decode cX2_stillAstray 5 = .ok (.aload_n 0, 1) := by decide +kernel
theorem dX2_stillAstray_6 : decode cX2_stillAstray 6 = .ok (.getfield 29, 3) := by decide +kernel
theorem dX2_stillAstray_9 : decode cX2_stillAstray 9 = .ok (.getfield 64, 3) := by decide +kernel
theorem dX2_stillAstray_12 : decode cX2_stillAstray 12 = .ok (.if_icmp .ge 18, 3) := by decide +kernel
theorem dX2_stillAstray_15 : decode cX2_stillAstray 15 = .ok (.iload_n 1, 1) := by decide +kernel
theorem dX2_stillAstray_16 : decode cX2_stillAstray 16 = .ok (.aload_n 0, 1) := by decide +kernel
theorem dX2_stillAstray_17 : decode cX2_stillAstray 17 = .ok (.getfield 20, 3) := by decide +kernel
theorem dX2_stillAstray_20 : decode cX2_stillAstray 20 = .ok (.iload_n 2, 1) := by decide +kernel
theorem dX2_stillAstray_21 : decode cX2_stillAstray 21 = .ok (.iaload, 1) := by decide +kernel
theorem dX2_stillAstray_22 : decode cX2_stillAstray 22 = .ok (.iadd, 1) := by decide +kernel
theorem dX2_stillAstray_23 : decode cX2_stillAstray 23 = .ok (.istore_n 1, 1) := by decide +kernel
theorem dX2_stillAstray_24 : decode cX2_stillAstray 24 = .ok (.iinc 2 1, 3) := by decide +kernel
theorem dX2_stillAstray_27 : decode cX2_stillAstray 27 = .ok (.goto (-23), 3) := by decide +kernel
theorem dX2_stillAstray_30 : decode cX2_stillAstray 30 = .ok (.iload_n 1, 1) := by decide +kernel
theorem dX2_stillAstray_31 : decode cX2_stillAstray 31 = .ok (.ireturn, 1) := by decide +kernel
theorem dX2_fullest_0 : decode cX2_fullest 0 = .ok (.iconst 0, 1) := by decide +kernel
theorem dX2_fullest_1 : decode cX2_fullest 1 = .ok (.istore_n 1, 1) := by decide +kernel
theorem dX2_fullest_2 : decode cX2_fullest 2 = .ok (.iconst 0, 1) := by decide +kernel
theorem dX2_fullest_3 : decode cX2_fullest 3 = .ok (.istore_n 2, 1) := by decide +kernel
theorem dX2_fullest_4 : decode cX2_fullest 4 = .ok (.iload_n 2, 1) := by decide +kernel
theorem dX2_fullest_5 : decode cX2_fullest 5 = .ok (.aload_n 0, 1) := by decide +kernel
theorem dX2_fullest_6 : decode cX2_fullest 6 = .ok (.getfield 29, 3) := by decide +kernel
theorem dX2_fullest_9 : decode cX2_fullest 9 = .ok (.getfield 64, 3) := by decide +kernel
theorem dX2_fullest_12 : decode cX2_fullest 12 = .ok (.if_icmp .ge 27, 3) := by decide +kernel
theorem dX2_fullest_15 : decode cX2_fullest 15 = .ok (.iload_n 1, 1) := by decide +kernel
theorem dX2_fullest_16 : decode cX2_fullest 16 = .ok (.aload_n 0, 1) := by decide +kernel
theorem dX2_fullest_17 : decode cX2_fullest 17 = .ok (.getfield 20, 3) := by decide +kernel
theorem dX2_fullest_20 : decode cX2_fullest 20 = .ok (.iload_n 2, 1) := by decide +kernel
theorem dX2_fullest_21 : decode cX2_fullest 21 = .ok (.iaload, 1) := by decide +kernel
theorem dX2_fullest_22 : decode cX2_fullest 22 = .ok (.aload_n 0, 1) := by decide +kernel
theorem dX2_fullest_23 : decode cX2_fullest 23 = .ok (.getfield 23, 3) := by decide +kernel
theorem dX2_fullest_26 : decode cX2_fullest 26 = .ok (.iload_n 2, 1) := by decide +kernel
theorem dX2_fullest_27 : decode cX2_fullest 27 = .ok (.iaload, 1) := by decide +kernel
theorem dX2_fullest_28 : decode cX2_fullest 28 = .ok (.iadd, 1) := by decide +kernel
theorem dX2_fullest_29 : decode cX2_fullest 29 = .ok (.invokestatic 104, 3) := by decide +kernel
theorem dX2_fullest_32 : decode cX2_fullest 32 = .ok (.istore_n 1, 1) := by decide +kernel
theorem dX2_fullest_33 : decode cX2_fullest 33 = .ok (.iinc 2 1, 3) := by decide +kernel
theorem dX2_fullest_36 : decode cX2_fullest 36 = .ok (.goto (-32), 3) := by decide +kernel
theorem dX2_fullest_39 : decode cX2_fullest 39 = .ok (.iload_n 1, 1) := by decide +kernel
theorem dX2_fullest_40 : decode cX2_fullest 40 = .ok (.ireturn, 1) := by decide +kernel
theorem dX2_place_0 : decode cX2_place 0 = .ok (.iconst 0, 1) := by decide +kernel
theorem dX2_place_1 : decode cX2_place 1 = .ok (.istore 5, 2) := by decide +kernel
theorem dX2_place_3 : decode cX2_place 3 = .ok (.iload 5, 2) := by decide +kernel
theorem dX2_place_5 : decode cX2_place 5 = .ok (.aload_n 3, 1) := by decide +kernel
theorem dX2_place_6 : decode cX2_place 6 = .ok (.getfield 109, 3) := by decide +kernel
theorem dX2_place_9 : decode cX2_place 9 = .ok (.if_icmp .ge 27, 3) := by decide +kernel
theorem dX2_place_12 : decode cX2_place 12 = .ok (.aload_n 0, 1) := by decide +kernel
theorem dX2_place_13 : decode cX2_place 13 = .ok (.aload_n 3, 1) := by decide +kernel
theorem dX2_place_14 : decode cX2_place 14 = .ok (.getfield 114, 3) := by decide +kernel
theorem dX2_place_17 : decode cX2_place 17 = .ok (.iload 5, 2) := by decide +kernel
theorem dX2_place_19 : decode cX2_place 19 = .ok (.iaload, 1) := by decide +kernel
theorem dX2_place_20 : decode cX2_place 20 = .ok (.aload_n 0, 1) := by decide +kernel
theorem dX2_place_21 : decode cX2_place 21 = .ok (.getfield 17, 3) := by decide +kernel
theorem dX2_place_24 : decode cX2_place 24 = .ok (.iload 5, 2) := by decide +kernel
theorem dX2_place_26 : decode cX2_place 26 = .ok (.aaload, 1) := by decide +kernel
theorem dX2_place_27 : decode cX2_place 27 = .ok (.invokevirtual 51, 3) := by decide +kernel
theorem dX2_place_30 : decode cX2_place 30 = .ok (.iinc 5 1, 3) := by decide +kernel
theorem dX2_place_33 : decode cX2_place 33 = .ok (.goto (-30), 3) := by decide +kernel
theorem dX2_place_36 : decode cX2_place 36 = .ok (.aload_n 0, 1) := by decide +kernel
theorem dX2_place_37 : decode cX2_place 37 = .ok (.iconst 0, 1) := by decide +kernel
theorem dX2_place_38 : decode cX2_place 38 = .ok (.putfield 117, 3) := by decide +kernel
theorem dX2_place_41 : decode cX2_place 41 = .ok (.aload_n 0, 1) := by decide +kernel
theorem dX2_place_42 : decode cX2_place 42 = .ok (.ldc 59, 2) := by decide +kernel
theorem dX2_place_44 : decode cX2_place 44 = .ok (.putfield 120, 3) := by decide +kernel
theorem dX2_place_47 : decode cX2_place 47 = .ok (.iconst 0, 1) := by decide +kernel
theorem dX2_place_48 : decode cX2_place 48 = .ok (.istore 5, 2) := by decide +kernel
theorem dX2_place_50 : decode cX2_place 50 = .ok (.iload 5, 2) := by decide +kernel
theorem dX2_place_52 : decode cX2_place 52 = .ok (.iload_n 1, 1) := by decide +kernel
theorem dX2_place_53 : decode cX2_place 53 = .ok (.if_icmp .gt 58, 3) := by decide +kernel
theorem dX2_place_56 : decode cX2_place 56 = .ok (.iload 5, 2) := by decide +kernel
theorem dX2_place_58 : decode cX2_place 58 = .ok (.aload_n 0, 1) := by decide +kernel
theorem dX2_place_59 : decode cX2_place 59 = .ok (.getfield 37, 3) := by decide +kernel
theorem dX2_place_62 : decode cX2_place 62 = .ok (.if_icmp .gt 49, 3) := by decide +kernel
theorem dX2_place_65 : decode cX2_place 65 = .ok (.iconst 0, 1) := by decide +kernel
theorem dX2_place_66 : decode cX2_place 66 = .ok (.istore 6, 2) := by decide +kernel
theorem dX2_place_68 : decode cX2_place 68 = .ok (.iload 6, 2) := by decide +kernel
theorem dX2_place_70 : decode cX2_place 70 = .ok (.iconst 1, 1) := by decide +kernel
theorem dX2_place_71 : decode cX2_place 71 = .ok (.aload_n 0, 1) := by decide +kernel
theorem dX2_place_72 : decode cX2_place 72 = .ok (.getfield 37, 3) := by decide +kernel
theorem dX2_place_75 : decode cX2_place 75 = .ok (.ishl, 1) := by decide +kernel
theorem dX2_place_76 : decode cX2_place 76 = .ok (.if_icmp .ge 29, 3) := by decide +kernel
theorem dX2_place_79 : decode cX2_place 79 = .ok (.iload 6, 2) := by decide +kernel
theorem dX2_place_81 : decode cX2_place 81 = .ok (.invokestatic 123, 3) := by decide +kernel
theorem dX2_place_84 : decode cX2_place 84 = .ok (.iload 5, 2) := by decide +kernel
theorem dX2_place_86 : decode cX2_place 86 = .ok (.if_icmp .ne 13, 3) := by decide +kernel
theorem dX2_place_89 : decode cX2_place 89 = .ok (.aload_n 0, 1) := by decide +kernel
theorem dX2_place_90 : decode cX2_place 90 = .ok (.iload 6, 2) := by decide +kernel
theorem dX2_place_92 : decode cX2_place 92 = .ok (.iload_n 2, 1) := by decide +kernel
theorem dX2_place_93 : decode cX2_place 93 = .ok (.aload_n 3, 1) := by decide +kernel
theorem dX2_place_94 : decode cX2_place 94 = .ok (.iload 4, 2) := by decide +kernel
theorem dX2_place_96 : decode cX2_place 96 = .ok (.invokevirtual 128, 3) := by decide +kernel
theorem dX2_place_99 : decode cX2_place 99 = .ok (.iinc 6 1, 3) := by decide +kernel
theorem dX2_place_102 : decode cX2_place 102 = .ok (.goto (-34), 3) := by decide +kernel
theorem dX2_place_105 : decode cX2_place 105 = .ok (.iinc 5 1, 3) := by decide +kernel
theorem dX2_place_108 : decode cX2_place 108 = .ok (.goto (-58), 3) := by decide +kernel
theorem dX2_place_111 : decode cX2_place 111 = .ok (.return_, 1) := by decide +kernel
theorem dX2_tryGuards_0 : decode cX2_tryGuards 0 = .ok (.aload_n 0, 1) := by decide +kernel
theorem dX2_tryGuards_1 : decode cX2_tryGuards 1 = .ok (.iload_n 1, 1) := by decide +kernel
theorem dX2_tryGuards_2 : decode cX2_tryGuards 2 = .ok (.invokevirtual 55, 3) := by decide +kernel
theorem dX2_tryGuards_5 : decode cX2_tryGuards 5 = .ok (.istore 5, 2) := by decide +kernel
theorem dX2_tryGuards_7 : decode cX2_tryGuards 7 = .ok (.iconst 0, 1) := by decide +kernel
theorem dX2_tryGuards_8 : decode cX2_tryGuards 8 = .ok (.istore 6, 2) := by decide +kernel
theorem dX2_tryGuards_10 : decode cX2_tryGuards 10 = .ok (.iconst 0, 1) := by decide +kernel
theorem dX2_tryGuards_11 : decode cX2_tryGuards 11 = .ok (.istore 7, 2) := by decide +kernel
theorem dX2_tryGuards_13 : decode cX2_tryGuards 13 = .ok (.iload 7, 2) := by decide +kernel
theorem dX2_tryGuards_15 : decode cX2_tryGuards 15 = .ok (.aload_n 3, 1) := by decide +kernel
theorem dX2_tryGuards_16 : decode cX2_tryGuards 16 = .ok (.getfield 109, 3) := by decide +kernel
theorem dX2_tryGuards_19 : decode cX2_tryGuards 19 = .ok (.if_icmp .ge 64, 3) := by decide +kernel
theorem dX2_tryGuards_22 : decode cX2_tryGuards 22 = .ok (.iload 6, 2) := by decide +kernel
theorem dX2_tryGuards_24 : decode cX2_tryGuards 24 = .ok (.aload_n 0, 1) := by decide +kernel
theorem dX2_tryGuards_25 : decode cX2_tryGuards 25 = .ok (.getfield 120, 3) := by decide +kernel
theorem dX2_tryGuards_28 : decode cX2_tryGuards 28 = .ok (.if_icmp .ge 55, 3) := by decide +kernel
theorem dX2_tryGuards_31 : decode cX2_tryGuards 31 = .ok (.iload_n 2, 1) := by decide +kernel
theorem dX2_tryGuards_32 : decode cX2_tryGuards 32 = .ok (.iload 7, 2) := by decide +kernel
theorem dX2_tryGuards_34 : decode cX2_tryGuards 34 = .ok (.ishr, 1) := by decide +kernel
theorem dX2_tryGuards_35 : decode cX2_tryGuards 35 = .ok (.iconst 1, 1) := by decide +kernel
theorem dX2_tryGuards_36 : decode cX2_tryGuards 36 = .ok (.iand, 1) := by decide +kernel
theorem dX2_tryGuards_37 : decode cX2_tryGuards 37 = .ok (.ifCond .eq 40, 3) := by decide +kernel
theorem dX2_tryGuards_40 : decode cX2_tryGuards 40 = .ok (.aload_n 0, 1) := by decide +kernel
theorem dX2_tryGuards_41 : decode cX2_tryGuards 41 = .ok (.aload_n 3, 1) := by decide +kernel
theorem dX2_tryGuards_42 : decode cX2_tryGuards 42 = .ok (.getfield 114, 3) := by decide +kernel
theorem dX2_tryGuards_45 : decode cX2_tryGuards 45 = .ok (.iload 7, 2) := by decide +kernel
theorem dX2_tryGuards_47 : decode cX2_tryGuards 47 = .ok (.iaload, 1) := by decide +kernel
theorem dX2_tryGuards_48 : decode cX2_tryGuards 48 = .ok (.aload_n 0, 1) := by decide +kernel
theorem dX2_tryGuards_49 : decode cX2_tryGuards 49 = .ok (.getfield 17, 3) := by decide +kernel
theorem dX2_tryGuards_52 : decode cX2_tryGuards 52 = .ok (.iload 7, 2) := by decide +kernel
theorem dX2_tryGuards_54 : decode cX2_tryGuards 54 = .ok (.aaload, 1) := by decide +kernel
theorem dX2_tryGuards_55 : decode cX2_tryGuards 55 = .ok (.iload 4, 2) := by decide +kernel
theorem dX2_tryGuards_57 : decode cX2_tryGuards 57 = .ok (.iload 5, 2) := by decide +kernel
theorem dX2_tryGuards_59 : decode cX2_tryGuards 59 = .ok (.aload_n 0, 1) := by decide +kernel
theorem dX2_tryGuards_60 : decode cX2_tryGuards 60 = .ok (.getfield 120, 3) := by decide +kernel
theorem dX2_tryGuards_63 : decode cX2_tryGuards 63 = .ok (.invokevirtual 60, 3) := by decide +kernel
theorem dX2_tryGuards_66 : decode cX2_tryGuards 66 = .ok (.istore 8, 2) := by decide +kernel
theorem dX2_tryGuards_68 : decode cX2_tryGuards 68 = .ok (.iload 6, 2) := by decide +kernel
theorem dX2_tryGuards_70 : decode cX2_tryGuards 70 = .ok (.iload 8, 2) := by decide +kernel
theorem dX2_tryGuards_72 : decode cX2_tryGuards 72 = .ok (.invokestatic 104, 3) := by decide +kernel
theorem dX2_tryGuards_75 : decode cX2_tryGuards 75 = .ok (.istore 6, 2) := by decide +kernel
theorem dX2_tryGuards_77 : decode cX2_tryGuards 77 = .ok (.iinc 7 1, 3) := by decide +kernel
theorem dX2_tryGuards_80 : decode cX2_tryGuards 80 = .ok (.goto (-67), 3) := by decide +kernel
theorem dX2_tryGuards_83 : decode cX2_tryGuards 83 = .ok (.iload 6, 2) := by decide +kernel
theorem dX2_tryGuards_85 : decode cX2_tryGuards 85 = .ok (.aload_n 0, 1) := by decide +kernel
theorem dX2_tryGuards_86 : decode cX2_tryGuards 86 = .ok (.getfield 120, 3) := by decide +kernel
theorem dX2_tryGuards_89 : decode cX2_tryGuards 89 = .ok (.if_icmp .ge 14, 3) := by decide +kernel
theorem dX2_tryGuards_92 : decode cX2_tryGuards 92 = .ok (.aload_n 0, 1) := by decide +kernel
theorem dX2_tryGuards_93 : decode cX2_tryGuards 93 = .ok (.iload_n 1, 1) := by decide +kernel
theorem dX2_tryGuards_94 : decode cX2_tryGuards 94 = .ok (.putfield 117, 3) := by decide +kernel
theorem dX2_tryGuards_97 : decode cX2_tryGuards 97 = .ok (.aload_n 0, 1) := by decide +kernel
theorem dX2_tryGuards_98 : decode cX2_tryGuards 98 = .ok (.iload 6, 2) := by decide +kernel
theorem dX2_tryGuards_100 : decode cX2_tryGuards 100 = .ok (.putfield 120, 3) := by decide +kernel
theorem dX2_tryGuards_103 : decode cX2_tryGuards 103 = .ok (.return_, 1) := by decide +kernel
