theorem dX12_isLine_0 : decode cX12_isLine 0 = .ok (.iload_n 1, 1) := by decide +kernel
theorem dX12_isLine_1 : decode cX12_isLine 1 = .ok (.ifCond .lt 17, 3) := by decide +kernel
theorem dX12_isLine_4 : decode cX12_isLine 4 = .ok (.iload_n 1, 1) := by decide +kernel
theorem dX12_isLine_5 : decode cX12_isLine 5 = .ok (.iconst 1, 1) := by decide +kernel
theorem dX12_isLine_6 : decode cX12_isLine 6 = .ok (.aload_n 0, 1) := by decide +kernel
theorem dX12_isLine_7 : decode cX12_isLine 7 = .ok (.invokevirtual 287, 3) := by decide +kernel
theorem dX12_isLine_10 : decode cX12_isLine 10 = .ok (.ishl, 1) := by decide +kernel
theorem dX12_isLine_11 : decode cX12_isLine 11 = .ok (.if_icmp .ge 7, 3) := by decide +kernel
theorem dX12_isLine_14 : decode cX12_isLine 14 = .ok (.iconst 1, 1) := by decide +kernel
theorem dX12_isLine_15 : decode cX12_isLine 15 = .ok (.goto 4, 3) := by decide +kernel
theorem dX12_isLine_18 : decode cX12_isLine 18 = .ok (.iconst 0, 1) := by decide +kernel
theorem dX12_isLine_19 : decode cX12_isLine 19 = .ok (.ireturn, 1) := by decide +kernel
theorem dX12_isDraft_0 : decode cX12_isDraft 0 = .ok (.iload_n 1, 1) := by decide +kernel
theorem dX12_isDraft_1 : decode cX12_isDraft 1 = .ok (.ifCond .lt 15, 3) := by decide +kernel
theorem dX12_isDraft_4 : decode cX12_isDraft 4 = .ok (.iload_n 1, 1) := by decide +kernel
theorem dX12_isDraft_5 : decode cX12_isDraft 5 = .ok (.aload_n 0, 1) := by decide +kernel
theorem dX12_isDraft_6 : decode cX12_isDraft 6 = .ok (.getfield 278, 3) := by decide +kernel
theorem dX12_isDraft_9 : decode cX12_isDraft 9 = .ok (.if_icmp .ge 7, 3) := by decide +kernel
theorem dX12_isDraft_12 : decode cX12_isDraft 12 = .ok (.iconst 1, 1) := by decide +kernel
theorem dX12_isDraft_13 : decode cX12_isDraft 13 = .ok (.goto 4, 3) := by decide +kernel
theorem dX12_isDraft_16 : decode cX12_isDraft 16 = .ok (.iconst 0, 1) := by decide +kernel
theorem dX12_isDraft_17 : decode cX12_isDraft 17 = .ok (.ireturn, 1) := by decide +kernel
theorem dX12_isPerson_0 : decode cX12_isPerson 0 = .ok (.iload_n 0, 1) := by decide +kernel
theorem dX12_isPerson_1 : decode cX12_isPerson 1 = .ok (.ifCond .lt 13, 3) := by decide +kernel
theorem dX12_isPerson_4 : decode cX12_isPerson 4 = .ok (.iload_n 0, 1) := by decide +kernel
theorem dX12_isPerson_5 : decode cX12_isPerson 5 = .ok (.bipush 8, 2) := by decide +kernel
theorem dX12_isPerson_7 : decode cX12_isPerson 7 = .ok (.if_icmp .ge 7, 3) := by decide +kernel
theorem dX12_isPerson_10 : decode cX12_isPerson 10 = .ok (.iconst 1, 1) := by decide +kernel
theorem dX12_isPerson_11 : decode cX12_isPerson 11 = .ok (.goto 4, 3) := by decide +kernel
theorem dX12_isPerson_14 : decode cX12_isPerson 14 = .ok (.iconst 0, 1) := by decide +kernel
theorem dX12_isPerson_15 : decode cX12_isPerson 15 = .ok (.ireturn, 1) := by decide +kernel
theorem dX12_days_0 : decode cX12_days 0 = .ok (.aload_n 0, 1) := by decide +kernel
theorem dX12_days_1 : decode cX12_days 1 = .ok (.iconst 0, 1) := by decide +kernel
theorem dX12_days_2 : decode cX12_days 2 = .ok (.putfield 110, 3) := by decide +kernel
theorem dX12_days_5 : decode cX12_days 5 = .ok (.iload_n 1, 1) := by decide +kernel
theorem dX12_days_6 : decode cX12_days 6 = .ok (.ifCond .lt 22, 3) := by decide +kernel
theorem dX12_days_9 : decode cX12_days 9 = .ok (.iload_n 1, 1) := by decide +kernel
theorem dX12_days_10 : decode cX12_days 10 = .ok (.sipush 999, 3) := by decide +kernel
theorem dX12_days_13 : decode cX12_days 13 = .ok (.if_icmp .gt 15, 3) := by decide +kernel
theorem dX12_days_16 : decode cX12_days 16 = .ok (.aload_n 0, 1) := by decide +kernel
theorem dX12_days_17 : decode cX12_days 17 = .ok (.getfield 290, 3) := by decide +kernel
theorem dX12_days_20 : decode cX12_days 20 = .ok (.iload_n 1, 1) := by decide +kernel
theorem dX12_days_21 : decode cX12_days 21 = .ok (.iadd, 1) := by decide +kernel
theorem dX12_days_22 : decode cX12_days 22 = .ok (.sipush 999, 3) := by decide +kernel
theorem dX12_days_25 : decode cX12_days 25 = .ok (.if_icmp .le 5, 3) := by decide +kernel
theorem dX12_days_28 : decode cX12_days 28 = .ok (.iconst (-1), 1) := by decide +kernel
theorem dX12_days_29 : decode cX12_days 29 = .ok (.ireturn, 1) := by decide +kernel
theorem dX12_days_30 : decode cX12_days 30 = .ok (.aload_n 0, 1) := by decide +kernel
theorem dX12_days_31 : decode cX12_days 31 = .ok (.dup, 1) := by decide +kernel
theorem dX12_days_32 : decode cX12_days 32 = .ok (.getfield 290, 3) := by decide +kernel
theorem dX12_days_35 : decode cX12_days 35 = .ok (.iload_n 1, 1) := by decide +kernel
theorem dX12_days_36 : decode cX12_days 36 = .ok (.iadd, 1) := by decide +kernel
theorem dX12_days_37 : decode cX12_days 37 = .ok (.putfield 290, 3) := by decide +kernel
theorem dX12_days_40 : decode cX12_days 40 = .ok (.aload_n 0, 1) := by decide +kernel
theorem dX12_days_41 : decode cX12_days 41 = .ok (.getfield 290, 3) := by decide +kernel
theorem dX12_days_44 : decode cX12_days 44 = .ok (.ireturn, 1) := by decide +kernel
theorem dX12_village_0 : decode cX12_village 0 = .ok (.aload_n 0, 1) := by decide +kernel
theorem dX12_village_1 : decode cX12_village 1 = .ok (.iconst 0, 1) := by decide +kernel
theorem dX12_village_2 : decode cX12_village 2 = .ok (.putfield 110, 3) := by decide +kernel
theorem dX12_village_5 : decode cX12_village 5 = .ok (.aload_n 0, 1) := by decide +kernel
theorem dX12_village_6 : decode cX12_village 6 = .ok (.iload_n 1, 1) := by decide +kernel
theorem dX12_village_7 : decode cX12_village 7 = .ok (.invokevirtual 293, 3) := by decide +kernel
theorem dX12_village_10 : decode cX12_village 10 = .ok (.ifCond .eq 22, 3) := by decide +kernel
theorem dX12_village_13 : decode cX12_village 13 = .ok (.iload_n 2, 1) := by decide +kernel
theorem dX12_village_14 : decode cX12_village 14 = .ok (.ifCond .lt 18, 3) := by decide +kernel
theorem dX12_village_17 : decode cX12_village 17 = .ok (.iload_n 2, 1) := by decide +kernel
theorem dX12_village_18 : decode cX12_village 18 = .ok (.iconst 5, 1) := by decide +kernel
theorem dX12_village_19 : decode cX12_village 19 = .ok (.if_icmp .gt 13, 3) := by decide +kernel
theorem dX12_village_22 : decode cX12_village 22 = .ok (.iload_n 3, 1) := by decide +kernel
theorem dX12_village_23 : decode cX12_village 23 = .ok (.iconst (-1), 1) := by decide +kernel
theorem dX12_village_24 : decode cX12_village 24 = .ok (.if_icmp .lt 8, 3) := by decide +kernel
theorem dX12_village_27 : decode cX12_village 27 = .ok (.iload_n 3, 1) := by decide +kernel
theorem dX12_village_28 : decode cX12_village 28 = .ok (.iconst 1, 1) := by decide +kernel
theorem dX12_village_29 : decode cX12_village 29 = .ok (.if_icmp .le 5, 3) := by decide +kernel
theorem dX12_village_32 : decode cX12_village 32 = .ok (.iconst 0, 1) := by decide +kernel
theorem dX12_village_33 : decode cX12_village 33 = .ok (.ireturn, 1) := by decide +kernel
theorem dX12_village_34 : decode cX12_village 34 = .ok (.aload_n 0, 1) := by decide +kernel
theorem dX12_village_35 : decode cX12_village 35 = .ok (.getfield 36, 3) := by decide +kernel
theorem dX12_village_38 : decode cX12_village 38 = .ok (.iload_n 1, 1) := by decide +kernel
theorem dX12_village_39 : decode cX12_village 39 = .ok (.iload_n 2, 1) := by decide +kernel
theorem dX12_village_40 : decode cX12_village 40 = .ok (.iastore, 1) := by decide +kernel
theorem dX12_village_41 : decode cX12_village 41 = .ok (.aload_n 0, 1) := by decide +kernel
theorem dX12_village_42 : decode cX12_village 42 = .ok (.getfield 39, 3) := by decide +kernel
theorem dX12_village_45 : decode cX12_village 45 = .ok (.iload_n 1, 1) := by decide +kernel
theorem dX12_village_46 : decode cX12_village 46 = .ok (.iload_n 3, 1) := by decide +kernel
theorem dX12_village_47 : decode cX12_village 47 = .ok (.iastore, 1) := by decide +kernel
theorem dX12_village_48 : decode cX12_village 48 = .ok (.aload_n 0, 1) := by decide +kernel
theorem dX12_village_49 : decode cX12_village 49 = .ok (.getfield 42, 3) := by decide +kernel
theorem dX12_village_52 : decode cX12_village 52 = .ok (.iload_n 1, 1) := by decide +kernel
theorem dX12_village_53 : decode cX12_village 53 = .ok (.iload 4, 2) := by decide +kernel
theorem dX12_village_55 : decode cX12_village 55 = .ok (.bastore, 1) := by decide +kernel
theorem dX12_village_56 : decode cX12_village 56 = .ok (.iconst 1, 1) := by decide +kernel
theorem dX12_village_57 : decode cX12_village 57 = .ok (.ireturn, 1) := by decide +kernel
theorem dX12_errs_0 : decode cX12_errs 0 = .ok (.aload_n 0, 1) := by decide +kernel
theorem dX12_errs_1 : decode cX12_errs 1 = .ok (.iconst 0, 1) := by decide +kernel
theorem dX12_errs_2 : decode cX12_errs 2 = .ok (.putfield 110, 3) := by decide +kernel
theorem dX12_errs_5 : decode cX12_errs 5 = .ok (.iload_n 1, 1) := by decide +kernel
theorem dX12_errs_6 : decode cX12_errs 6 = .ok (.ifCond .lt 18, 3) := by decide +kernel
theorem dX12_errs_9 : decode cX12_errs 9 = .ok (.iload_n 1, 1) := by decide +kernel
theorem dX12_errs_10 : decode cX12_errs 10 = .ok (.iconst 4, 1) := by decide +kernel
theorem dX12_errs_11 : decode cX12_errs 11 = .ok (.if_icmp .ge 13, 3) := by decide +kernel
theorem dX12_errs_14 : decode cX12_errs 14 = .ok (.iload_n 2, 1) := by decide +kernel
theorem dX12_errs_15 : decode cX12_errs 15 = .ok (.ifCond .lt 9, 3) := by decide +kernel
theorem dX12_errs_18 : decode cX12_errs 18 = .ok (.iload_n 2, 1) := by decide +kernel
theorem dX12_errs_19 : decode cX12_errs 19 = .ok (.bipush 50, 2) := by decide +kernel
theorem dX12_errs_21 : decode cX12_errs 21 = .ok (.if_icmp .le 5, 3) := by decide +kernel
theorem dX12_errs_24 : decode cX12_errs 24 = .ok (.iconst 0, 1) := by decide +kernel
theorem dX12_errs_25 : decode cX12_errs 25 = .ok (.ireturn, 1) := by decide +kernel
theorem dX12_errs_26 : decode cX12_errs 26 = .ok (.aload_n 0, 1) := by decide +kernel
theorem dX12_errs_27 : decode cX12_errs 27 = .ok (.getfield 46, 3) := by decide +kernel
theorem dX12_errs_30 : decode cX12_errs 30 = .ok (.iload_n 1, 1) := by decide +kernel
theorem dX12_errs_31 : decode cX12_errs 31 = .ok (.iload_n 2, 1) := by decide +kernel
theorem dX12_errs_32 : decode cX12_errs 32 = .ok (.iastore, 1) := by decide +kernel
theorem dX12_errs_33 : decode cX12_errs 33 = .ok (.iconst 1, 1) := by decide +kernel
theorem dX12_errs_34 : decode cX12_errs 34 = .ok (.ireturn, 1) := by decide +kernel
theorem dX12_noted_0 : decode cX12_noted 0 = .ok (.aload_n 0, 1) := by decide +kernel
theorem dX12_noted_1 : decode cX12_noted 1 = .ok (.getfield 64, 3) := by decide +kernel
theorem dX12_noted_4 : decode cX12_noted 4 = .ok (.aload_n 0, 1) := by decide +kernel
theorem dX12_noted_5 : decode cX12_noted 5 = .ok (.getfield 284, 3) := by decide +kernel
theorem dX12_noted_8 : decode cX12_noted 8 = .ok (.iload_n 1, 1) := by decide +kernel
theorem dX12_noted_9 : decode cX12_noted 9 = .ok (.iastore, 1) := by decide +kernel
theorem dX12_noted_10 : decode cX12_noted 10 = .ok (.aload_n 0, 1) := by decide +kernel
theorem dX12_noted_11 : decode cX12_noted 11 = .ok (.getfield 67, 3) := by decide +kernel
theorem dX12_noted_14 : decode cX12_noted 14 = .ok (.aload_n 0, 1) := by decide +kernel
theorem dX12_noted_15 : decode cX12_noted 15 = .ok (.getfield 284, 3) := by decide +kernel
theorem dX12_noted_18 : decode cX12_noted 18 = .ok (.aload_n 0, 1) := by decide +kernel
theorem dX12_noted_19 : decode cX12_noted 19 = .ok (.getfield 290, 3) := by decide +kernel
theorem dX12_noted_22 : decode cX12_noted 22 = .ok (.iastore, 1) := by decide +kernel
theorem dX12_noted_23 : decode cX12_noted 23 = .ok (.aload_n 0, 1) := by decide +kernel
theorem dX12_noted_24 : decode cX12_noted 24 = .ok (.getfield 70, 3) := by decide +kernel
theorem dX12_noted_27 : decode cX12_noted 27 = .ok (.aload_n 0, 1) := by decide +kernel
theorem dX12_noted_28 : decode cX12_noted 28 = .ok (.getfield 284, 3) := by decide +kernel
theorem dX12_noted_31 : decode cX12_noted 31 = .ok (.iload_n 2, 1) := by decide +kernel
theorem dX12_noted_32 : decode cX12_noted 32 = .ok (.iastore, 1) := by decide +kernel
theorem dX12_noted_33 : decode cX12_noted 33 = .ok (.aload_n 0, 1) := by decide +kernel
theorem dX12_noted_34 : decode cX12_noted 34 = .ok (.getfield 73, 3) := by decide +kernel
theorem dX12_noted_37 : decode cX12_noted 37 = .ok (.aload_n 0, 1) := by decide +kernel
theorem dX12_noted_38 : decode cX12_noted 38 = .ok (.getfield 284, 3) := by decide +kernel
theorem dX12_noted_41 : decode cX12_noted 41 = .ok (.iload_n 3, 1) := by decide +kernel
theorem dX12_noted_42 : decode cX12_noted 42 = .ok (.iastore, 1) := by decide +kernel
theorem dX12_noted_43 : decode cX12_noted 43 = .ok (.aload_n 0, 1) := by decide +kernel
theorem dX12_noted_44 : decode cX12_noted 44 = .ok (.getfield 76, 3) := by decide +kernel
theorem dX12_noted_47 : decode cX12_noted 47 = .ok (.aload_n 0, 1) := by decide +kernel
theorem dX12_noted_48 : decode cX12_noted 48 = .ok (.getfield 284, 3) := by decide +kernel
theorem dX12_noted_51 : decode cX12_noted 51 = .ok (.iload 4, 2) := by decide +kernel
theorem dX12_noted_53 : decode cX12_noted 53 = .ok (.iastore, 1) := by decide +kernel
theorem dX12_noted_54 : decode cX12_noted 54 = .ok (.aload_n 0, 1) := by decide +kernel
theorem dX12_noted_55 : decode cX12_noted 55 = .ok (.getfield 79, 3) := by decide +kernel
theorem dX12_noted_58 : decode cX12_noted 58 = .ok (.aload_n 0, 1) := by decide +kernel
theorem dX12_noted_59 : decode cX12_noted 59 = .ok (.getfield 284, 3) := by decide +kernel
theorem dX12_noted_62 : decode cX12_noted 62 = .ok (.iload 5, 2) := by decide +kernel
theorem dX12_noted_64 : decode cX12_noted 64 = .ok (.iastore, 1) := by decide +kernel
theorem dX12_noted_65 : decode cX12_noted 65 = .ok (.aload_n 0, 1) := by decide +kernel
theorem dX12_noted_66 : decode cX12_noted 66 = .ok (.dup, 1) := by decide +kernel
theorem dX12_noted_67 : decode cX12_noted 67 = .ok (.getfield 284, 3) := by decide +kernel
theorem dX12_noted_70 : decode cX12_noted 70 = .ok (.iconst 1, 1) := by decide +kernel
theorem dX12_noted_71 : decode cX12_noted 71 = .ok (.iadd, 1) := by decide +kernel
theorem dX12_noted_72 : decode cX12_noted 72 = .ok (.putfield 284, 3) := by decide +kernel
theorem dX12_noted_75 : decode cX12_noted 75 = .ok (.aload_n 0, 1) := by decide +kernel
theorem dX12_noted_76 : decode cX12_noted 76 = .ok (.getfield 284, 3) := by decide +kernel
theorem dX12_noted_79 : decode cX12_noted 79 = .ok (.iconst 1, 1) := by decide +kernel
theorem dX12_noted_80 : decode cX12_noted 80 = .ok (.isub, 1) := by decide +kernel
theorem dX12_noted_81 : decode cX12_noted 81 = .ok (.ireturn, 1) := by decide +kernel
theorem dX12_count_0 : decode cX12_count 0 = .ok (.aload_n 0, 1) := by decide +kernel
theorem dX12_count_1 : decode cX12_count 1 = .ok (.iconst 0, 1) := by decide +kernel
theorem dX12_count_2 : decode cX12_count 2 = .ok (.putfield 110, 3) := by decide +kernel
theorem dX12_count_5 : decode cX12_count 5 = .ok (.iload_n 1, 1) := by decide +kernel
theorem dX12_count_6 : decode cX12_count 6 = .ok (.ifCond .lt 49, 3) := by decide +kernel
theorem dX12_count_9 : decode cX12_count 9 = .ok (.iload_n 1, 1) := by decide +kernel
theorem dX12_count_10 : decode cX12_count 10 = .ok (.iconst 4, 1) := by decide +kernel
theorem dX12_count_11 : decode cX12_count 11 = .ok (.if_icmp .ge 44, 3) := by decide +kernel
theorem dX12_count_14 : decode cX12_count 14 = .ok (.aload_n 0, 1) := by decide +kernel
theorem dX12_count_15 : decode cX12_count 15 = .ok (.iload_n 2, 1) := by decide +kernel
theorem dX12_count_16 : decode cX12_count 16 = .ok (.invokevirtual 293, 3) := by decide +kernel
theorem dX12_count_19 : decode cX12_count 19 = .ok (.ifCond .eq 36, 3) := by decide +kernel
theorem dX12_count_22 : decode cX12_count 22 = .ok (.iload_n 3, 1) := by decide +kernel
theorem dX12_count_23 : decode cX12_count 23 = .ok (.ifCond .lt 32, 3) := by decide +kernel
theorem dX12_count_26 : decode cX12_count 26 = .ok (.iload_n 3, 1) := by decide +kernel
theorem dX12_count_27 : decode cX12_count 27 = .ok (.sipush 999, 3) := by decide +kernel
theorem dX12_count_30 : decode cX12_count 30 = .ok (.if_icmp .gt 25, 3) := by decide +kernel
theorem dX12_count_33 : decode cX12_count 33 = .ok (.iload 4, 2) := by decide +kernel
theorem dX12_count_35 : decode cX12_count 35 = .ok (.ifCond .lt 20, 3) := by decide +kernel
theorem dX12_count_38 : decode cX12_count 38 = .ok (.iload 4, 2) := by decide +kernel
theorem dX12_count_40 : decode cX12_count 40 = .ok (.sipush 999, 3) := by decide +kernel
theorem dX12_count_43 : decode cX12_count 43 = .ok (.if_icmp .gt 12, 3) := by decide +kernel
theorem dX12_count_46 : decode cX12_count 46 = .ok (.aload_n 0, 1) := by decide +kernel
theorem dX12_count_47 : decode cX12_count 47 = .ok (.getfield 284, 3) := by decide +kernel
theorem dX12_count_50 : decode cX12_count 50 = .ok (.bipush 80, 2) := by decide +kernel
theorem dX12_count_52 : decode cX12_count 52 = .ok (.if_icmp .ne 5, 3) := by decide +kernel
theorem dX12_count_55 : decode cX12_count 55 = .ok (.iconst (-1), 1) := by decide +kernel
theorem dX12_count_56 : decode cX12_count 56 = .ok (.ireturn, 1) := by decide +kernel
theorem dX12_count_57 : decode cX12_count 57 = .ok (.aload_n 0, 1) := by decide +kernel
theorem dX12_count_58 : decode cX12_count 58 = .ok (.iconst 3, 1) := by decide +kernel
theorem dX12_count_59 : decode cX12_count 59 = .ok (.iload_n 1, 1) := by decide +kernel
theorem dX12_count_60 : decode cX12_count 60 = .ok (.iload_n 2, 1) := by decide +kernel
theorem dX12_count_61 : decode cX12_count 61 = .ok (.iload_n 3, 1) := by decide +kernel
theorem dX12_count_62 : decode cX12_count 62 = .ok (.iload 4, 2) := by decide +kernel
theorem dX12_count_64 : decode cX12_count 64 = .ok (.invokevirtual 296, 3) := by decide +kernel
theorem dX12_count_67 : decode cX12_count 67 = .ok (.ireturn, 1) := by decide +kernel
theorem dX12_note_0 : decode cX12_note 0 = .ok (.aload_n 0, 1) := by decide +kernel
theorem dX12_note_1 : decode cX12_note 1 = .ok (.iconst 0, 1) := by decide +kernel
theorem dX12_note_2 : decode cX12_note 2 = .ok (.putfield 110, 3) := by decide +kernel
theorem dX12_note_5 : decode cX12_note 5 = .ok (.iload_n 1, 1) := by decide +kernel
theorem dX12_note_6 : decode cX12_note 6 = .ok (.ifCond .lt 38, 3) := by decide +kernel
theorem dX12_note_9 : decode cX12_note 9 = .ok (.iload_n 1, 1) := by decide +kernel
theorem dX12_note_10 : decode cX12_note 10 = .ok (.iconst 2, 1) := by decide +kernel
theorem dX12_note_11 : decode cX12_note 11 = .ok (.if_icmp .gt 33, 3) := by decide +kernel
theorem dX12_note_14 : decode cX12_note 14 = .ok (.iload_n 3, 1) := by decide +kernel
theorem dX12_note_15 : decode cX12_note 15 = .ok (.invokestatic 300, 3) := by decide +kernel
theorem dX12_note_18 : decode cX12_note 18 = .ok (.ifCond .eq 26, 3) := by decide +kernel
theorem dX12_note_21 : decode cX12_note 21 = .ok (.iload 4, 2) := by decide +kernel
theorem dX12_note_23 : decode cX12_note 23 = .ok (.ifCond .lt 21, 3) := by decide +kernel
theorem dX12_note_26 : decode cX12_note 26 = .ok (.iload 4, 2) := by decide +kernel
theorem dX12_note_28 : decode cX12_note 28 = .ok (.aload_n 0, 1) := by decide +kernel
theorem dX12_note_29 : decode cX12_note 29 = .ok (.getfield 290, 3) := by decide +kernel
theorem dX12_note_32 : decode cX12_note 32 = .ok (.if_icmp .gt 12, 3) := by decide +kernel
theorem dX12_note_35 : decode cX12_note 35 = .ok (.aload_n 0, 1) := by decide +kernel
theorem dX12_note_36 : decode cX12_note 36 = .ok (.getfield 284, 3) := by decide +kernel
theorem dX12_note_39 : decode cX12_note 39 = .ok (.bipush 80, 2) := by decide +kernel
theorem dX12_note_41 : decode cX12_note 41 = .ok (.if_icmp .ne 5, 3) := by decide +kernel
theorem dX12_note_44 : decode cX12_note 44 = .ok (.iconst (-1), 1) := by decide +kernel
theorem dX12_note_45 : decode cX12_note 45 = .ok (.ireturn, 1) := by decide +kernel
theorem dX12_note_46 : decode cX12_note 46 = .ok (.iload_n 1, 1) := by decide +kernel
theorem dX12_note_47 : decode cX12_note 47 = .ok (.iconst 1, 1) := by decide +kernel
theorem dX12_note_48 : decode cX12_note 48 = .ok (.if_icmp .ne 18, 3) := by decide +kernel
theorem dX12_note_51 : decode cX12_note 51 = .ok (.iload_n 2, 1) := by decide +kernel
theorem dX12_note_52 : decode cX12_note 52 = .ok (.invokestatic 300, 3) := by decide +kernel
theorem dX12_note_55 : decode cX12_note 55 = .ok (.ifCond .eq 19, 3) := by decide +kernel
theorem dX12_note_58 : decode cX12_note 58 = .ok (.iload_n 2, 1) := by decide +kernel
theorem dX12_note_59 : decode cX12_note 59 = .ok (.iload_n 3, 1) := by decide +kernel
theorem dX12_note_60 : decode cX12_note 60 = .ok (.if_icmp .ne 16, 3) := by decide +kernel
theorem dX12_note_63 : decode cX12_note 63 = .ok (.goto 11, 3) := by decide +kernel
theorem dX12_note_66 : decode cX12_note 66 = .ok (.aload_n 0, 1) := by decide +kernel
theorem dX12_note_67 : decode cX12_note 67 = .ok (.iload_n 2, 1) := by decide +kernel
theorem dX12_note_68 : decode cX12_note 68 = .ok (.invokevirtual 303, 3) := by decide +kernel
theorem dX12_note_71 : decode cX12_note 71 = .ok (.ifCond .ne 5, 3) := by decide +kernel
theorem dX12_note_74 : decode cX12_note 74 = .ok (.iconst (-1), 1) := by decide +kernel
theorem dX12_note_75 : decode cX12_note 75 = .ok (.ireturn, 1) := by decide +kernel
theorem dX12_note_76 : decode cX12_note 76 = .ok (.iload_n 1, 1) := by decide +kernel
theorem dX12_note_77 : decode cX12_note 77 = .ok (.ifCond .ne 16, 3) := by decide +kernel
theorem dX12_note_80 : decode cX12_note 80 = .ok (.iload 4, 2) := by decide +kernel
theorem dX12_note_82 : decode cX12_note 82 = .ok (.aload_n 0, 1) := by decide +kernel
theorem dX12_note_83 : decode cX12_note 83 = .ok (.getfield 58, 3) := by decide +kernel
theorem dX12_note_86 : decode cX12_note 86 = .ok (.iload_n 2, 1) := by decide +kernel
theorem dX12_note_87 : decode cX12_note 87 = .ok (.iaload, 1) := by decide +kernel
theorem dX12_note_88 : decode cX12_note 88 = .ok (.if_icmp .ge 5, 3) := by decide +kernel
theorem dX12_note_91 : decode cX12_note 91 = .ok (.iconst (-1), 1) := by decide +kernel
theorem dX12_note_92 : decode cX12_note 92 = .ok (.ireturn, 1) := by decide +kernel
theorem dX12_note_93 : decode cX12_note 93 = .ok (.aload_n 0, 1) := by decide +kernel
theorem dX12_note_94 : decode cX12_note 94 = .ok (.iload_n 1, 1) := by decide +kernel
theorem dX12_note_95 : decode cX12_note 95 = .ok (.iload_n 2, 1) := by decide +kernel
theorem dX12_note_96 : decode cX12_note 96 = .ok (.iload_n 3, 1) := by decide +kernel
theorem dX12_note_97 : decode cX12_note 97 = .ok (.iload 4, 2) := by decide +kernel
theorem dX12_note_99 : decode cX12_note 99 = .ok (.iconst 0, 1) := by decide +kernel
theorem dX12_note_100 : decode cX12_note 100 = .ok (.invokevirtual 296, 3) := by decide +kernel
theorem dX12_note_103 : decode cX12_note 103 = .ok (.ireturn, 1) := by decide +kernel
theorem dX12_strike_0 : decode cX12_strike 0 = .ok (.aload_n 0, 1) := by decide +kernel
theorem dX12_strike_1 : decode cX12_strike 1 = .ok (.iconst 0, 1) := by decide +kernel
theorem dX12_strike_2 : decode cX12_strike 2 = .ok (.putfield 110, 3) := by decide +kernel
theorem dX12_strike_5 : decode cX12_strike 5 = .ok (.iload_n 1, 1) := by decide +kernel
theorem dX12_strike_6 : decode cX12_strike 6 = .ok (.ifCond .lt 20, 3) := by decide +kernel
theorem dX12_strike_9 : decode cX12_strike 9 = .ok (.iload_n 1, 1) := by decide +kernel
theorem dX12_strike_10 : decode cX12_strike 10 = .ok (.aload_n 0, 1) := by decide +kernel
theorem dX12_strike_11 : decode cX12_strike 11 = .ok (.getfield 284, 3) := by decide +kernel
theorem dX12_strike_14 : decode cX12_strike 14 = .ok (.if_icmp .ge 12, 3) := by decide +kernel
theorem dX12_strike_17 : decode cX12_strike 17 = .ok (.aload_n 0, 1) := by decide +kernel
theorem dX12_strike_18 : decode cX12_strike 18 = .ok (.getfield 284, 3) := by decide +kernel
theorem dX12_strike_21 : decode cX12_strike 21 = .ok (.bipush 80, 2) := by decide +kernel
theorem dX12_strike_23 : decode cX12_strike 23 = .ok (.if_icmp .ne 5, 3) := by decide +kernel
theorem dX12_strike_26 : decode cX12_strike 26 = .ok (.iconst (-1), 1) := by decide +kernel
theorem dX12_strike_27 : decode cX12_strike 27 = .ok (.ireturn, 1) := by decide +kernel
theorem dX12_strike_28 : decode cX12_strike 28 = .ok (.aload_n 0, 1) := by decide +kernel
theorem dX12_strike_29 : decode cX12_strike 29 = .ok (.iconst 4, 1) := by decide +kernel
theorem dX12_strike_30 : decode cX12_strike 30 = .ok (.iload_n 1, 1) := by decide +kernel
theorem dX12_strike_31 : decode cX12_strike 31 = .ok (.iconst 0, 1) := by decide +kernel
theorem dX12_strike_32 : decode cX12_strike 32 = .ok (.iconst 0, 1) := by decide +kernel
theorem dX12_strike_33 : decode cX12_strike 33 = .ok (.iconst 0, 1) := by decide +kernel
theorem dX12_strike_34 : decode cX12_strike 34 = .ok (.invokevirtual 296, 3) := by decide +kernel
theorem dX12_strike_37 : decode cX12_strike 37 = .ok (.ireturn, 1) := by decide +kernel
theorem dX12_knowsNotes_0 : decode cX12_knowsNotes 0 = .ok (.iconst 0, 1) := by decide +kernel
theorem dX12_knowsNotes_1 : decode cX12_knowsNotes 1 = .ok (.istore_n 2, 1) := by decide +kernel
theorem dX12_knowsNotes_2 : decode cX12_knowsNotes 2 = .ok (.iload_n 2, 1) := by decide +kernel
theorem dX12_knowsNotes_3 : decode cX12_knowsNotes 3 = .ok (.aload_n 0, 1) := by decide +kernel
theorem dX12_knowsNotes_4 : decode cX12_knowsNotes 4 = .ok (.getfield 284, 3) := by decide +kernel
theorem dX12_knowsNotes_7 : decode cX12_knowsNotes 7 = .ok (.if_icmp .ge 16, 3) := by decide +kernel
theorem dX12_knowsNotes_10 : decode cX12_knowsNotes 10 = .ok (.aload_n 0, 1) := by decide +kernel
theorem dX12_knowsNotes_11 : decode cX12_knowsNotes 11 = .ok (.getfield 82, 3) := by decide +kernel
theorem dX12_knowsNotes_14 : decode cX12_knowsNotes 14 = .ok (.iload_n 2, 1) := by decide +kernel
theorem dX12_knowsNotes_15 : decode cX12_knowsNotes 15 = .ok (.iconst 0, 1) := by decide +kernel
theorem dX12_knowsNotes_16 : decode cX12_knowsNotes 16 = .ok (.bastore, 1) := by decide +kernel
theorem dX12_knowsNotes_17 : decode cX12_knowsNotes 17 = .ok (.iinc 2 1, 3) := by decide +kernel
theorem dX12_knowsNotes_20 : decode cX12_knowsNotes 20 = .ok (.goto (-18), 3) := by decide +kernel
theorem dX12_knowsNotes_23 : decode cX12_knowsNotes 23 = .ok (.aload_n 0, 1) := by decide +kernel
theorem dX12_knowsNotes_24 : decode cX12_knowsNotes 24 = .ok (.getfield 284, 3) := by decide +kernel
theorem dX12_knowsNotes_27 : decode cX12_knowsNotes 27 = .ok (.iconst 1, 1) := by decide +kernel
theorem dX12_knowsNotes_28 : decode cX12_knowsNotes 28 = .ok (.isub, 1) := by decide +kernel
theorem dX12_knowsNotes_29 : decode cX12_knowsNotes 29 = .ok (.istore_n 2, 1) := by decide +kernel
theorem dX12_knowsNotes_30 : decode cX12_knowsNotes 30 = .ok (.iload_n 2, 1) := by decide +kernel
theorem dX12_knowsNotes_31 : decode cX12_knowsNotes 31 = .ok (.ifCond .lt 50, 3) := by decide +kernel
theorem dX12_knowsNotes_34 : decode cX12_knowsNotes 34 = .ok (.aload_n 0, 1) := by decide +kernel
theorem dX12_knowsNotes_35 : decode cX12_knowsNotes 35 = .ok (.getfield 67, 3) := by decide +kernel
theorem dX12_knowsNotes_38 : decode cX12_knowsNotes 38 = .ok (.iload_n 2, 1) := by decide +kernel
theorem dX12_knowsNotes_39 : decode cX12_knowsNotes 39 = .ok (.iaload, 1) := by decide +kernel
theorem dX12_knowsNotes_40 : decode cX12_knowsNotes 40 = .ok (.iload_n 1, 1) := by decide +kernel
theorem dX12_knowsNotes_41 : decode cX12_knowsNotes 41 = .ok (.if_icmp .gt 34, 3) := by decide +kernel
theorem dX12_knowsNotes_44 : decode cX12_knowsNotes 44 = .ok (.aload_n 0, 1) := by decide +kernel
theorem dX12_knowsNotes_45 : decode cX12_knowsNotes 45 = .ok (.getfield 82, 3) := by decide +kernel
theorem dX12_knowsNotes_48 : decode cX12_knowsNotes 48 = .ok (.iload_n 2, 1) := by decide +kernel
theorem dX12_knowsNotes_49 : decode cX12_knowsNotes 49 = .ok (.baload, 1) := by decide +kernel
theorem dX12_knowsNotes_50 : decode cX12_knowsNotes 50 = .ok (.ifCond .ne 25, 3) := by decide +kernel
theorem dX12_knowsNotes_53 : decode cX12_knowsNotes 53 = .ok (.aload_n 0, 1) := by decide +kernel
theorem dX12_knowsNotes_54 : decode cX12_knowsNotes 54 = .ok (.getfield 64, 3) := by decide +kernel
theorem dX12_knowsNotes_57 : decode cX12_knowsNotes 57 = .ok (.iload_n 2, 1) := by decide +kernel
theorem dX12_knowsNotes_58 : decode cX12_knowsNotes 58 = .ok (.iaload, 1) := by decide +kernel
theorem dX12_knowsNotes_59 : decode cX12_knowsNotes 59 = .ok (.iconst 4, 1) := by decide +kernel
theorem dX12_knowsNotes_60 : decode cX12_knowsNotes 60 = .ok (.if_icmp .ne 15, 3) := by decide +kernel
theorem dX12_knowsNotes_63 : decode cX12_knowsNotes 63 = .ok (.aload_n 0, 1) := by decide +kernel
theorem dX12_knowsNotes_64 : decode cX12_knowsNotes 64 = .ok (.getfield 82, 3) := by decide +kernel
theorem dX12_knowsNotes_67 : decode cX12_knowsNotes 67 = .ok (.aload_n 0, 1) := by decide +kernel
theorem dX12_knowsNotes_68 : decode cX12_knowsNotes 68 = .ok (.getfield 70, 3) := by decide +kernel
theorem dX12_knowsNotes_71 : decode cX12_knowsNotes 71 = .ok (.iload_n 2, 1) := by decide +kernel
theorem dX12_knowsNotes_72 : decode cX12_knowsNotes 72 = .ok (.iaload, 1) := by decide +kernel
theorem dX12_knowsNotes_73 : decode cX12_knowsNotes 73 = .ok (.iconst 1, 1) := by decide +kernel
theorem dX12_knowsNotes_74 : decode cX12_knowsNotes 74 = .ok (.bastore, 1) := by decide +kernel
theorem dX12_knowsNotes_75 : decode cX12_knowsNotes 75 = .ok (.iinc 2 (-1), 3) := by decide +kernel
theorem dX12_knowsNotes_78 : decode cX12_knowsNotes 78 = .ok (.goto (-48), 3) := by decide +kernel
theorem dX12_knowsNotes_81 : decode cX12_knowsNotes 81 = .ok (.iconst 0, 1) := by decide +kernel
theorem dX12_knowsNotes_82 : decode cX12_knowsNotes 82 = .ok (.istore_n 2, 1) := by decide +kernel
theorem dX12_knowsNotes_83 : decode cX12_knowsNotes 83 = .ok (.iload_n 2, 1) := by decide +kernel
theorem dX12_knowsNotes_84 : decode cX12_knowsNotes 84 = .ok (.aload_n 0, 1) := by decide +kernel
theorem dX12_knowsNotes_85 : decode cX12_knowsNotes 85 = .ok (.getfield 284, 3) := by decide +kernel
theorem dX12_knowsNotes_88 : decode cX12_knowsNotes 88 = .ok (.if_icmp .ge 39, 3) := by decide +kernel
theorem dX12_knowsNotes_91 : decode cX12_knowsNotes 91 = .ok (.aload_n 0, 1) := by decide +kernel
theorem dX12_knowsNotes_92 : decode cX12_knowsNotes 92 = .ok (.getfield 85, 3) := by decide +kernel
theorem dX12_knowsNotes_95 : decode cX12_knowsNotes 95 = .ok (.iload_n 2, 1) := by decide +kernel
theorem dX12_knowsNotes_96 : decode cX12_knowsNotes 96 = .ok (.aload_n 0, 1) := by decide +kernel
theorem dX12_knowsNotes_97 : decode cX12_knowsNotes 97 = .ok (.getfield 67, 3) := by decide +kernel
theorem dX12_knowsNotes_100 : decode cX12_knowsNotes 100 = .ok (.iload_n 2, 1) := by decide +kernel
theorem dX12_knowsNotes_101 : decode cX12_knowsNotes 101 = .ok (.iaload, 1) := by decide +kernel
theorem dX12_knowsNotes_102 : decode cX12_knowsNotes 102 = .ok (.iload_n 1, 1) := by decide +kernel
theorem dX12_knowsNotes_103 : decode cX12_knowsNotes 103 = .ok (.if_icmp .gt 16, 3) := by decide +kernel
theorem dX12_knowsNotes_106 : decode cX12_knowsNotes 106 = .ok (.aload_n 0, 1) := by decide +kernel
theorem dX12_knowsNotes_107 : decode cX12_knowsNotes 107 = .ok (.getfield 82, 3) := by decide +kernel
theorem dX12_knowsNotes_110 : decode cX12_knowsNotes 110 = .ok (.iload_n 2, 1) := by decide +kernel
theorem dX12_knowsNotes_111 : decode cX12_knowsNotes 111 = .ok (.baload, 1) := by decide +kernel
theorem dX12_knowsNotes_112 : decode cX12_knowsNotes 112 = .ok (.ifCond .ne 7, 3) := by decide +kernel
theorem dX12_knowsNotes_115 : decode cX12_knowsNotes 115 = .ok (.iconst 1, 1) := by decide +kernel
theorem dX12_knowsNotes_116 : decode cX12_knowsNotes 116 = .ok (.goto 4, 3) := by decide +kernel
theorem dX12_knowsNotes_119 : decode cX12_knowsNotes 119 = .ok (.iconst 0, 1) := by decide +kernel
theorem dX12_knowsNotes_120 : decode cX12_knowsNotes 120 = .ok (.bastore, 1) := by decide +kernel
theorem dX12_knowsNotes_121 : decode cX12_knowsNotes 121 = .ok (.iinc 2 1, 3) := by decide +kernel
theorem dX12_knowsNotes_124 : decode cX12_knowsNotes 124 = .ok (.goto (-41), 3) := by decide +kernel
theorem dX12_knowsNotes_127 : decode cX12_knowsNotes 127 = .ok (.return_, 1) := by decide +kernel
theorem dX12_spans_0 : decode cX12_spans 0 = .ok (.iconst 0, 1) := by decide +kernel
theorem dX12_spans_1 : decode cX12_spans 1 = .ok (.istore_n 3, 1) := by decide +kernel
theorem dX12_spans_2 : decode cX12_spans 2 = .ok (.aload_n 0, 1) := by decide +kernel
theorem dX12_spans_3 : decode cX12_spans 3 = .ok (.iconst 0, 1) := by decide +kernel
theorem dX12_spans_4 : decode cX12_spans 4 = .ok (.putfield 306, 3) := by decide +kernel
theorem dX12_spans_7 : decode cX12_spans 7 = .ok (.aload_n 0, 1) := by decide +kernel
theorem dX12_spans_8 : decode cX12_spans 8 = .ok (.sipush 999, 3) := by decide +kernel
theorem dX12_spans_11 : decode cX12_spans 11 = .ok (.putfield 309, 3) := by decide +kernel
theorem dX12_spans_14 : decode cX12_spans 14 = .ok (.iconst 0, 1) := by decide +kernel
theorem dX12_spans_15 : decode cX12_spans 15 = .ok (.istore 4, 2) := by decide +kernel
theorem dX12_spans_17 : decode cX12_spans 17 = .ok (.iload 4, 2) := by decide +kernel
theorem dX12_spans_19 : decode cX12_spans 19 = .ok (.aload_n 0, 1) := by decide +kernel
theorem dX12_spans_20 : decode cX12_spans 20 = .ok (.getfield 284, 3) := by decide +kernel
theorem dX12_spans_23 : decode cX12_spans 23 = .ok (.if_icmp .ge 162, 3) := by decide +kernel
theorem dX12_spans_26 : decode cX12_spans 26 = .ok (.aload_n 0, 1) := by decide +kernel
theorem dX12_spans_27 : decode cX12_spans 27 = .ok (.getfield 85, 3) := by decide +kernel
theorem dX12_spans_30 : decode cX12_spans 30 = .ok (.iload 4, 2) := by decide +kernel
theorem dX12_spans_32 : decode cX12_spans 32 = .ok (.baload, 1) := by decide +kernel
theorem dX12_spans_33 : decode cX12_spans 33 = .ok (.ifCond .eq 146, 3) := by decide +kernel
theorem dX12_spans_36 : decode cX12_spans 36 = .ok (.aload_n 0, 1) := by decide +kernel
theorem dX12_spans_37 : decode cX12_spans 37 = .ok (.getfield 64, 3) := by decide +kernel
theorem dX12_spans_40 : decode cX12_spans 40 = .ok (.iload 4, 2) := by decide +kernel
theorem dX12_spans_42 : decode cX12_spans 42 = .ok (.iaload, 1) := by decide +kernel
theorem dX12_spans_43 : decode cX12_spans 43 = .ok (.iconst 3, 1) := by decide +kernel
theorem dX12_spans_44 : decode cX12_spans 44 = .ok (.if_icmp .ne 135, 3) := by decide +kernel
theorem dX12_spans_47 : decode cX12_spans 47 = .ok (.aload_n 0, 1) := by decide +kernel
theorem dX12_spans_48 : decode cX12_spans 48 = .ok (.getfield 73, 3) := by decide +kernel
theorem dX12_spans_51 : decode cX12_spans 51 = .ok (.iload 4, 2) := by decide +kernel
theorem dX12_spans_53 : decode cX12_spans 53 = .ok (.iaload, 1) := by decide +kernel
theorem dX12_spans_54 : decode cX12_spans 54 = .ok (.iload_n 1, 1) := by decide +kernel
theorem dX12_spans_55 : decode cX12_spans 55 = .ok (.if_icmp .eq 6, 3) := by decide +kernel
theorem dX12_spans_58 : decode cX12_spans 58 = .ok (.goto 121, 3) := by decide +kernel
theorem dX12_spans_61 : decode cX12_spans 61 = .ok (.iload_n 2, 1) := by decide +kernel
theorem dX12_spans_62 : decode cX12_spans 62 = .ok (.ifCond .ne 13, 3) := by decide +kernel
theorem dX12_spans_65 : decode cX12_spans 65 = .ok (.aload_n 0, 1) := by decide +kernel
theorem dX12_spans_66 : decode cX12_spans 66 = .ok (.getfield 76, 3) := by decide +kernel
theorem dX12_spans_69 : decode cX12_spans 69 = .ok (.iload 4, 2) := by decide +kernel
theorem dX12_spans_71 : decode cX12_spans 71 = .ok (.iaload, 1) := by decide +kernel
theorem dX12_spans_72 : decode cX12_spans 72 = .ok (.goto 10, 3) := by decide +kernel
theorem dX12_spans_75 : decode cX12_spans 75 = .ok (.aload_n 0, 1) := by decide +kernel
theorem dX12_spans_76 : decode cX12_spans 76 = .ok (.getfield 79, 3) := by decide +kernel
theorem dX12_spans_79 : decode cX12_spans 79 = .ok (.iload 4, 2) := by decide +kernel
theorem dX12_spans_81 : decode cX12_spans 81 = .ok (.iaload, 1) := by decide +kernel
theorem dX12_spans_82 : decode cX12_spans 82 = .ok (.istore 5, 2) := by decide +kernel
theorem dX12_spans_84 : decode cX12_spans 84 = .ok (.iload 5, 2) := by decide +kernel
theorem dX12_spans_86 : decode cX12_spans 86 = .ok (.bipush 100, 2) := by decide +kernel
theorem dX12_spans_88 : decode cX12_spans 88 = .ok (.aload_n 0, 1) := by decide +kernel
theorem dX12_spans_89 : decode cX12_spans 89 = .ok (.getfield 46, 3) := by decide +kernel
theorem dX12_spans_92 : decode cX12_spans 92 = .ok (.aload_n 0, 1) := by decide +kernel
theorem dX12_spans_93 : decode cX12_spans 93 = .ok (.getfield 70, 3) := by decide +kernel
theorem dX12_spans_96 : decode cX12_spans 96 = .ok (.iload 4, 2) := by decide +kernel
theorem dX12_spans_98 : decode cX12_spans 98 = .ok (.iaload, 1) := by decide +kernel
theorem dX12_spans_99 : decode cX12_spans 99 = .ok (.iaload, 1) := by decide +kernel
theorem dX12_spans_100 : decode cX12_spans 100 = .ok (.isub, 1) := by decide +kernel
theorem dX12_spans_101 : decode cX12_spans 101 = .ok (.imul, 1) := by decide +kernel
theorem dX12_spans_102 : decode cX12_spans 102 = .ok (.bipush 100, 2) := by decide +kernel
theorem dX12_spans_104 : decode cX12_spans 104 = .ok (.idiv, 1) := by decide +kernel
theorem dX12_spans_105 : decode cX12_spans 105 = .ok (.istore 6, 2) := by decide +kernel
theorem dX12_spans_107 : decode cX12_spans 107 = .ok (.iload 5, 2) := by decide +kernel
theorem dX12_spans_109 : decode cX12_spans 109 = .ok (.bipush 100, 2) := by decide +kernel
theorem dX12_spans_111 : decode cX12_spans 111 = .ok (.aload_n 0, 1) := by decide +kernel
theorem dX12_spans_112 : decode cX12_spans 112 = .ok (.getfield 46, 3) := by decide +kernel
theorem dX12_spans_115 : decode cX12_spans 115 = .ok (.aload_n 0, 1) := by decide +kernel
theorem dX12_spans_116 : decode cX12_spans 116 = .ok (.getfield 70, 3) := by decide +kernel
theorem dX12_spans_119 : decode cX12_spans 119 = .ok (.iload 4, 2) := by decide +kernel
theorem dX12_spans_121 : decode cX12_spans 121 = .ok (.iaload, 1) := by decide +kernel
theorem dX12_spans_122 : decode cX12_spans 122 = .ok (.iaload, 1) := by decide +kernel
theorem dX12_spans_123 : decode cX12_spans 123 = .ok (.iadd, 1) := by decide +kernel
theorem dX12_spans_124 : decode cX12_spans 124 = .ok (.imul, 1) := by decide +kernel
theorem dX12_spans_125 : decode cX12_spans 125 = .ok (.bipush 99, 2) := by decide +kernel
theorem dX12_spans_127 : decode cX12_spans 127 = .ok (.iadd, 1) := by decide +kernel
theorem dX12_spans_128 : decode cX12_spans 128 = .ok (.bipush 100, 2) := by decide +kernel
theorem dX12_spans_130 : decode cX12_spans 130 = .ok (.idiv, 1) := by decide +kernel
theorem dX12_spans_131 : decode cX12_spans 131 = .ok (.istore 7, 2) := by decide +kernel
theorem dX12_spans_133 : decode cX12_spans 133 = .ok (.aload_n 0, 1) := by decide +kernel
theorem dX12_spans_134 : decode cX12_spans 134 = .ok (.iload_n 3, 1) := by decide +kernel
theorem dX12_spans_135 : decode cX12_spans 135 = .ok (.ifCond .eq 15, 3) := by decide +kernel
theorem dX12_spans_138 : decode cX12_spans 138 = .ok (.aload_n 0, 1) := by decide +kernel
theorem dX12_spans_139 : decode cX12_spans 139 = .ok (.getfield 306, 3) := by decide +kernel
theorem dX12_spans_142 : decode cX12_spans 142 = .ok (.iload 6, 2) := by decide +kernel
theorem dX12_spans_144 : decode cX12_spans 144 = .ok (.invokestatic 312, 3) := by decide +kernel
theorem dX12_spans_147 : decode cX12_spans 147 = .ok (.goto 5, 3) := by decide +kernel
theorem dX12_spans_150 : decode cX12_spans 150 = .ok (.iload 6, 2) := by decide +kernel
theorem dX12_spans_152 : decode cX12_spans 152 = .ok (.putfield 306, 3) := by decide +kernel
theorem dX12_spans_155 : decode cX12_spans 155 = .ok (.aload_n 0, 1) := by decide +kernel
theorem dX12_spans_156 : decode cX12_spans 156 = .ok (.iload_n 3, 1) := by decide +kernel
theorem dX12_spans_157 : decode cX12_spans 157 = .ok (.ifCond .eq 15, 3) := by decide +kernel
theorem dX12_spans_160 : decode cX12_spans 160 = .ok (.aload_n 0, 1) := by decide +kernel
theorem dX12_spans_161 : decode cX12_spans 161 = .ok (.getfield 309, 3) := by decide +kernel
theorem dX12_spans_164 : decode cX12_spans 164 = .ok (.iload 7, 2) := by decide +kernel
theorem dX12_spans_166 : decode cX12_spans 166 = .ok (.invokestatic 316, 3) := by decide +kernel
theorem dX12_spans_169 : decode cX12_spans 169 = .ok (.goto 5, 3) := by decide +kernel
theorem dX12_spans_172 : decode cX12_spans 172 = .ok (.iload 7, 2) := by decide +kernel
theorem dX12_spans_174 : decode cX12_spans 174 = .ok (.putfield 309, 3) := by decide +kernel
theorem dX12_spans_177 : decode cX12_spans 177 = .ok (.iconst 1, 1) := by decide +kernel
theorem dX12_spans_178 : decode cX12_spans 178 = .ok (.istore_n 3, 1) := by decide +kernel
theorem dX12_spans_179 : decode cX12_spans 179 = .ok (.iinc 4 1, 3) := by decide +kernel
theorem dX12_spans_182 : decode cX12_spans 182 = .ok (.goto (-165), 3) := by decide +kernel
theorem dX12_spans_185 : decode cX12_spans 185 = .ok (.aload_n 0, 1) := by decide +kernel
theorem dX12_spans_186 : decode cX12_spans 186 = .ok (.getfield 306, 3) := by decide +kernel
theorem dX12_spans_189 : decode cX12_spans 189 = .ok (.aload_n 0, 1) := by decide +kernel
theorem dX12_spans_190 : decode cX12_spans 190 = .ok (.getfield 309, 3) := by decide +kernel
theorem dX12_spans_193 : decode cX12_spans 193 = .ok (.if_icmp .gt 7, 3) := by decide +kernel
theorem dX12_spans_196 : decode cX12_spans 196 = .ok (.iconst 1, 1) := by decide +kernel
theorem dX12_spans_197 : decode cX12_spans 197 = .ok (.goto 4, 3) := by decide +kernel
theorem dX12_spans_200 : decode cX12_spans 200 = .ok (.iconst 0, 1) := by decide +kernel
theorem dX12_spans_201 : decode cX12_spans 201 = .ok (.ireturn, 1) := by decide +kernel
theorem dX12_reckons_0 : decode cX12_reckons 0 = .ok (.aload_n 0, 1) := by decide +kernel
theorem dX12_reckons_1 : decode cX12_reckons 1 = .ok (.iload_n 1, 1) := by decide +kernel
theorem dX12_reckons_2 : decode cX12_reckons 2 = .ok (.invokevirtual 319, 3) := by decide +kernel
theorem dX12_reckons_5 : decode cX12_reckons 5 = .ok (.iconst 0, 1) := by decide +kernel
theorem dX12_reckons_6 : decode cX12_reckons 6 = .ok (.istore_n 2, 1) := by decide +kernel
theorem dX12_reckons_7 : decode cX12_reckons 7 = .ok (.iload_n 2, 1) := by decide +kernel
theorem dX12_reckons_8 : decode cX12_reckons 8 = .ok (.aload_n 0, 1) := by decide +kernel
theorem dX12_reckons_9 : decode cX12_reckons 9 = .ok (.invokevirtual 287, 3) := by decide +kernel
theorem dX12_reckons_12 : decode cX12_reckons 12 = .ok (.if_icmp .ge 56, 3) := by decide +kernel
theorem dX12_reckons_15 : decode cX12_reckons 15 = .ok (.iconst 0, 1) := by decide +kernel
theorem dX12_reckons_16 : decode cX12_reckons 16 = .ok (.istore_n 3, 1) := by decide +kernel
theorem dX12_reckons_17 : decode cX12_reckons 17 = .ok (.iload_n 3, 1) := by decide +kernel
theorem dX12_reckons_18 : decode cX12_reckons 18 = .ok (.iconst 2, 1) := by decide +kernel
theorem dX12_reckons_19 : decode cX12_reckons 19 = .ok (.if_icmp .ge 43, 3) := by decide +kernel
theorem dX12_reckons_22 : decode cX12_reckons 22 = .ok (.aload_n 0, 1) := by decide +kernel
theorem dX12_reckons_23 : decode cX12_reckons 23 = .ok (.getfield 88, 3) := by decide +kernel
theorem dX12_reckons_26 : decode cX12_reckons 26 = .ok (.iconst 2, 1) := by decide +kernel
theorem dX12_reckons_27 : decode cX12_reckons 27 = .ok (.iload_n 2, 1) := by decide +kernel
theorem dX12_reckons_28 : decode cX12_reckons 28 = .ok (.imul, 1) := by decide +kernel
theorem dX12_reckons_29 : decode cX12_reckons 29 = .ok (.iload_n 3, 1) := by decide +kernel
theorem dX12_reckons_30 : decode cX12_reckons 30 = .ok (.iadd, 1) := by decide +kernel
theorem dX12_reckons_31 : decode cX12_reckons 31 = .ok (.aload_n 0, 1) := by decide +kernel
theorem dX12_reckons_32 : decode cX12_reckons 32 = .ok (.iload_n 2, 1) := by decide +kernel
theorem dX12_reckons_33 : decode cX12_reckons 33 = .ok (.iload_n 3, 1) := by decide +kernel
theorem dX12_reckons_34 : decode cX12_reckons 34 = .ok (.invokevirtual 322, 3) := by decide +kernel
theorem dX12_reckons_37 : decode cX12_reckons 37 = .ok (.ifCond .eq 17, 3) := by decide +kernel
theorem dX12_reckons_40 : decode cX12_reckons 40 = .ok (.aload_n 0, 1) := by decide +kernel
theorem dX12_reckons_41 : decode cX12_reckons 41 = .ok (.getfield 306, 3) := by decide +kernel
theorem dX12_reckons_44 : decode cX12_reckons 44 = .ok (.aload_n 0, 1) := by decide +kernel
theorem dX12_reckons_45 : decode cX12_reckons 45 = .ok (.getfield 309, 3) := by decide +kernel
theorem dX12_reckons_48 : decode cX12_reckons 48 = .ok (.iadd, 1) := by decide +kernel
theorem dX12_reckons_49 : decode cX12_reckons 49 = .ok (.iconst 2, 1) := by decide +kernel
theorem dX12_reckons_50 : decode cX12_reckons 50 = .ok (.idiv, 1) := by decide +kernel
theorem dX12_reckons_51 : decode cX12_reckons 51 = .ok (.goto 4, 3) := by decide +kernel
theorem dX12_reckons_54 : decode cX12_reckons 54 = .ok (.iconst 0, 1) := by decide +kernel
theorem dX12_reckons_55 : decode cX12_reckons 55 = .ok (.iastore, 1) := by decide +kernel
theorem dX12_reckons_56 : decode cX12_reckons 56 = .ok (.iinc 3 1, 3) := by decide +kernel
theorem dX12_reckons_59 : decode cX12_reckons 59 = .ok (.goto (-42), 3) := by decide +kernel
theorem dX12_reckons_62 : decode cX12_reckons 62 = .ok (.iinc 2 1, 3) := by decide +kernel
theorem dX12_reckons_65 : decode cX12_reckons 65 = .ok (.goto (-58), 3) := by decide +kernel
theorem dX12_reckons_68 : decode cX12_reckons 68 = .ok (.return_, 1) := by decide +kernel
theorem dX12_span_0 : decode cX12_span 0 = .ok (.aload_n 0, 1) := by decide +kernel
theorem dX12_span_1 : decode cX12_span 1 = .ok (.iconst 0, 1) := by decide +kernel
theorem dX12_span_2 : decode cX12_span 2 = .ok (.putfield 110, 3) := by decide +kernel
theorem dX12_span_5 : decode cX12_span 5 = .ok (.aload_n 0, 1) := by decide +kernel
theorem dX12_span_6 : decode cX12_span 6 = .ok (.iload_n 1, 1) := by decide +kernel
theorem dX12_span_7 : decode cX12_span 7 = .ok (.invokevirtual 293, 3) := by decide +kernel
theorem dX12_span_10 : decode cX12_span 10 = .ok (.ifCond .eq 30, 3) := by decide +kernel
theorem dX12_span_13 : decode cX12_span 13 = .ok (.iload_n 2, 1) := by decide +kernel
theorem dX12_span_14 : decode cX12_span 14 = .ok (.ifCond .lt 26, 3) := by decide +kernel
theorem dX12_span_17 : decode cX12_span 17 = .ok (.iload_n 2, 1) := by decide +kernel
theorem dX12_span_18 : decode cX12_span 18 = .ok (.iconst 1, 1) := by decide +kernel
theorem dX12_span_19 : decode cX12_span 19 = .ok (.if_icmp .gt 21, 3) := by decide +kernel
theorem dX12_span_22 : decode cX12_span 22 = .ok (.iload_n 3, 1) := by decide +kernel
theorem dX12_span_23 : decode cX12_span 23 = .ok (.invokestatic 325, 3) := by decide +kernel
theorem dX12_span_26 : decode cX12_span 26 = .ok (.ifCond .eq 14, 3) := by decide +kernel
theorem dX12_span_29 : decode cX12_span 29 = .ok (.iload 4, 2) := by decide +kernel
theorem dX12_span_31 : decode cX12_span 31 = .ok (.ifCond .lt 9, 3) := by decide +kernel
theorem dX12_span_34 : decode cX12_span 34 = .ok (.iload 4, 2) := by decide +kernel
theorem dX12_span_36 : decode cX12_span 36 = .ok (.iconst 2, 1) := by decide +kernel
theorem dX12_span_37 : decode cX12_span 37 = .ok (.if_icmp .le 5, 3) := by decide +kernel
theorem dX12_span_40 : decode cX12_span 40 = .ok (.iconst (-1), 1) := by decide +kernel
theorem dX12_span_41 : decode cX12_span 41 = .ok (.ireturn, 1) := by decide +kernel
theorem dX12_span_42 : decode cX12_span 42 = .ok (.aload_n 0, 1) := by decide +kernel
theorem dX12_span_43 : decode cX12_span 43 = .ok (.iload_n 3, 1) := by decide +kernel
theorem dX12_span_44 : decode cX12_span 44 = .ok (.invokevirtual 319, 3) := by decide +kernel
theorem dX12_span_47 : decode cX12_span 47 = .ok (.aload_n 0, 1) := by decide +kernel
theorem dX12_span_48 : decode cX12_span 48 = .ok (.iload_n 1, 1) := by decide +kernel
theorem dX12_span_49 : decode cX12_span 49 = .ok (.iload_n 2, 1) := by decide +kernel
theorem dX12_span_50 : decode cX12_span 50 = .ok (.invokevirtual 322, 3) := by decide +kernel
theorem dX12_span_53 : decode cX12_span 53 = .ok (.istore 5, 2) := by decide +kernel
theorem dX12_span_55 : decode cX12_span 55 = .ok (.iload 4, 2) := by decide +kernel
theorem dX12_span_57 : decode cX12_span 57 = .ok (.iconst 2, 1) := by decide +kernel
theorem dX12_span_58 : decode cX12_span 58 = .ok (.if_icmp .ne 24, 3) := by decide +kernel
theorem dX12_span_61 : decode cX12_span 61 = .ok (.iload 5, 2) := by decide +kernel
theorem dX12_span_63 : decode cX12_span 63 = .ok (.ifCond .eq 17, 3) := by decide +kernel
theorem dX12_span_66 : decode cX12_span 66 = .ok (.aload_n 0, 1) := by decide +kernel
theorem dX12_span_67 : decode cX12_span 67 = .ok (.getfield 306, 3) := by decide +kernel
theorem dX12_span_70 : decode cX12_span 70 = .ok (.aload_n 0, 1) := by decide +kernel
theorem dX12_span_71 : decode cX12_span 71 = .ok (.getfield 309, 3) := by decide +kernel
theorem dX12_span_74 : decode cX12_span 74 = .ok (.iadd, 1) := by decide +kernel
theorem dX12_span_75 : decode cX12_span 75 = .ok (.iconst 2, 1) := by decide +kernel
theorem dX12_span_76 : decode cX12_span 76 = .ok (.idiv, 1) := by decide +kernel
theorem dX12_span_77 : decode cX12_span 77 = .ok (.goto 4, 3) := by decide +kernel
theorem dX12_span_80 : decode cX12_span 80 = .ok (.iconst 0, 1) := by decide +kernel
theorem dX12_span_81 : decode cX12_span 81 = .ok (.ireturn, 1) := by decide +kernel
theorem dX12_span_82 : decode cX12_span 82 = .ok (.iload 5, 2) := by decide +kernel
theorem dX12_span_84 : decode cX12_span 84 = .ok (.ifCond .ne 8, 3) := by decide +kernel
theorem dX12_span_87 : decode cX12_span 87 = .ok (.bipush (-2), 2) := by decide +kernel
theorem dX12_span_89 : decode cX12_span 89 = .ok (.goto 19, 3) := by decide +kernel
theorem dX12_span_92 : decode cX12_span 92 = .ok (.iload 4, 2) := by decide +kernel
theorem dX12_span_94 : decode cX12_span 94 = .ok (.ifCond .ne 10, 3) := by decide +kernel
theorem dX12_span_97 : decode cX12_span 97 = .ok (.aload_n 0, 1) := by decide +kernel
theorem dX12_span_98 : decode cX12_span 98 = .ok (.getfield 306, 3) := by decide +kernel
theorem dX12_span_101 : decode cX12_span 101 = .ok (.goto 7, 3) := by decide +kernel
theorem dX12_span_104 : decode cX12_span 104 = .ok (.aload_n 0, 1) := by decide +kernel
theorem dX12_span_105 : decode cX12_span 105 = .ok (.getfield 309, 3) := by decide +kernel
theorem dX12_span_108 : decode cX12_span 108 = .ok (.ireturn, 1) := by decide +kernel
theorem dX12_canal_0 : decode cX12_canal 0 = .ok (.aload_n 0, 1) := by decide +kernel
theorem dX12_canal_1 : decode cX12_canal 1 = .ok (.iconst 0, 1) := by decide +kernel
theorem dX12_canal_2 : decode cX12_canal 2 = .ok (.putfield 110, 3) := by decide +kernel
theorem dX12_canal_5 : decode cX12_canal 5 = .ok (.aload_n 0, 1) := by decide +kernel
theorem dX12_canal_6 : decode cX12_canal 6 = .ok (.iload_n 1, 1) := by decide +kernel
theorem dX12_canal_7 : decode cX12_canal 7 = .ok (.invokevirtual 293, 3) := by decide +kernel
theorem dX12_canal_10 : decode cX12_canal 10 = .ok (.ifCond .eq 12, 3) := by decide +kernel
theorem dX12_canal_13 : decode cX12_canal 13 = .ok (.aload_n 0, 1) := by decide +kernel
theorem dX12_canal_14 : decode cX12_canal 14 = .ok (.getfield 275, 3) := by decide +kernel
theorem dX12_canal_17 : decode cX12_canal 17 = .ok (.bipush 6, 2) := by decide +kernel
theorem dX12_canal_19 : decode cX12_canal 19 = .ok (.if_icmp .ne 5, 3) := by decide +kernel
theorem dX12_canal_22 : decode cX12_canal 22 = .ok (.iconst (-1), 1) := by decide +kernel
theorem dX12_canal_23 : decode cX12_canal 23 = .ok (.ireturn, 1) := by decide +kernel
theorem dX12_canal_24 : decode cX12_canal 24 = .ok (.aload_n 0, 1) := by decide +kernel
theorem dX12_canal_25 : decode cX12_canal 25 = .ok (.getfield 49, 3) := by decide +kernel
theorem dX12_canal_28 : decode cX12_canal 28 = .ok (.bipush 6, 2) := by decide +kernel
theorem dX12_canal_30 : decode cX12_canal 30 = .ok (.aload_n 0, 1) := by decide +kernel
theorem dX12_canal_31 : decode cX12_canal 31 = .ok (.getfield 275, 3) := by decide +kernel
theorem dX12_canal_34 : decode cX12_canal 34 = .ok (.imul, 1) := by decide +kernel
theorem dX12_canal_35 : decode cX12_canal 35 = .ok (.iload_n 1, 1) := by decide +kernel
theorem dX12_canal_36 : decode cX12_canal 36 = .ok (.iastore, 1) := by decide +kernel
theorem dX12_canal_37 : decode cX12_canal 37 = .ok (.aload_n 0, 1) := by decide +kernel
theorem dX12_canal_38 : decode cX12_canal 38 = .ok (.getfield 52, 3) := by decide +kernel
theorem dX12_canal_41 : decode cX12_canal 41 = .ok (.aload_n 0, 1) := by decide +kernel
theorem dX12_canal_42 : decode cX12_canal 42 = .ok (.getfield 275, 3) := by decide +kernel
theorem dX12_canal_45 : decode cX12_canal 45 = .ok (.iconst 0, 1) := by decide +kernel
theorem dX12_canal_46 : decode cX12_canal 46 = .ok (.iastore, 1) := by decide +kernel
theorem dX12_canal_47 : decode cX12_canal 47 = .ok (.aload_n 0, 1) := by decide +kernel
theorem dX12_canal_48 : decode cX12_canal 48 = .ok (.dup, 1) := by decide +kernel
theorem dX12_canal_49 : decode cX12_canal 49 = .ok (.getfield 275, 3) := by decide +kernel
theorem dX12_canal_52 : decode cX12_canal 52 = .ok (.iconst 1, 1) := by decide +kernel
theorem dX12_canal_53 : decode cX12_canal 53 = .ok (.iadd, 1) := by decide +kernel
theorem dX12_canal_54 : decode cX12_canal 54 = .ok (.putfield 275, 3) := by decide +kernel
theorem dX12_canal_57 : decode cX12_canal 57 = .ok (.aload_n 0, 1) := by decide +kernel
theorem dX12_canal_58 : decode cX12_canal 58 = .ok (.getfield 275, 3) := by decide +kernel
theorem dX12_canal_61 : decode cX12_canal 61 = .ok (.iconst 1, 1) := by decide +kernel
theorem dX12_canal_62 : decode cX12_canal 62 = .ok (.isub, 1) := by decide +kernel
theorem dX12_canal_63 : decode cX12_canal 63 = .ok (.ireturn, 1) := by decide +kernel
theorem dX12_drinks_0 : decode cX12_drinks 0 = .ok (.aload_n 0, 1) := by decide +kernel
theorem dX12_drinks_1 : decode cX12_drinks 1 = .ok (.iconst 0, 1) := by decide +kernel
theorem dX12_drinks_2 : decode cX12_drinks 2 = .ok (.putfield 110, 3) := by decide +kernel
theorem dX12_drinks_5 : decode cX12_drinks 5 = .ok (.iload_n 1, 1) := by decide +kernel
theorem dX12_drinks_6 : decode cX12_drinks 6 = .ok (.ifCond .lt 29, 3) := by decide +kernel
theorem dX12_drinks_9 : decode cX12_drinks 9 = .ok (.iload_n 1, 1) := by decide +kernel
theorem dX12_drinks_10 : decode cX12_drinks 10 = .ok (.aload_n 0, 1) := by decide +kernel
theorem dX12_drinks_11 : decode cX12_drinks 11 = .ok (.getfield 275, 3) := by decide +kernel
theorem dX12_drinks_14 : decode cX12_drinks 14 = .ok (.if_icmp .ge 21, 3) := by decide +kernel
theorem dX12_drinks_17 : decode cX12_drinks 17 = .ok (.aload_n 0, 1) := by decide +kernel
theorem dX12_drinks_18 : decode cX12_drinks 18 = .ok (.iload_n 2, 1) := by decide +kernel
theorem dX12_drinks_19 : decode cX12_drinks 19 = .ok (.invokevirtual 293, 3) := by decide +kernel
theorem dX12_drinks_22 : decode cX12_drinks 22 = .ok (.ifCond .eq 13, 3) := by decide +kernel
theorem dX12_drinks_25 : decode cX12_drinks 25 = .ok (.aload_n 0, 1) := by decide +kernel
theorem dX12_drinks_26 : decode cX12_drinks 26 = .ok (.getfield 52, 3) := by decide +kernel
theorem dX12_drinks_29 : decode cX12_drinks 29 = .ok (.iload_n 1, 1) := by decide +kernel
theorem dX12_drinks_30 : decode cX12_drinks 30 = .ok (.iaload, 1) := by decide +kernel
theorem dX12_drinks_31 : decode cX12_drinks 31 = .ok (.iconst 5, 1) := by decide +kernel
theorem dX12_drinks_32 : decode cX12_drinks 32 = .ok (.if_icmp .ne 5, 3) := by decide +kernel
theorem dX12_drinks_35 : decode cX12_drinks 35 = .ok (.iconst (-1), 1) := by decide +kernel
theorem dX12_drinks_36 : decode cX12_drinks 36 = .ok (.ireturn, 1) := by decide +kernel
theorem dX12_drinks_37 : decode cX12_drinks 37 = .ok (.iconst 0, 1) := by decide +kernel
theorem dX12_drinks_38 : decode cX12_drinks 38 = .ok (.istore_n 3, 1) := by decide +kernel
theorem dX12_drinks_39 : decode cX12_drinks 39 = .ok (.iload_n 3, 1) := by decide +kernel
theorem dX12_drinks_40 : decode cX12_drinks 40 = .ok (.aload_n 0, 1) := by decide +kernel
theorem dX12_drinks_41 : decode cX12_drinks 41 = .ok (.getfield 52, 3) := by decide +kernel
theorem dX12_drinks_44 : decode cX12_drinks 44 = .ok (.iload_n 1, 1) := by decide +kernel
theorem dX12_drinks_45 : decode cX12_drinks 45 = .ok (.iaload, 1) := by decide +kernel
theorem dX12_drinks_46 : decode cX12_drinks 46 = .ok (.if_icmp .gt 26, 3) := by decide +kernel
theorem dX12_drinks_49 : decode cX12_drinks 49 = .ok (.aload_n 0, 1) := by decide +kernel
theorem dX12_drinks_50 : decode cX12_drinks 50 = .ok (.getfield 49, 3) := by decide +kernel
theorem dX12_drinks_53 : decode cX12_drinks 53 = .ok (.bipush 6, 2) := by decide +kernel
theorem dX12_drinks_55 : decode cX12_drinks 55 = .ok (.iload_n 1, 1) := by decide +kernel
theorem dX12_drinks_56 : decode cX12_drinks 56 = .ok (.imul, 1) := by decide +kernel
theorem dX12_drinks_57 : decode cX12_drinks 57 = .ok (.iload_n 3, 1) := by decide +kernel
theorem dX12_drinks_58 : decode cX12_drinks 58 = .ok (.iadd, 1) := by decide +kernel
theorem dX12_drinks_59 : decode cX12_drinks 59 = .ok (.iaload, 1) := by decide +kernel
theorem dX12_drinks_60 : decode cX12_drinks 60 = .ok (.iload_n 2, 1) := by decide +kernel
theorem dX12_drinks_61 : decode cX12_drinks 61 = .ok (.if_icmp .ne 5, 3) := by decide +kernel
theorem dX12_drinks_64 : decode cX12_drinks 64 = .ok (.iconst (-1), 1) := by decide +kernel
theorem dX12_drinks_65 : decode cX12_drinks 65 = .ok (.ireturn, 1) := by decide +kernel
theorem dX12_drinks_66 : decode cX12_drinks 66 = .ok (.iinc 3 1, 3) := by decide +kernel
theorem dX12_drinks_69 : decode cX12_drinks 69 = .ok (.goto (-30), 3) := by decide +kernel
theorem dX12_drinks_72 : decode cX12_drinks 72 = .ok (.aload_n 0, 1) := by decide +kernel
theorem dX12_drinks_73 : decode cX12_drinks 73 = .ok (.getfield 52, 3) := by decide +kernel
theorem dX12_drinks_76 : decode cX12_drinks 76 = .ok (.iload_n 1, 1) := by decide +kernel
theorem dX12_drinks_77 : decode cX12_drinks 77 = .ok (.dup2, 1) := by decide +kernel
theorem dX12_drinks_78 : decode cX12_drinks 78 = .ok (.iaload, 1) := by decide +kernel
theorem dX12_drinks_79 : decode cX12_drinks 79 = .ok (.iconst 1, 1) := by decide +kernel
theorem dX12_drinks_80 : decode cX12_drinks 80 = .ok (.iadd, 1) := by decide +kernel
theorem dX12_drinks_81 : decode cX12_drinks 81 = .ok (.iastore, 1) := by decide +kernel
theorem dX12_drinks_82 : decode cX12_drinks 82 = .ok (.aload_n 0, 1) := by decide +kernel
theorem dX12_drinks_83 : decode cX12_drinks 83 = .ok (.getfield 49, 3) := by decide +kernel
theorem dX12_drinks_86 : decode cX12_drinks 86 = .ok (.bipush 6, 2) := by decide +kernel
theorem dX12_drinks_88 : decode cX12_drinks 88 = .ok (.iload_n 1, 1) := by decide +kernel
theorem dX12_drinks_89 : decode cX12_drinks 89 = .ok (.imul, 1) := by decide +kernel
theorem dX12_drinks_90 : decode cX12_drinks 90 = .ok (.aload_n 0, 1) := by decide +kernel
theorem dX12_drinks_91 : decode cX12_drinks 91 = .ok (.getfield 52, 3) := by decide +kernel
theorem dX12_drinks_94 : decode cX12_drinks 94 = .ok (.iload_n 1, 1) := by decide +kernel
theorem dX12_drinks_95 : decode cX12_drinks 95 = .ok (.iaload, 1) := by decide +kernel
theorem dX12_drinks_96 : decode cX12_drinks 96 = .ok (.iadd, 1) := by decide +kernel
theorem dX12_drinks_97 : decode cX12_drinks 97 = .ok (.iload_n 2, 1) := by decide +kernel
theorem dX12_drinks_98 : decode cX12_drinks 98 = .ok (.iastore, 1) := by decide +kernel
theorem dX12_drinks_99 : decode cX12_drinks 99 = .ok (.aload_n 0, 1) := by decide +kernel
theorem dX12_drinks_100 : decode cX12_drinks 100 = .ok (.getfield 52, 3) := by decide +kernel
theorem dX12_drinks_103 : decode cX12_drinks 103 = .ok (.iload_n 1, 1) := by decide +kernel
theorem dX12_drinks_104 : decode cX12_drinks 104 = .ok (.iaload, 1) := by decide +kernel
theorem dX12_drinks_105 : decode cX12_drinks 105 = .ok (.ireturn, 1) := by decide +kernel
theorem dX12_isHead_0 : decode cX12_isHead 0 = .ok (.iconst 0, 1) := by decide +kernel
theorem dX12_isHead_1 : decode cX12_isHead 1 = .ok (.istore_n 2, 1) := by decide +kernel
theorem dX12_isHead_2 : decode cX12_isHead 2 = .ok (.iload_n 2, 1) := by decide +kernel
theorem dX12_isHead_3 : decode cX12_isHead 3 = .ok (.aload_n 0, 1) := by decide +kernel
theorem dX12_isHead_4 : decode cX12_isHead 4 = .ok (.getfield 275, 3) := by decide +kernel
theorem dX12_isHead_7 : decode cX12_isHead 7 = .ok (.if_icmp .ge 24, 3) := by decide +kernel
theorem dX12_isHead_10 : decode cX12_isHead 10 = .ok (.aload_n 0, 1) := by decide +kernel
theorem dX12_isHead_11 : decode cX12_isHead 11 = .ok (.getfield 49, 3) := by decide +kernel
theorem dX12_isHead_14 : decode cX12_isHead 14 = .ok (.bipush 6, 2) := by decide +kernel
theorem dX12_isHead_16 : decode cX12_isHead 16 = .ok (.iload_n 2, 1) := by decide +kernel
theorem dX12_isHead_17 : decode cX12_isHead 17 = .ok (.imul, 1) := by decide +kernel
theorem dX12_isHead_18 : decode cX12_isHead 18 = .ok (.iaload, 1) := by decide +kernel
theorem dX12_isHead_19 : decode cX12_isHead 19 = .ok (.iload_n 1, 1) := by decide +kernel
theorem dX12_isHead_20 : decode cX12_isHead 20 = .ok (.if_icmp .ne 5, 3) := by decide +kernel
theorem dX12_isHead_23 : decode cX12_isHead 23 = .ok (.iconst 1, 1) := by decide +kernel
theorem dX12_isHead_24 : decode cX12_isHead 24 = .ok (.ireturn, 1) := by decide +kernel
theorem dX12_isHead_25 : decode cX12_isHead 25 = .ok (.iinc 2 1, 3) := by decide +kernel
theorem dX12_isHead_28 : decode cX12_isHead 28 = .ok (.goto (-26), 3) := by decide +kernel
theorem dX12_isHead_31 : decode cX12_isHead 31 = .ok (.iconst 0, 1) := by decide +kernel
theorem dX12_isHead_32 : decode cX12_isHead 32 = .ok (.ireturn, 1) := by decide +kernel
theorem dX12_isOfUnit_0 : decode cX12_isOfUnit 0 = .ok (.iload_n 1, 1) := by decide +kernel
theorem dX12_isOfUnit_1 : decode cX12_isOfUnit 1 = .ok (.ifCond .ne 16, 3) := by decide +kernel
theorem dX12_isOfUnit_4 : decode cX12_isOfUnit 4 = .ok (.iload_n 2, 1) := by decide +kernel
theorem dX12_isOfUnit_5 : decode cX12_isOfUnit 5 = .ok (.iload_n 3, 1) := by decide +kernel
theorem dX12_isOfUnit_6 : decode cX12_isOfUnit 6 = .ok (.if_icmp .ne 7, 3) := by decide +kernel
theorem dX12_isOfUnit_9 : decode cX12_isOfUnit 9 = .ok (.iconst 1, 1) := by decide +kernel
theorem dX12_isOfUnit_10 : decode cX12_isOfUnit 10 = .ok (.goto 32, 3) := by decide +kernel
theorem dX12_isOfUnit_13 : decode cX12_isOfUnit 13 = .ok (.iconst 0, 1) := by decide +kernel
theorem dX12_isOfUnit_14 : decode cX12_isOfUnit 14 = .ok (.goto 28, 3) := by decide +kernel
theorem dX12_isOfUnit_17 : decode cX12_isOfUnit 17 = .ok (.iload_n 1, 1) := by decide +kernel
theorem dX12_isOfUnit_18 : decode cX12_isOfUnit 18 = .ok (.iconst 2, 1) := by decide +kernel
theorem dX12_isOfUnit_19 : decode cX12_isOfUnit 19 = .ok (.if_icmp .eq 18, 3) := by decide +kernel
theorem dX12_isOfUnit_22 : decode cX12_isOfUnit 22 = .ok (.aload_n 0, 1) := by decide +kernel
theorem dX12_isOfUnit_23 : decode cX12_isOfUnit 23 = .ok (.getfield 36, 3) := by decide +kernel
theorem dX12_isOfUnit_26 : decode cX12_isOfUnit 26 = .ok (.iload_n 2, 1) := by decide +kernel
theorem dX12_isOfUnit_27 : decode cX12_isOfUnit 27 = .ok (.iaload, 1) := by decide +kernel
theorem dX12_isOfUnit_28 : decode cX12_isOfUnit 28 = .ok (.aload_n 0, 1) := by decide +kernel
theorem dX12_isOfUnit_29 : decode cX12_isOfUnit 29 = .ok (.getfield 36, 3) := by decide +kernel
theorem dX12_isOfUnit_32 : decode cX12_isOfUnit 32 = .ok (.iload_n 3, 1) := by decide +kernel
theorem dX12_isOfUnit_33 : decode cX12_isOfUnit 33 = .ok (.iaload, 1) := by decide +kernel
theorem dX12_isOfUnit_34 : decode cX12_isOfUnit 34 = .ok (.if_icmp .ne 7, 3) := by decide +kernel
theorem dX12_isOfUnit_37 : decode cX12_isOfUnit 37 = .ok (.iconst 1, 1) := by decide +kernel
theorem dX12_isOfUnit_38 : decode cX12_isOfUnit 38 = .ok (.goto 4, 3) := by decide +kernel
theorem dX12_isOfUnit_41 : decode cX12_isOfUnit 41 = .ok (.iconst 0, 1) := by decide +kernel
theorem dX12_isOfUnit_42 : decode cX12_isOfUnit 42 = .ok (.ireturn, 1) := by decide +kernel
theorem dX12_givenBy_0 : decode cX12_givenBy 0 = .ok (.iconst 0, 1) := by decide +kernel
theorem dX12_givenBy_1 : decode cX12_givenBy 1 = .ok (.istore_n 2, 1) := by decide +kernel
theorem dX12_givenBy_2 : decode cX12_givenBy 2 = .ok (.iconst 0, 1) := by decide +kernel
theorem dX12_givenBy_3 : decode cX12_givenBy 3 = .ok (.istore_n 3, 1) := by decide +kernel
theorem dX12_givenBy_4 : decode cX12_givenBy 4 = .ok (.iload_n 3, 1) := by decide +kernel
theorem dX12_givenBy_5 : decode cX12_givenBy 5 = .ok (.aload_n 0, 1) := by decide +kernel
theorem dX12_givenBy_6 : decode cX12_givenBy 6 = .ok (.invokevirtual 287, 3) := by decide +kernel
theorem dX12_givenBy_9 : decode cX12_givenBy 9 = .ok (.if_icmp .ge 206, 3) := by decide +kernel
theorem dX12_givenBy_12 : decode cX12_givenBy 12 = .ok (.iconst 0, 1) := by decide +kernel
theorem dX12_givenBy_13 : decode cX12_givenBy 13 = .ok (.istore 4, 2) := by decide +kernel
theorem dX12_givenBy_15 : decode cX12_givenBy 15 = .ok (.iload 4, 2) := by decide +kernel
theorem dX12_givenBy_17 : decode cX12_givenBy 17 = .ok (.bipush 6, 2) := by decide +kernel
theorem dX12_givenBy_19 : decode cX12_givenBy 19 = .ok (.if_icmp .ge 17, 3) := by decide +kernel
theorem dX12_givenBy_22 : decode cX12_givenBy 22 = .ok (.aload_n 0, 1) := by decide +kernel
theorem dX12_givenBy_23 : decode cX12_givenBy 23 = .ok (.getfield 29, 3) := by decide +kernel
theorem dX12_givenBy_26 : decode cX12_givenBy 26 = .ok (.iload 4, 2) := by decide +kernel
theorem dX12_givenBy_28 : decode cX12_givenBy 28 = .ok (.lconst 0, 1) := by decide +kernel
theorem dX12_givenBy_29 : decode cX12_givenBy 29 = .ok (.lastore, 1) := by decide +kernel
theorem dX12_givenBy_30 : decode cX12_givenBy 30 = .ok (.iinc 4 1, 3) := by decide +kernel
theorem dX12_givenBy_33 : decode cX12_givenBy 33 = .ok (.goto (-18), 3) := by decide +kernel
theorem dX12_givenBy_36 : decode cX12_givenBy 36 = .ok (.iconst 0, 1) := by decide +kernel
theorem dX12_givenBy_37 : decode cX12_givenBy 37 = .ok (.istore 4, 2) := by decide +kernel
theorem dX12_givenBy_39 : decode cX12_givenBy 39 = .ok (.iload 4, 2) := by decide +kernel
theorem dX12_givenBy_41 : decode cX12_givenBy 41 = .ok (.aload_n 0, 1) := by decide +kernel
theorem dX12_givenBy_42 : decode cX12_givenBy 42 = .ok (.invokevirtual 287, 3) := by decide +kernel
theorem dX12_givenBy_45 : decode cX12_givenBy 45 = .ok (.if_icmp .ge 151, 3) := by decide +kernel
theorem dX12_givenBy_48 : decode cX12_givenBy 48 = .ok (.aload_n 0, 1) := by decide +kernel
theorem dX12_givenBy_49 : decode cX12_givenBy 49 = .ok (.iload_n 1, 1) := by decide +kernel
theorem dX12_givenBy_50 : decode cX12_givenBy 50 = .ok (.iload 4, 2) := by decide +kernel
theorem dX12_givenBy_52 : decode cX12_givenBy 52 = .ok (.iload_n 3, 1) := by decide +kernel
theorem dX12_givenBy_53 : decode cX12_givenBy 53 = .ok (.invokevirtual 328, 3) := by decide +kernel
theorem dX12_givenBy_56 : decode cX12_givenBy 56 = .ok (.ifCond .ne 6, 3) := by decide +kernel
theorem dX12_givenBy_59 : decode cX12_givenBy 59 = .ok (.goto 131, 3) := by decide +kernel
theorem dX12_givenBy_62 : decode cX12_givenBy 62 = .ok (.aload_n 0, 1) := by decide +kernel
theorem dX12_givenBy_63 : decode cX12_givenBy 63 = .ok (.getfield 29, 3) := by decide +kernel
theorem dX12_givenBy_66 : decode cX12_givenBy 66 = .ok (.iconst 0, 1) := by decide +kernel
theorem dX12_givenBy_67 : decode cX12_givenBy 67 = .ok (.dup2, 1) := by decide +kernel
theorem dX12_givenBy_68 : decode cX12_givenBy 68 = .ok (.laload, 1) := by decide +kernel
theorem dX12_givenBy_69 : decode cX12_givenBy 69 = .ok (.aload_n 0, 1) := by decide +kernel
theorem dX12_givenBy_70 : decode cX12_givenBy 70 = .ok (.getfield 88, 3) := by decide +kernel
theorem dX12_givenBy_73 : decode cX12_givenBy 73 = .ok (.iconst 2, 1) := by decide +kernel
theorem dX12_givenBy_74 : decode cX12_givenBy 74 = .ok (.iload 4, 2) := by decide +kernel
theorem dX12_givenBy_76 : decode cX12_givenBy 76 = .ok (.imul, 1) := by decide +kernel
theorem dX12_givenBy_77 : decode cX12_givenBy 77 = .ok (.iaload, 1) := by decide +kernel
theorem dX12_givenBy_78 : decode cX12_givenBy 78 = .ok (.i2l, 1) := by decide +kernel
theorem dX12_givenBy_79 : decode cX12_givenBy 79 = .ok (.ladd, 1) := by decide +kernel
theorem dX12_givenBy_80 : decode cX12_givenBy 80 = .ok (.lastore, 1) := by decide +kernel
theorem dX12_givenBy_81 : decode cX12_givenBy 81 = .ok (.aload_n 0, 1) := by decide +kernel
theorem dX12_givenBy_82 : decode cX12_givenBy 82 = .ok (.getfield 29, 3) := by decide +kernel
theorem dX12_givenBy_85 : decode cX12_givenBy 85 = .ok (.iconst 1, 1) := by decide +kernel
theorem dX12_givenBy_86 : decode cX12_givenBy 86 = .ok (.dup2, 1) := by decide +kernel
theorem dX12_givenBy_87 : decode cX12_givenBy 87 = .ok (.laload, 1) := by decide +kernel
theorem dX12_givenBy_88 : decode cX12_givenBy 88 = .ok (.aload_n 0, 1) := by decide +kernel
theorem dX12_givenBy_89 : decode cX12_givenBy 89 = .ok (.getfield 88, 3) := by decide +kernel
theorem dX12_givenBy_92 : decode cX12_givenBy 92 = .ok (.iconst 2, 1) := by decide +kernel
theorem dX12_givenBy_93 : decode cX12_givenBy 93 = .ok (.iload 4, 2) := by decide +kernel
theorem dX12_givenBy_95 : decode cX12_givenBy 95 = .ok (.imul, 1) := by decide +kernel
theorem dX12_givenBy_96 : decode cX12_givenBy 96 = .ok (.iconst 1, 1) := by decide +kernel
theorem dX12_givenBy_97 : decode cX12_givenBy 97 = .ok (.iadd, 1) := by decide +kernel
theorem dX12_givenBy_98 : decode cX12_givenBy 98 = .ok (.iaload, 1) := by decide +kernel
theorem dX12_givenBy_99 : decode cX12_givenBy 99 = .ok (.i2l, 1) := by decide +kernel
theorem dX12_givenBy_100 : decode cX12_givenBy 100 = .ok (.ladd, 1) := by decide +kernel
theorem dX12_givenBy_101 : decode cX12_givenBy 101 = .ok (.lastore, 1) := by decide +kernel
theorem dX12_givenBy_102 : decode cX12_givenBy 102 = .ok (.aload_n 0, 1) := by decide +kernel
theorem dX12_givenBy_103 : decode cX12_givenBy 103 = .ok (.getfield 29, 3) := by decide +kernel
theorem dX12_givenBy_106 : decode cX12_givenBy 106 = .ok (.iconst 2, 1) := by decide +kernel
theorem dX12_givenBy_107 : decode cX12_givenBy 107 = .ok (.dup2, 1) := by decide +kernel
theorem dX12_givenBy_108 : decode cX12_givenBy 108 = .ok (.laload, 1) := by decide +kernel
theorem dX12_givenBy_109 : decode cX12_givenBy 109 = .ok (.aload_n 0, 1) := by decide +kernel
theorem dX12_givenBy_110 : decode cX12_givenBy 110 = .ok (.getfield 39, 3) := by decide +kernel
theorem dX12_givenBy_113 : decode cX12_givenBy 113 = .ok (.iload 4, 2) := by decide +kernel
theorem dX12_givenBy_115 : decode cX12_givenBy 115 = .ok (.iaload, 1) := by decide +kernel
theorem dX12_givenBy_116 : decode cX12_givenBy 116 = .ok (.ifCond .ne 7, 3) := by decide +kernel
theorem dX12_givenBy_119 : decode cX12_givenBy 119 = .ok (.lconst 1, 1) := by decide +kernel
theorem dX12_givenBy_120 : decode cX12_givenBy 120 = .ok (.goto 21, 3) := by decide +kernel
theorem dX12_givenBy_123 : decode cX12_givenBy 123 = .ok (.aload_n 0, 1) := by decide +kernel
theorem dX12_givenBy_124 : decode cX12_givenBy 124 = .ok (.getfield 39, 3) := by decide +kernel
theorem dX12_givenBy_127 : decode cX12_givenBy 127 = .ok (.iload 4, 2) := by decide +kernel
theorem dX12_givenBy_129 : decode cX12_givenBy 129 = .ok (.iaload, 1) := by decide +kernel
theorem dX12_givenBy_130 : decode cX12_givenBy 130 = .ok (.iconst 1, 1) := by decide +kernel
theorem dX12_givenBy_131 : decode cX12_givenBy 131 = .ok (.if_icmp .ne 9, 3) := by decide +kernel
theorem dX12_givenBy_134 : decode cX12_givenBy 134 = .ok (.ldc2_w 332, 3) := by decide +kernel
theorem dX12_givenBy_137 : decode cX12_givenBy 137 = .ok (.goto 4, 3) := by decide +kernel
theorem dX12_givenBy_140 : decode cX12_givenBy 140 = .ok (.lconst 0, 1) := by decide +kernel
theorem dX12_givenBy_141 : decode cX12_givenBy 141 = .ok (.ladd, 1) := by decide +kernel
theorem dX12_givenBy_142 : decode cX12_givenBy 142 = .ok (.lastore, 1) := by decide +kernel
theorem dX12_givenBy_143 : decode cX12_givenBy 143 = .ok (.aload_n 0, 1) := by decide +kernel
theorem dX12_givenBy_144 : decode cX12_givenBy 144 = .ok (.getfield 29, 3) := by decide +kernel
theorem dX12_givenBy_147 : decode cX12_givenBy 147 = .ok (.iconst 3, 1) := by decide +kernel
theorem dX12_givenBy_148 : decode cX12_givenBy 148 = .ok (.dup2, 1) := by decide +kernel
theorem dX12_givenBy_149 : decode cX12_givenBy 149 = .ok (.laload, 1) := by decide +kernel
theorem dX12_givenBy_150 : decode cX12_givenBy 150 = .ok (.aload_n 0, 1) := by decide +kernel
theorem dX12_givenBy_151 : decode cX12_givenBy 151 = .ok (.getfield 42, 3) := by decide +kernel
theorem dX12_givenBy_154 : decode cX12_givenBy 154 = .ok (.iload 4, 2) := by decide +kernel
theorem dX12_givenBy_156 : decode cX12_givenBy 156 = .ok (.baload, 1) := by decide +kernel
theorem dX12_givenBy_157 : decode cX12_givenBy 157 = .ok (.invokestatic 252, 3) := by decide +kernel
theorem dX12_givenBy_160 : decode cX12_givenBy 160 = .ok (.ladd, 1) := by decide +kernel
theorem dX12_givenBy_161 : decode cX12_givenBy 161 = .ok (.lastore, 1) := by decide +kernel
theorem dX12_givenBy_162 : decode cX12_givenBy 162 = .ok (.aload_n 0, 1) := by decide +kernel
theorem dX12_givenBy_163 : decode cX12_givenBy 163 = .ok (.getfield 29, 3) := by decide +kernel
theorem dX12_givenBy_166 : decode cX12_givenBy 166 = .ok (.iconst 4, 1) := by decide +kernel
theorem dX12_givenBy_167 : decode cX12_givenBy 167 = .ok (.dup2, 1) := by decide +kernel
theorem dX12_givenBy_168 : decode cX12_givenBy 168 = .ok (.laload, 1) := by decide +kernel
theorem dX12_givenBy_169 : decode cX12_givenBy 169 = .ok (.aload_n 0, 1) := by decide +kernel
theorem dX12_givenBy_170 : decode cX12_givenBy 170 = .ok (.iload 4, 2) := by decide +kernel
theorem dX12_givenBy_172 : decode cX12_givenBy 172 = .ok (.invokevirtual 334, 3) := by decide +kernel
theorem dX12_givenBy_175 : decode cX12_givenBy 175 = .ok (.invokestatic 252, 3) := by decide +kernel
theorem dX12_givenBy_178 : decode cX12_givenBy 178 = .ok (.ladd, 1) := by decide +kernel
theorem dX12_givenBy_179 : decode cX12_givenBy 179 = .ok (.lastore, 1) := by decide +kernel
theorem dX12_givenBy_180 : decode cX12_givenBy 180 = .ok (.aload_n 0, 1) := by decide +kernel
theorem dX12_givenBy_181 : decode cX12_givenBy 181 = .ok (.getfield 29, 3) := by decide +kernel
theorem dX12_givenBy_184 : decode cX12_givenBy 184 = .ok (.iconst 5, 1) := by decide +kernel
theorem dX12_givenBy_185 : decode cX12_givenBy 185 = .ok (.dup2, 1) := by decide +kernel
theorem dX12_givenBy_186 : decode cX12_givenBy 186 = .ok (.laload, 1) := by decide +kernel
theorem dX12_givenBy_187 : decode cX12_givenBy 187 = .ok (.lconst 1, 1) := by decide +kernel
theorem dX12_givenBy_188 : decode cX12_givenBy 188 = .ok (.ladd, 1) := by decide +kernel
theorem dX12_givenBy_189 : decode cX12_givenBy 189 = .ok (.lastore, 1) := by decide +kernel
theorem dX12_givenBy_190 : decode cX12_givenBy 190 = .ok (.iinc 4 1, 3) := by decide +kernel
theorem dX12_givenBy_193 : decode cX12_givenBy 193 = .ok (.goto (-154), 3) := by decide +kernel
theorem dX12_givenBy_196 : decode cX12_givenBy 196 = .ok (.aload_n 0, 1) := by decide +kernel
theorem dX12_givenBy_197 : decode cX12_givenBy 197 = .ok (.invokevirtual 337, 3) := by decide +kernel
theorem dX12_givenBy_200 : decode cX12_givenBy 200 = .ok (.ifCond .eq 9, 3) := by decide +kernel
theorem dX12_givenBy_203 : decode cX12_givenBy 203 = .ok (.iload_n 2, 1) := by decide +kernel
theorem dX12_givenBy_204 : decode cX12_givenBy 204 = .ok (.iconst 1, 1) := by decide +kernel
theorem dX12_givenBy_205 : decode cX12_givenBy 205 = .ok (.iload_n 3, 1) := by decide +kernel
theorem dX12_givenBy_206 : decode cX12_givenBy 206 = .ok (.ishl, 1) := by decide +kernel
theorem dX12_givenBy_207 : decode cX12_givenBy 207 = .ok (.ior, 1) := by decide +kernel
theorem dX12_givenBy_208 : decode cX12_givenBy 208 = .ok (.istore_n 2, 1) := by decide +kernel
theorem dX12_givenBy_209 : decode cX12_givenBy 209 = .ok (.iinc 3 1, 3) := by decide +kernel
theorem dX12_givenBy_212 : decode cX12_givenBy 212 = .ok (.goto (-208), 3) := by decide +kernel
theorem dX12_givenBy_215 : decode cX12_givenBy 215 = .ok (.iload_n 2, 1) := by decide +kernel
theorem dX12_givenBy_216 : decode cX12_givenBy 216 = .ok (.ireturn, 1) := by decide +kernel
theorem dX12_given_0 : decode cX12_given 0 = .ok (.aload_n 0, 1) := by decide +kernel
theorem dX12_given_1 : decode cX12_given 1 = .ok (.iconst 0, 1) := by decide +kernel
theorem dX12_given_2 : decode cX12_given 2 = .ok (.putfield 110, 3) := by decide +kernel
theorem dX12_given_5 : decode cX12_given 5 = .ok (.iload_n 1, 1) := by decide +kernel
theorem dX12_given_6 : decode cX12_given 6 = .ok (.invokestatic 325, 3) := by decide +kernel
theorem dX12_given_9 : decode cX12_given 9 = .ok (.ifCond .ne 5, 3) := by decide +kernel
theorem dX12_given_12 : decode cX12_given 12 = .ok (.iconst (-1), 1) := by decide +kernel
theorem dX12_given_13 : decode cX12_given 13 = .ok (.ireturn, 1) := by decide +kernel
theorem dX12_given_14 : decode cX12_given 14 = .ok (.aload_n 0, 1) := by decide +kernel
theorem dX12_given_15 : decode cX12_given 15 = .ok (.iload_n 1, 1) := by decide +kernel
theorem dX12_given_16 : decode cX12_given 16 = .ok (.invokevirtual 340, 3) := by decide +kernel
theorem dX12_given_19 : decode cX12_given 19 = .ok (.aload_n 0, 1) := by decide +kernel
theorem dX12_given_20 : decode cX12_given 20 = .ok (.aload_n 0, 1) := by decide +kernel
theorem dX12_given_21 : decode cX12_given 21 = .ok (.getfield 19, 3) := by decide +kernel
theorem dX12_given_24 : decode cX12_given 24 = .ok (.iconst 0, 1) := by decide +kernel
theorem dX12_given_25 : decode cX12_given 25 = .ok (.iaload, 1) := by decide +kernel
theorem dX12_given_26 : decode cX12_given 26 = .ok (.invokevirtual 343, 3) := by decide +kernel
theorem dX12_given_29 : decode cX12_given 29 = .ok (.ireturn, 1) := by decide +kernel
theorem dX12_bits_0 : decode cX12_bits 0 = .ok (.iconst 0, 1) := by decide +kernel
theorem dX12_bits_1 : decode cX12_bits 1 = .ok (.istore_n 1, 1) := by decide +kernel
theorem dX12_bits_2 : decode cX12_bits 2 = .ok (.iconst 0, 1) := by decide +kernel
theorem dX12_bits_3 : decode cX12_bits 3 = .ok (.istore_n 2, 1) := by decide +kernel
theorem dX12_bits_4 : decode cX12_bits 4 = .ok (.iload_n 2, 1) := by decide +kernel
theorem dX12_bits_5 : decode cX12_bits 5 = .ok (.bipush 25, 2) := by decide +kernel
theorem dX12_bits_7 : decode cX12_bits 7 = .ok (.if_icmp .ge 17, 3) := by decide +kernel
theorem dX12_bits_10 : decode cX12_bits 10 = .ok (.iload_n 1, 1) := by decide +kernel
theorem dX12_bits_11 : decode cX12_bits 11 = .ok (.iload_n 0, 1) := by decide +kernel
theorem dX12_bits_12 : decode cX12_bits 12 = .ok (.iload_n 2, 1) := by decide +kernel
theorem dX12_bits_13 : decode cX12_bits 13 = .ok (.ishr, 1) := by decide +kernel
theorem dX12_bits_14 : decode cX12_bits 14 = .ok (.iconst 1, 1) := by decide +kernel
theorem dX12_bits_15 : decode cX12_bits 15 = .ok (.iand, 1) := by decide +kernel
theorem dX12_bits_16 : decode cX12_bits 16 = .ok (.iadd, 1) := by decide +kernel
theorem dX12_bits_17 : decode cX12_bits 17 = .ok (.istore_n 1, 1) := by decide +kernel
theorem dX12_bits_18 : decode cX12_bits 18 = .ok (.iinc 2 1, 3) := by decide +kernel
theorem dX12_bits_21 : decode cX12_bits 21 = .ok (.goto (-17), 3) := by decide +kernel
theorem dX12_bits_24 : decode cX12_bits 24 = .ok (.iload_n 1, 1) := by decide +kernel
theorem dX12_bits_25 : decode cX12_bits 25 = .ok (.ireturn, 1) := by decide +kernel
theorem dX12_turned_0 : decode cX12_turned 0 = .ok (.aload_n 0, 1) := by decide +kernel
theorem dX12_turned_1 : decode cX12_turned 1 = .ok (.iconst 0, 1) := by decide +kernel
theorem dX12_turned_2 : decode cX12_turned 2 = .ok (.putfield 110, 3) := by decide +kernel
theorem dX12_turned_5 : decode cX12_turned 5 = .ok (.iload_n 1, 1) := by decide +kernel
theorem dX12_turned_6 : decode cX12_turned 6 = .ok (.ifCond .lt 15, 3) := by decide +kernel
theorem dX12_turned_9 : decode cX12_turned 9 = .ok (.iload_n 1, 1) := by decide +kernel
theorem dX12_turned_10 : decode cX12_turned 10 = .ok (.iconst 2, 1) := by decide +kernel
theorem dX12_turned_11 : decode cX12_turned 11 = .ok (.if_icmp .gt 10, 3) := by decide +kernel
theorem dX12_turned_14 : decode cX12_turned 14 = .ok (.iload_n 2, 1) := by decide +kernel
theorem dX12_turned_15 : decode cX12_turned 15 = .ok (.invokestatic 325, 3) := by decide +kernel
theorem dX12_turned_18 : decode cX12_turned 18 = .ok (.ifCond .ne 5, 3) := by decide +kernel
theorem dX12_turned_21 : decode cX12_turned 21 = .ok (.iconst (-1), 1) := by decide +kernel
theorem dX12_turned_22 : decode cX12_turned 22 = .ok (.ireturn, 1) := by decide +kernel
theorem dX12_turned_23 : decode cX12_turned 23 = .ok (.aload_n 0, 1) := by decide +kernel
theorem dX12_turned_24 : decode cX12_turned 24 = .ok (.iload_n 2, 1) := by decide +kernel
theorem dX12_turned_25 : decode cX12_turned 25 = .ok (.invokevirtual 340, 3) := by decide +kernel
theorem dX12_turned_28 : decode cX12_turned 28 = .ok (.aload_n 0, 1) := by decide +kernel
theorem dX12_turned_29 : decode cX12_turned 29 = .ok (.aload_n 0, 1) := by decide +kernel
theorem dX12_turned_30 : decode cX12_turned 30 = .ok (.getfield 19, 3) := by decide +kernel
theorem dX12_turned_33 : decode cX12_turned 33 = .ok (.iconst 0, 1) := by decide +kernel
theorem dX12_turned_34 : decode cX12_turned 34 = .ok (.iaload, 1) := by decide +kernel
theorem dX12_turned_35 : decode cX12_turned 35 = .ok (.invokevirtual 343, 3) := by decide +kernel
theorem dX12_turned_38 : decode cX12_turned 38 = .ok (.aload_n 0, 1) := by decide +kernel
theorem dX12_turned_39 : decode cX12_turned 39 = .ok (.iload_n 1, 1) := by decide +kernel
theorem dX12_turned_40 : decode cX12_turned 40 = .ok (.invokevirtual 343, 3) := by decide +kernel
theorem dX12_turned_43 : decode cX12_turned 43 = .ok (.ixor, 1) := by decide +kernel
theorem dX12_turned_44 : decode cX12_turned 44 = .ok (.invokestatic 346, 3) := by decide +kernel
theorem dX12_turned_47 : decode cX12_turned 47 = .ok (.ireturn, 1) := by decide +kernel
theorem dX12_draft_0 : decode cX12_draft 0 = .ok (.aload_n 0, 1) := by decide +kernel
theorem dX12_draft_1 : decode cX12_draft 1 = .ok (.iconst 0, 1) := by decide +kernel
theorem dX12_draft_2 : decode cX12_draft 2 = .ok (.putfield 110, 3) := by decide +kernel
theorem dX12_draft_5 : decode cX12_draft 5 = .ok (.aload_n 0, 1) := by decide +kernel
theorem dX12_draft_6 : decode cX12_draft 6 = .ok (.iload_n 1, 1) := by decide +kernel
theorem dX12_draft_7 : decode cX12_draft 7 = .ok (.invokevirtual 349, 3) := by decide +kernel
theorem dX12_draft_10 : decode cX12_draft 10 = .ok (.ifCond .eq 12, 3) := by decide +kernel
theorem dX12_draft_13 : decode cX12_draft 13 = .ok (.aload_n 0, 1) := by decide +kernel
theorem dX12_draft_14 : decode cX12_draft 14 = .ok (.getfield 278, 3) := by decide +kernel
theorem dX12_draft_17 : decode cX12_draft 17 = .ok (.bipush 12, 2) := by decide +kernel
theorem dX12_draft_19 : decode cX12_draft 19 = .ok (.if_icmp .ne 5, 3) := by decide +kernel
theorem dX12_draft_22 : decode cX12_draft 22 = .ok (.iconst (-1), 1) := by decide +kernel
theorem dX12_draft_23 : decode cX12_draft 23 = .ok (.ireturn, 1) := by decide +kernel
theorem dX12_draft_24 : decode cX12_draft 24 = .ok (.aload_n 0, 1) := by decide +kernel
theorem dX12_draft_25 : decode cX12_draft 25 = .ok (.getfield 55, 3) := by decide +kernel
theorem dX12_draft_28 : decode cX12_draft 28 = .ok (.aload_n 0, 1) := by decide +kernel
theorem dX12_draft_29 : decode cX12_draft 29 = .ok (.getfield 278, 3) := by decide +kernel
theorem dX12_draft_32 : decode cX12_draft 32 = .ok (.iload_n 1, 1) := by decide +kernel
theorem dX12_draft_33 : decode cX12_draft 33 = .ok (.iastore, 1) := by decide +kernel
theorem dX12_draft_34 : decode cX12_draft 34 = .ok (.aload_n 0, 1) := by decide +kernel
theorem dX12_draft_35 : decode cX12_draft 35 = .ok (.getfield 58, 3) := by decide +kernel
theorem dX12_draft_38 : decode cX12_draft 38 = .ok (.aload_n 0, 1) := by decide +kernel
theorem dX12_draft_39 : decode cX12_draft 39 = .ok (.getfield 278, 3) := by decide +kernel
theorem dX12_draft_42 : decode cX12_draft 42 = .ok (.aload_n 0, 1) := by decide +kernel
theorem dX12_draft_43 : decode cX12_draft 43 = .ok (.getfield 290, 3) := by decide +kernel
theorem dX12_draft_46 : decode cX12_draft 46 = .ok (.iastore, 1) := by decide +kernel
theorem dX12_draft_47 : decode cX12_draft 47 = .ok (.aload_n 0, 1) := by decide +kernel
theorem dX12_draft_48 : decode cX12_draft 48 = .ok (.dup, 1) := by decide +kernel
theorem dX12_draft_49 : decode cX12_draft 49 = .ok (.getfield 278, 3) := by decide +kernel
theorem dX12_draft_52 : decode cX12_draft 52 = .ok (.iconst 1, 1) := by decide +kernel
theorem dX12_draft_53 : decode cX12_draft 53 = .ok (.iadd, 1) := by decide +kernel
theorem dX12_draft_54 : decode cX12_draft 54 = .ok (.putfield 278, 3) := by decide +kernel
theorem dX12_draft_57 : decode cX12_draft 57 = .ok (.aload_n 0, 1) := by decide +kernel
theorem dX12_draft_58 : decode cX12_draft 58 = .ok (.getfield 278, 3) := by decide +kernel
theorem dX12_draft_61 : decode cX12_draft 61 = .ok (.iconst 1, 1) := by decide +kernel
theorem dX12_draft_62 : decode cX12_draft 62 = .ok (.isub, 1) := by decide +kernel
theorem dX12_draft_63 : decode cX12_draft 63 = .ok (.ireturn, 1) := by decide +kernel
theorem dX12_look_0 : decode cX12_look 0 = .ok (.aload_n 0, 1) := by decide +kernel
theorem dX12_look_1 : decode cX12_look 1 = .ok (.aload_n 0, 1) := by decide +kernel
theorem dX12_look_2 : decode cX12_look 2 = .ok (.iload_n 1, 1) := by decide +kernel
theorem dX12_look_3 : decode cX12_look 3 = .ok (.invokevirtual 303, 3) := by decide +kernel
theorem dX12_look_6 : decode cX12_look 6 = .ok (.ifCond .ne 7, 3) := by decide +kernel
theorem dX12_look_9 : decode cX12_look 9 = .ok (.iconst 1, 1) := by decide +kernel
theorem dX12_look_10 : decode cX12_look 10 = .ok (.goto 17, 3) := by decide +kernel
theorem dX12_look_13 : decode cX12_look 13 = .ok (.iload_n 2, 1) := by decide +kernel
theorem dX12_look_14 : decode cX12_look 14 = .ok (.ifCond .lt 8, 3) := by decide +kernel
theorem dX12_look_17 : decode cX12_look 17 = .ok (.iload_n 2, 1) := by decide +kernel
theorem dX12_look_18 : decode cX12_look 18 = .ok (.iconst 1, 1) := by decide +kernel
theorem dX12_look_19 : decode cX12_look 19 = .ok (.if_icmp .le 7, 3) := by decide +kernel
theorem dX12_look_22 : decode cX12_look 22 = .ok (.iconst 2, 1) := by decide +kernel
theorem dX12_look_23 : decode cX12_look 23 = .ok (.goto 4, 3) := by decide +kernel
theorem dX12_look_26 : decode cX12_look 26 = .ok (.iconst 0, 1) := by decide +kernel
theorem dX12_look_27 : decode cX12_look 27 = .ok (.putfield 110, 3) := by decide +kernel
theorem dX12_look_30 : decode cX12_look 30 = .ok (.aload_n 0, 1) := by decide +kernel
theorem dX12_look_31 : decode cX12_look 31 = .ok (.getfield 110, 3) := by decide +kernel
theorem dX12_look_34 : decode cX12_look 34 = .ok (.ifCond .eq 5, 3) := by decide +kernel
theorem dX12_look_37 : decode cX12_look 37 = .ok (.iconst 0, 1) := by decide +kernel
theorem dX12_look_38 : decode cX12_look 38 = .ok (.ireturn, 1) := by decide +kernel
theorem dX12_look_39 : decode cX12_look 39 = .ok (.iload_n 2, 1) := by decide +kernel
theorem dX12_look_40 : decode cX12_look 40 = .ok (.ifCond .ne 12, 3) := by decide +kernel
theorem dX12_look_43 : decode cX12_look 43 = .ok (.aload_n 0, 1) := by decide +kernel
theorem dX12_look_44 : decode cX12_look 44 = .ok (.getfield 55, 3) := by decide +kernel
theorem dX12_look_47 : decode cX12_look 47 = .ok (.iload_n 1, 1) := by decide +kernel
theorem dX12_look_48 : decode cX12_look 48 = .ok (.iaload, 1) := by decide +kernel
theorem dX12_look_49 : decode cX12_look 49 = .ok (.goto 9, 3) := by decide +kernel
theorem dX12_look_52 : decode cX12_look 52 = .ok (.aload_n 0, 1) := by decide +kernel
theorem dX12_look_53 : decode cX12_look 53 = .ok (.getfield 58, 3) := by decide +kernel
theorem dX12_look_56 : decode cX12_look 56 = .ok (.iload_n 1, 1) := by decide +kernel
theorem dX12_look_57 : decode cX12_look 57 = .ok (.iaload, 1) := by decide +kernel
theorem dX12_look_58 : decode cX12_look 58 = .ok (.ireturn, 1) := by decide +kernel
