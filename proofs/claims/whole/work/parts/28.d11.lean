theorem dX11_init_0 : decode cX11_init 0 = .ok (.aload_n 0, 1) := by decide +kernel
theorem dX11_init_1 : decode cX11_init 1 = .ok (.invokespecial 1, 3) := by decide +kernel
theorem dX11_init_4 : decode cX11_init 4 = .ok (.new 7, 3) := by decide +kernel
theorem dX11_init_7 : decode cX11_init 7 = .ok (.dup, 1) := by decide +kernel
theorem dX11_init_8 : decode cX11_init 8 = .ok (.invokespecial 9, 3) := by decide +kernel
theorem dX11_init_11 : decode cX11_init 11 = .ok (.astore_n 1, 1) := by decide +kernel
theorem dX11_init_12 : decode cX11_init 12 = .ok (.new 10, 3) := by decide +kernel
theorem dX11_init_15 : decode cX11_init 15 = .ok (.dup, 1) := by decide +kernel
theorem dX11_init_16 : decode cX11_init 16 = .ok (.invokespecial 12, 3) := by decide +kernel
theorem dX11_init_19 : decode cX11_init 19 = .ok (.astore_n 2, 1) := by decide +kernel
theorem dX11_init_20 : decode cX11_init 20 = .ok (.new 13, 3) := by decide +kernel
theorem dX11_init_23 : decode cX11_init 23 = .ok (.dup, 1) := by decide +kernel
theorem dX11_init_24 : decode cX11_init 24 = .ok (.aload_n 1, 1) := by decide +kernel
theorem dX11_init_25 : decode cX11_init 25 = .ok (.aload_n 2, 1) := by decide +kernel
theorem dX11_init_26 : decode cX11_init 26 = .ok (.invokespecial 15, 3) := by decide +kernel
theorem dX11_init_29 : decode cX11_init 29 = .ok (.astore_n 3, 1) := by decide +kernel
theorem dX11_init_30 : decode cX11_init 30 = .ok (.aload_n 0, 1) := by decide +kernel
theorem dX11_init_31 : decode cX11_init 31 = .ok (.iconst 0, 1) := by decide +kernel
theorem dX11_init_32 : decode cX11_init 32 = .ok (.putfield 18, 3) := by decide +kernel
theorem dX11_init_35 : decode cX11_init 35 = .ok (.aload_n 0, 1) := by decide +kernel
theorem dX11_init_36 : decode cX11_init 36 = .ok (.new 24, 3) := by decide +kernel
theorem dX11_init_39 : decode cX11_init 39 = .ok (.dup, 1) := by decide +kernel
theorem dX11_init_40 : decode cX11_init 40 = .ok (.invokespecial 26, 3) := by decide +kernel
theorem dX11_init_43 : decode cX11_init 43 = .ok (.putfield 27, 3) := by decide +kernel
theorem dX11_init_46 : decode cX11_init 46 = .ok (.aload_n 0, 1) := by decide +kernel
theorem dX11_init_47 : decode cX11_init 47 = .ok (.new 31, 3) := by decide +kernel
theorem dX11_init_50 : decode cX11_init 50 = .ok (.dup, 1) := by decide +kernel
theorem dX11_init_51 : decode cX11_init 51 = .ok (.invokespecial 33, 3) := by decide +kernel
theorem dX11_init_54 : decode cX11_init 54 = .ok (.putfield 34, 3) := by decide +kernel
theorem dX11_init_57 : decode cX11_init 57 = .ok (.aload_n 0, 1) := by decide +kernel
theorem dX11_init_58 : decode cX11_init 58 = .ok (.new 31, 3) := by decide +kernel
theorem dX11_init_61 : decode cX11_init 61 = .ok (.dup, 1) := by decide +kernel
theorem dX11_init_62 : decode cX11_init 62 = .ok (.invokespecial 33, 3) := by decide +kernel
theorem dX11_init_65 : decode cX11_init 65 = .ok (.putfield 38, 3) := by decide +kernel
theorem dX11_init_68 : decode cX11_init 68 = .ok (.aload_n 0, 1) := by decide +kernel
theorem dX11_init_69 : decode cX11_init 69 = .ok (.aload_n 1, 1) := by decide +kernel
theorem dX11_init_70 : decode cX11_init 70 = .ok (.putfield 41, 3) := by decide +kernel
theorem dX11_init_73 : decode cX11_init 73 = .ok (.aload_n 0, 1) := by decide +kernel
theorem dX11_init_74 : decode cX11_init 74 = .ok (.aload_n 2, 1) := by decide +kernel
theorem dX11_init_75 : decode cX11_init 75 = .ok (.putfield 45, 3) := by decide +kernel
theorem dX11_init_78 : decode cX11_init 78 = .ok (.aload_n 0, 1) := by decide +kernel
theorem dX11_init_79 : decode cX11_init 79 = .ok (.aload_n 3, 1) := by decide +kernel
theorem dX11_init_80 : decode cX11_init 80 = .ok (.putfield 49, 3) := by decide +kernel
theorem dX11_init_83 : decode cX11_init 83 = .ok (.aload_n 0, 1) := by decide +kernel
theorem dX11_init_84 : decode cX11_init 84 = .ok (.new 53, 3) := by decide +kernel
theorem dX11_init_87 : decode cX11_init 87 = .ok (.dup, 1) := by decide +kernel
theorem dX11_init_88 : decode cX11_init 88 = .ok (.invokespecial 55, 3) := by decide +kernel
theorem dX11_init_91 : decode cX11_init 91 = .ok (.putfield 56, 3) := by decide +kernel
theorem dX11_init_94 : decode cX11_init 94 = .ok (.aload_n 0, 1) := by decide +kernel
theorem dX11_init_95 : decode cX11_init 95 = .ok (.new 60, 3) := by decide +kernel
theorem dX11_init_98 : decode cX11_init 98 = .ok (.dup, 1) := by decide +kernel
theorem dX11_init_99 : decode cX11_init 99 = .ok (.aload_n 1, 1) := by decide +kernel
theorem dX11_init_100 : decode cX11_init 100 = .ok (.aload_n 3, 1) := by decide +kernel
theorem dX11_init_101 : decode cX11_init 101 = .ok (.invokespecial 62, 3) := by decide +kernel
theorem dX11_init_104 : decode cX11_init 104 = .ok (.putfield 65, 3) := by decide +kernel
theorem dX11_init_107 : decode cX11_init 107 = .ok (.aload_n 0, 1) := by decide +kernel
theorem dX11_init_108 : decode cX11_init 108 = .ok (.new 69, 3) := by decide +kernel
theorem dX11_init_111 : decode cX11_init 111 = .ok (.dup, 1) := by decide +kernel
theorem dX11_init_112 : decode cX11_init 112 = .ok (.aload_n 1, 1) := by decide +kernel
theorem dX11_init_113 : decode cX11_init 113 = .ok (.aload_n 3, 1) := by decide +kernel
theorem dX11_init_114 : decode cX11_init 114 = .ok (.invokespecial 71, 3) := by decide +kernel
theorem dX11_init_117 : decode cX11_init 117 = .ok (.putfield 72, 3) := by decide +kernel
theorem dX11_init_120 : decode cX11_init 120 = .ok (.aload_n 0, 1) := by decide +kernel
theorem dX11_init_121 : decode cX11_init 121 = .ok (.new 76, 3) := by decide +kernel
theorem dX11_init_124 : decode cX11_init 124 = .ok (.dup, 1) := by decide +kernel
theorem dX11_init_125 : decode cX11_init 125 = .ok (.aload_n 2, 1) := by decide +kernel
theorem dX11_init_126 : decode cX11_init 126 = .ok (.invokespecial 78, 3) := by decide +kernel
theorem dX11_init_129 : decode cX11_init 129 = .ok (.putfield 81, 3) := by decide +kernel
theorem dX11_init_132 : decode cX11_init 132 = .ok (.aload_n 0, 1) := by decide +kernel
theorem dX11_init_133 : decode cX11_init 133 = .ok (.new 85, 3) := by decide +kernel
theorem dX11_init_136 : decode cX11_init 136 = .ok (.dup, 1) := by decide +kernel
theorem dX11_init_137 : decode cX11_init 137 = .ok (.aload_n 1, 1) := by decide +kernel
theorem dX11_init_138 : decode cX11_init 138 = .ok (.aload_n 3, 1) := by decide +kernel
theorem dX11_init_139 : decode cX11_init 139 = .ok (.invokespecial 87, 3) := by decide +kernel
theorem dX11_init_142 : decode cX11_init 142 = .ok (.putfield 88, 3) := by decide +kernel
theorem dX11_init_145 : decode cX11_init 145 = .ok (.return_, 1) := by decide +kernel
theorem dX11_feed_0 : decode cX11_feed 0 = .ok (.aload_n 0, 1) := by decide +kernel
theorem dX11_feed_1 : decode cX11_feed 1 = .ok (.getfield 27, 3) := by decide +kernel
theorem dX11_feed_4 : decode cX11_feed 4 = .ok (.invokevirtual 92, 3) := by decide +kernel
theorem dX11_feed_7 : decode cX11_feed 7 = .ok (.ifCond .ne 5, 3) := by decide +kernel
theorem dX11_feed_10 : decode cX11_feed 10 = .ok (.iconst (-1), 1) := by decide +kernel
theorem dX11_feed_11 : decode cX11_feed 11 = .ok (.ireturn, 1) := by decide +kernel
theorem dX11_feed_12 : decode cX11_feed 12 = .ok (.aload_n 0, 1) := by decide +kernel
theorem dX11_feed_13 : decode cX11_feed 13 = .ok (.getfield 27, 3) := by decide +kernel
theorem dX11_feed_16 : decode cX11_feed 16 = .ok (.iload_n 1, 1) := by decide +kernel
theorem dX11_feed_17 : decode cX11_feed 17 = .ok (.invokevirtual 96, 3) := by decide +kernel
theorem dX11_feed_20 : decode cX11_feed 20 = .ok (.aload_n 0, 1) := by decide +kernel
theorem dX11_feed_21 : decode cX11_feed 21 = .ok (.getfield 27, 3) := by decide +kernel
theorem dX11_feed_24 : decode cX11_feed 24 = .ok (.iload_n 2, 1) := by decide +kernel
theorem dX11_feed_25 : decode cX11_feed 25 = .ok (.invokevirtual 96, 3) := by decide +kernel
theorem dX11_feed_28 : decode cX11_feed 28 = .ok (.aload_n 0, 1) := by decide +kernel
theorem dX11_feed_29 : decode cX11_feed 29 = .ok (.getfield 27, 3) := by decide +kernel
theorem dX11_feed_32 : decode cX11_feed 32 = .ok (.iload_n 3, 1) := by decide +kernel
theorem dX11_feed_33 : decode cX11_feed 33 = .ok (.invokevirtual 96, 3) := by decide +kernel
theorem dX11_feed_36 : decode cX11_feed 36 = .ok (.aload_n 0, 1) := by decide +kernel
theorem dX11_feed_37 : decode cX11_feed 37 = .ok (.getfield 27, 3) := by decide +kernel
theorem dX11_feed_40 : decode cX11_feed 40 = .ok (.iload 4, 2) := by decide +kernel
theorem dX11_feed_42 : decode cX11_feed 42 = .ok (.invokevirtual 96, 3) := by decide +kernel
theorem dX11_feed_45 : decode cX11_feed 45 = .ok (.aload_n 0, 1) := by decide +kernel
theorem dX11_feed_46 : decode cX11_feed 46 = .ok (.getfield 27, 3) := by decide +kernel
theorem dX11_feed_49 : decode cX11_feed 49 = .ok (.iload 5, 2) := by decide +kernel
theorem dX11_feed_51 : decode cX11_feed 51 = .ok (.invokevirtual 96, 3) := by decide +kernel
theorem dX11_feed_54 : decode cX11_feed 54 = .ok (.aload_n 0, 1) := by decide +kernel
theorem dX11_feed_55 : decode cX11_feed 55 = .ok (.getfield 27, 3) := by decide +kernel
theorem dX11_feed_58 : decode cX11_feed 58 = .ok (.getfield 100, 3) := by decide +kernel
theorem dX11_feed_61 : decode cX11_feed 61 = .ok (.ireturn, 1) := by decide +kernel
theorem dX11_terms_0 : decode cX11_terms 0 = .ok (.iload_n 1, 1) := by decide +kernel
theorem dX11_terms_1 : decode cX11_terms 1 = .ok (.ifCond .lt 14, 3) := by decide +kernel
theorem dX11_terms_4 : decode cX11_terms 4 = .ok (.iload_n 1, 1) := by decide +kernel
theorem dX11_terms_5 : decode cX11_terms 5 = .ok (.aload_n 0, 1) := by decide +kernel
theorem dX11_terms_6 : decode cX11_terms 6 = .ok (.getfield 27, 3) := by decide +kernel
theorem dX11_terms_9 : decode cX11_terms 9 = .ok (.getfield 100, 3) := by decide +kernel
theorem dX11_terms_12 : decode cX11_terms 12 = .ok (.if_icmp .le 6, 3) := by decide +kernel
theorem dX11_terms_15 : decode cX11_terms 15 = .ok (.bipush (-2), 2) := by decide +kernel
theorem dX11_terms_17 : decode cX11_terms 17 = .ok (.ireturn, 1) := by decide +kernel
theorem dX11_terms_18 : decode cX11_terms 18 = .ok (.aload_n 0, 1) := by decide +kernel
theorem dX11_terms_19 : decode cX11_terms 19 = .ok (.getfield 27, 3) := by decide +kernel
theorem dX11_terms_22 : decode cX11_terms 22 = .ok (.iload_n 1, 1) := by decide +kernel
theorem dX11_terms_23 : decode cX11_terms 23 = .ok (.aload_n 0, 1) := by decide +kernel
theorem dX11_terms_24 : decode cX11_terms 24 = .ok (.getfield 38, 3) := by decide +kernel
theorem dX11_terms_27 : decode cX11_terms 27 = .ok (.invokevirtual 103, 3) := by decide +kernel
theorem dX11_terms_30 : decode cX11_terms 30 = .ok (.istore_n 2, 1) := by decide +kernel
theorem dX11_terms_31 : decode cX11_terms 31 = .ok (.iload_n 2, 1) := by decide +kernel
theorem dX11_terms_32 : decode cX11_terms 32 = .ok (.iconst (-1), 1) := by decide +kernel
theorem dX11_terms_33 : decode cX11_terms 33 = .ok (.if_icmp .ne 5, 3) := by decide +kernel
theorem dX11_terms_36 : decode cX11_terms 36 = .ok (.iconst (-1), 1) := by decide +kernel
theorem dX11_terms_37 : decode cX11_terms 37 = .ok (.ireturn, 1) := by decide +kernel
theorem dX11_terms_38 : decode cX11_terms 38 = .ok (.aload_n 0, 1) := by decide +kernel
theorem dX11_terms_39 : decode cX11_terms 39 = .ok (.getfield 34, 3) := by decide +kernel
theorem dX11_terms_42 : decode cX11_terms 42 = .ok (.astore_n 3, 1) := by decide +kernel
theorem dX11_terms_43 : decode cX11_terms 43 = .ok (.aload_n 0, 1) := by decide +kernel
theorem dX11_terms_44 : decode cX11_terms 44 = .ok (.aload_n 0, 1) := by decide +kernel
theorem dX11_terms_45 : decode cX11_terms 45 = .ok (.getfield 38, 3) := by decide +kernel
theorem dX11_terms_48 : decode cX11_terms 48 = .ok (.putfield 34, 3) := by decide +kernel
theorem dX11_terms_51 : decode cX11_terms 51 = .ok (.aload_n 0, 1) := by decide +kernel
theorem dX11_terms_52 : decode cX11_terms 52 = .ok (.aload_n 3, 1) := by decide +kernel
theorem dX11_terms_53 : decode cX11_terms 53 = .ok (.putfield 38, 3) := by decide +kernel
theorem dX11_terms_56 : decode cX11_terms 56 = .ok (.iload_n 2, 1) := by decide +kernel
theorem dX11_terms_57 : decode cX11_terms 57 = .ok (.ireturn, 1) := by decide +kernel
theorem dX11_fault_0 : decode cX11_fault 0 = .ok (.iload_n 1, 1) := by decide +kernel
theorem dX11_fault_1 : decode cX11_fault 1 = .ok (.lookupswitch 43 #[(0, 27), (1, 35)], 27) := by decide +kernel
theorem dX11_fault_28 : decode cX11_fault 28 = .ok (.aload_n 0, 1) := by decide +kernel
theorem dX11_fault_29 : decode cX11_fault 29 = .ok (.getfield 27, 3) := by decide +kernel
theorem dX11_fault_32 : decode cX11_fault 32 = .ok (.getfield 107, 3) := by decide +kernel
theorem dX11_fault_35 : decode cX11_fault 35 = .ok (.ireturn, 1) := by decide +kernel
theorem dX11_fault_36 : decode cX11_fault 36 = .ok (.aload_n 0, 1) := by decide +kernel
theorem dX11_fault_37 : decode cX11_fault 37 = .ok (.getfield 27, 3) := by decide +kernel
theorem dX11_fault_40 : decode cX11_fault 40 = .ok (.getfield 110, 3) := by decide +kernel
theorem dX11_fault_43 : decode cX11_fault 43 = .ok (.ireturn, 1) := by decide +kernel
theorem dX11_fault_44 : decode cX11_fault 44 = .ok (.iconst (-1), 1) := by decide +kernel
theorem dX11_fault_45 : decode cX11_fault 45 = .ok (.ireturn, 1) := by decide +kernel
theorem dX11_land_0 : decode cX11_land 0 = .ok (.iload_n 1, 1) := by decide +kernel
theorem dX11_land_1 : decode cX11_land 1 = .ok (.iconst 2, 1) := by decide +kernel
theorem dX11_land_2 : decode cX11_land 2 = .ok (.if_icmp .lt 18, 3) := by decide +kernel
theorem dX11_land_5 : decode cX11_land 5 = .ok (.iload_n 1, 1) := by decide +kernel
theorem dX11_land_6 : decode cX11_land 6 = .ok (.iconst 5, 1) := by decide +kernel
theorem dX11_land_7 : decode cX11_land 7 = .ok (.if_icmp .gt 13, 3) := by decide +kernel
theorem dX11_land_10 : decode cX11_land 10 = .ok (.iload_n 2, 1) := by decide +kernel
theorem dX11_land_11 : decode cX11_land 11 = .ok (.iconst 2, 1) := by decide +kernel
theorem dX11_land_12 : decode cX11_land 12 = .ok (.if_icmp .lt 8, 3) := by decide +kernel
theorem dX11_land_15 : decode cX11_land 15 = .ok (.iload_n 2, 1) := by decide +kernel
theorem dX11_land_16 : decode cX11_land 16 = .ok (.iconst 5, 1) := by decide +kernel
theorem dX11_land_17 : decode cX11_land 17 = .ok (.if_icmp .le 5, 3) := by decide +kernel
theorem dX11_land_20 : decode cX11_land 20 = .ok (.iconst 0, 1) := by decide +kernel
theorem dX11_land_21 : decode cX11_land 21 = .ok (.ireturn, 1) := by decide +kernel
theorem dX11_land_22 : decode cX11_land 22 = .ok (.aload_n 0, 1) := by decide +kernel
theorem dX11_land_23 : decode cX11_land 23 = .ok (.getfield 41, 3) := by decide +kernel
theorem dX11_land_26 : decode cX11_land 26 = .ok (.iload_n 1, 1) := by decide +kernel
theorem dX11_land_27 : decode cX11_land 27 = .ok (.iload_n 2, 1) := by decide +kernel
theorem dX11_land_28 : decode cX11_land 28 = .ok (.invokevirtual 113, 3) := by decide +kernel
theorem dX11_land_31 : decode cX11_land 31 = .ok (.aload_n 0, 1) := by decide +kernel
theorem dX11_land_32 : decode cX11_land 32 = .ok (.getfield 45, 3) := by decide +kernel
theorem dX11_land_35 : decode cX11_land 35 = .ok (.iconst 0, 1) := by decide +kernel
theorem dX11_land_36 : decode cX11_land 36 = .ok (.putfield 117, 3) := by decide +kernel
theorem dX11_land_39 : decode cX11_land 39 = .ok (.aload_n 0, 1) := by decide +kernel
theorem dX11_land_40 : decode cX11_land 40 = .ok (.getfield 56, 3) := by decide +kernel
theorem dX11_land_43 : decode cX11_land 43 = .ok (.iconst 0, 1) := by decide +kernel
theorem dX11_land_44 : decode cX11_land 44 = .ok (.putfield 118, 3) := by decide +kernel
theorem dX11_land_47 : decode cX11_land 47 = .ok (.aload_n 0, 1) := by decide +kernel
theorem dX11_land_48 : decode cX11_land 48 = .ok (.getfield 88, 3) := by decide +kernel
theorem dX11_land_51 : decode cX11_land 51 = .ok (.iconst 0, 1) := by decide +kernel
theorem dX11_land_52 : decode cX11_land 52 = .ok (.putfield 119, 3) := by decide +kernel
theorem dX11_land_55 : decode cX11_land 55 = .ok (.iconst 1, 1) := by decide +kernel
theorem dX11_land_56 : decode cX11_land 56 = .ok (.ireturn, 1) := by decide +kernel
theorem dX11_days_0 : decode cX11_days 0 = .ok (.iload_n 1, 1) := by decide +kernel
theorem dX11_days_1 : decode cX11_days 1 = .ok (.ifCond .lt 15, 3) := by decide +kernel
theorem dX11_days_4 : decode cX11_days 4 = .ok (.iload_n 1, 1) := by decide +kernel
theorem dX11_days_5 : decode cX11_days 5 = .ok (.sipush 999, 3) := by decide +kernel
theorem dX11_days_8 : decode cX11_days 8 = .ok (.aload_n 0, 1) := by decide +kernel
theorem dX11_days_9 : decode cX11_days 9 = .ok (.getfield 18, 3) := by decide +kernel
theorem dX11_days_12 : decode cX11_days 12 = .ok (.isub, 1) := by decide +kernel
theorem dX11_days_13 : decode cX11_days 13 = .ok (.if_icmp .le 5, 3) := by decide +kernel
theorem dX11_days_16 : decode cX11_days 16 = .ok (.iconst (-1), 1) := by decide +kernel
theorem dX11_days_17 : decode cX11_days 17 = .ok (.ireturn, 1) := by decide +kernel
theorem dX11_days_18 : decode cX11_days 18 = .ok (.aload_n 0, 1) := by decide +kernel
theorem dX11_days_19 : decode cX11_days 19 = .ok (.dup, 1) := by decide +kernel
theorem dX11_days_20 : decode cX11_days 20 = .ok (.getfield 18, 3) := by decide +kernel
theorem dX11_days_23 : decode cX11_days 23 = .ok (.iload_n 1, 1) := by decide +kernel
theorem dX11_days_24 : decode cX11_days 24 = .ok (.iadd, 1) := by decide +kernel
theorem dX11_days_25 : decode cX11_days 25 = .ok (.putfield 18, 3) := by decide +kernel
theorem dX11_days_28 : decode cX11_days 28 = .ok (.aload_n 0, 1) := by decide +kernel
theorem dX11_days_29 : decode cX11_days 29 = .ok (.getfield 18, 3) := by decide +kernel
theorem dX11_days_32 : decode cX11_days 32 = .ok (.ireturn, 1) := by decide +kernel
theorem dX11_village_0 : decode cX11_village 0 = .ok (.aload_n 0, 1) := by decide +kernel
theorem dX11_village_1 : decode cX11_village 1 = .ok (.getfield 41, 3) := by decide +kernel
theorem dX11_village_4 : decode cX11_village 4 = .ok (.iload_n 1, 1) := by decide +kernel
theorem dX11_village_5 : decode cX11_village 5 = .ok (.invokevirtual 122, 3) := by decide +kernel
theorem dX11_village_8 : decode cX11_village 8 = .ok (.ifCond .eq 13, 3) := by decide +kernel
theorem dX11_village_11 : decode cX11_village 11 = .ok (.iload_n 2, 1) := by decide +kernel
theorem dX11_village_12 : decode cX11_village 12 = .ok (.ifCond .lt 9, 3) := by decide +kernel
theorem dX11_village_15 : decode cX11_village 15 = .ok (.iload_n 2, 1) := by decide +kernel
theorem dX11_village_16 : decode cX11_village 16 = .ok (.bipush 6, 2) := by decide +kernel
theorem dX11_village_18 : decode cX11_village 18 = .ok (.if_icmp .lt 5, 3) := by decide +kernel
theorem dX11_village_21 : decode cX11_village 21 = .ok (.iconst 0, 1) := by decide +kernel
theorem dX11_village_22 : decode cX11_village 22 = .ok (.ireturn, 1) := by decide +kernel
theorem dX11_village_23 : decode cX11_village 23 = .ok (.iload_n 3, 1) := by decide +kernel
theorem dX11_village_24 : decode cX11_village 24 = .ok (.iconst (-1), 1) := by decide +kernel
theorem dX11_village_25 : decode cX11_village 25 = .ok (.if_icmp .eq 12, 3) := by decide +kernel
theorem dX11_village_28 : decode cX11_village 28 = .ok (.iload_n 3, 1) := by decide +kernel
theorem dX11_village_29 : decode cX11_village 29 = .ok (.invokestatic 126, 3) := by decide +kernel
theorem dX11_village_32 : decode cX11_village 32 = .ok (.ifCond .ne 5, 3) := by decide +kernel
theorem dX11_village_35 : decode cX11_village 35 = .ok (.iconst 0, 1) := by decide +kernel
theorem dX11_village_36 : decode cX11_village 36 = .ok (.ireturn, 1) := by decide +kernel
theorem dX11_village_37 : decode cX11_village 37 = .ok (.aload_n 0, 1) := by decide +kernel
theorem dX11_village_38 : decode cX11_village 38 = .ok (.getfield 41, 3) := by decide +kernel
theorem dX11_village_41 : decode cX11_village 41 = .ok (.iload_n 1, 1) := by decide +kernel
theorem dX11_village_42 : decode cX11_village 42 = .ok (.iload_n 2, 1) := by decide +kernel
theorem dX11_village_43 : decode cX11_village 43 = .ok (.iload_n 3, 1) := by decide +kernel
theorem dX11_village_44 : decode cX11_village 44 = .ok (.iload 4, 2) := by decide +kernel
theorem dX11_village_46 : decode cX11_village 46 = .ok (.invokevirtual 129, 3) := by decide +kernel
theorem dX11_village_49 : decode cX11_village 49 = .ok (.iconst 1, 1) := by decide +kernel
theorem dX11_village_50 : decode cX11_village 50 = .ok (.ireturn, 1) := by decide +kernel
theorem dX11_errs_0 : decode cX11_errs 0 = .ok (.iload_n 1, 1) := by decide +kernel
theorem dX11_errs_1 : decode cX11_errs 1 = .ok (.invokestatic 133, 3) := by decide +kernel
theorem dX11_errs_4 : decode cX11_errs 4 = .ok (.ifCond .eq 13, 3) := by decide +kernel
theorem dX11_errs_7 : decode cX11_errs 7 = .ok (.iload_n 2, 1) := by decide +kernel
theorem dX11_errs_8 : decode cX11_errs 8 = .ok (.ifCond .lt 9, 3) := by decide +kernel
theorem dX11_errs_11 : decode cX11_errs 11 = .ok (.iload_n 2, 1) := by decide +kernel
theorem dX11_errs_12 : decode cX11_errs 12 = .ok (.bipush 50, 2) := by decide +kernel
theorem dX11_errs_14 : decode cX11_errs 14 = .ok (.if_icmp .le 5, 3) := by decide +kernel
theorem dX11_errs_17 : decode cX11_errs 17 = .ok (.iconst 0, 1) := by decide +kernel
theorem dX11_errs_18 : decode cX11_errs 18 = .ok (.ireturn, 1) := by decide +kernel
theorem dX11_errs_19 : decode cX11_errs 19 = .ok (.aload_n 0, 1) := by decide +kernel
theorem dX11_errs_20 : decode cX11_errs 20 = .ok (.getfield 49, 3) := by decide +kernel
theorem dX11_errs_23 : decode cX11_errs 23 = .ok (.getfield 136, 3) := by decide +kernel
theorem dX11_errs_26 : decode cX11_errs 26 = .ok (.iload_n 1, 1) := by decide +kernel
theorem dX11_errs_27 : decode cX11_errs 27 = .ok (.iload_n 2, 1) := by decide +kernel
theorem dX11_errs_28 : decode cX11_errs 28 = .ok (.iastore, 1) := by decide +kernel
theorem dX11_errs_29 : decode cX11_errs 29 = .ok (.iconst 1, 1) := by decide +kernel
theorem dX11_errs_30 : decode cX11_errs 30 = .ok (.ireturn, 1) := by decide +kernel
theorem dX11_count_0 : decode cX11_count 0 = .ok (.iload_n 1, 1) := by decide +kernel
theorem dX11_count_1 : decode cX11_count 1 = .ok (.invokestatic 133, 3) := by decide +kernel
theorem dX11_count_4 : decode cX11_count 4 = .ok (.ifCond .eq 29, 3) := by decide +kernel
theorem dX11_count_7 : decode cX11_count 7 = .ok (.aload_n 0, 1) := by decide +kernel
theorem dX11_count_8 : decode cX11_count 8 = .ok (.getfield 41, 3) := by decide +kernel
theorem dX11_count_11 : decode cX11_count 11 = .ok (.iload_n 2, 1) := by decide +kernel
theorem dX11_count_12 : decode cX11_count 12 = .ok (.invokevirtual 122, 3) := by decide +kernel
theorem dX11_count_15 : decode cX11_count 15 = .ok (.ifCond .eq 18, 3) := by decide +kernel
theorem dX11_count_18 : decode cX11_count 18 = .ok (.iload_n 3, 1) := by decide +kernel
theorem dX11_count_19 : decode cX11_count 19 = .ok (.invokestatic 140, 3) := by decide +kernel
theorem dX11_count_22 : decode cX11_count 22 = .ok (.ifCond .eq 11, 3) := by decide +kernel
theorem dX11_count_25 : decode cX11_count 25 = .ok (.iload 4, 2) := by decide +kernel
theorem dX11_count_27 : decode cX11_count 27 = .ok (.invokestatic 140, 3) := by decide +kernel
theorem dX11_count_30 : decode cX11_count 30 = .ok (.ifCond .ne 5, 3) := by decide +kernel
theorem dX11_count_33 : decode cX11_count 33 = .ok (.iconst (-1), 1) := by decide +kernel
theorem dX11_count_34 : decode cX11_count 34 = .ok (.ireturn, 1) := by decide +kernel
theorem dX11_count_35 : decode cX11_count 35 = .ok (.aload_n 0, 1) := by decide +kernel
theorem dX11_count_36 : decode cX11_count 36 = .ok (.getfield 45, 3) := by decide +kernel
theorem dX11_count_39 : decode cX11_count 39 = .ok (.iconst 3, 1) := by decide +kernel
theorem dX11_count_40 : decode cX11_count 40 = .ok (.iload_n 1, 1) := by decide +kernel
theorem dX11_count_41 : decode cX11_count 41 = .ok (.iload_n 2, 1) := by decide +kernel
theorem dX11_count_42 : decode cX11_count 42 = .ok (.iload_n 3, 1) := by decide +kernel
theorem dX11_count_43 : decode cX11_count 43 = .ok (.iload 4, 2) := by decide +kernel
theorem dX11_count_45 : decode cX11_count 45 = .ok (.aload_n 0, 1) := by decide +kernel
theorem dX11_count_46 : decode cX11_count 46 = .ok (.getfield 18, 3) := by decide +kernel
theorem dX11_count_49 : decode cX11_count 49 = .ok (.invokevirtual 143, 3) := by decide +kernel
theorem dX11_count_52 : decode cX11_count 52 = .ok (.ireturn, 1) := by decide +kernel
theorem dX11_note_0 : decode cX11_note 0 = .ok (.iload 4, 2) := by decide +kernel
theorem dX11_note_2 : decode cX11_note 2 = .ok (.ifCond .lt 19, 3) := by decide +kernel
theorem dX11_note_5 : decode cX11_note 5 = .ok (.iload 4, 2) := by decide +kernel
theorem dX11_note_7 : decode cX11_note 7 = .ok (.aload_n 0, 1) := by decide +kernel
theorem dX11_note_8 : decode cX11_note 8 = .ok (.getfield 18, 3) := by decide +kernel
theorem dX11_note_11 : decode cX11_note 11 = .ok (.if_icmp .gt 10, 3) := by decide +kernel
theorem dX11_note_14 : decode cX11_note 14 = .ok (.iload_n 3, 1) := by decide +kernel
theorem dX11_note_15 : decode cX11_note 15 = .ok (.invokestatic 147, 3) := by decide +kernel
theorem dX11_note_18 : decode cX11_note 18 = .ok (.ifCond .ne 5, 3) := by decide +kernel
theorem dX11_note_21 : decode cX11_note 21 = .ok (.iconst (-1), 1) := by decide +kernel
theorem dX11_note_22 : decode cX11_note 22 = .ok (.ireturn, 1) := by decide +kernel
theorem dX11_note_23 : decode cX11_note 23 = .ok (.iload_n 1, 1) := by decide +kernel
theorem dX11_note_24 : decode cX11_note 24 = .ok (.tableswitch 98 0 2 #[28, 63, 85], 28) := by decide +kernel
theorem dX11_note_52 : decode cX11_note 52 = .ok (.aload_n 0, 1) := by decide +kernel
theorem dX11_note_53 : decode cX11_note 53 = .ok (.getfield 56, 3) := by decide +kernel
theorem dX11_note_56 : decode cX11_note 56 = .ok (.iload_n 2, 1) := by decide +kernel
theorem dX11_note_57 : decode cX11_note 57 = .ok (.invokevirtual 150, 3) := by decide +kernel
theorem dX11_note_60 : decode cX11_note 60 = .ok (.ifCond .eq 21, 3) := by decide +kernel
theorem dX11_note_63 : decode cX11_note 63 = .ok (.iload 4, 2) := by decide +kernel
theorem dX11_note_65 : decode cX11_note 65 = .ok (.aload_n 0, 1) := by decide +kernel
theorem dX11_note_66 : decode cX11_note 66 = .ok (.getfield 56, 3) := by decide +kernel
theorem dX11_note_69 : decode cX11_note 69 = .ok (.getfield 151, 3) := by decide +kernel
theorem dX11_note_72 : decode cX11_note 72 = .ok (.iload_n 2, 1) := by decide +kernel
theorem dX11_note_73 : decode cX11_note 73 = .ok (.iaload, 1) := by decide +kernel
theorem dX11_note_74 : decode cX11_note 74 = .ok (.if_icmp .lt 7, 3) := by decide +kernel
theorem dX11_note_77 : decode cX11_note 77 = .ok (.iconst 1, 1) := by decide +kernel
theorem dX11_note_78 : decode cX11_note 78 = .ok (.goto 4, 3) := by decide +kernel
theorem dX11_note_81 : decode cX11_note 81 = .ok (.iconst 0, 1) := by decide +kernel
theorem dX11_note_82 : decode cX11_note 82 = .ok (.istore 5, 2) := by decide +kernel
theorem dX11_note_84 : decode cX11_note 84 = .ok (.goto 41, 3) := by decide +kernel
theorem dX11_note_87 : decode cX11_note 87 = .ok (.iload_n 2, 1) := by decide +kernel
theorem dX11_note_88 : decode cX11_note 88 = .ok (.invokestatic 147, 3) := by decide +kernel
theorem dX11_note_91 : decode cX11_note 91 = .ok (.ifCond .eq 12, 3) := by decide +kernel
theorem dX11_note_94 : decode cX11_note 94 = .ok (.iload_n 2, 1) := by decide +kernel
theorem dX11_note_95 : decode cX11_note 95 = .ok (.iload_n 3, 1) := by decide +kernel
theorem dX11_note_96 : decode cX11_note 96 = .ok (.if_icmp .eq 7, 3) := by decide +kernel
theorem dX11_note_99 : decode cX11_note 99 = .ok (.iconst 1, 1) := by decide +kernel
theorem dX11_note_100 : decode cX11_note 100 = .ok (.goto 4, 3) := by decide +kernel
theorem dX11_note_103 : decode cX11_note 103 = .ok (.iconst 0, 1) := by decide +kernel
theorem dX11_note_104 : decode cX11_note 104 = .ok (.istore 5, 2) := by decide +kernel
theorem dX11_note_106 : decode cX11_note 106 = .ok (.goto 19, 3) := by decide +kernel
theorem dX11_note_109 : decode cX11_note 109 = .ok (.aload_n 0, 1) := by decide +kernel
theorem dX11_note_110 : decode cX11_note 110 = .ok (.getfield 56, 3) := by decide +kernel
theorem dX11_note_113 : decode cX11_note 113 = .ok (.iload_n 2, 1) := by decide +kernel
theorem dX11_note_114 : decode cX11_note 114 = .ok (.invokevirtual 150, 3) := by decide +kernel
theorem dX11_note_117 : decode cX11_note 117 = .ok (.istore 5, 2) := by decide +kernel
theorem dX11_note_119 : decode cX11_note 119 = .ok (.goto 6, 3) := by decide +kernel
theorem dX11_note_122 : decode cX11_note 122 = .ok (.iconst 0, 1) := by decide +kernel
theorem dX11_note_123 : decode cX11_note 123 = .ok (.istore 5, 2) := by decide +kernel
theorem dX11_note_125 : decode cX11_note 125 = .ok (.iload 5, 2) := by decide +kernel
theorem dX11_note_127 : decode cX11_note 127 = .ok (.ifCond .eq 23, 3) := by decide +kernel
theorem dX11_note_130 : decode cX11_note 130 = .ok (.aload_n 0, 1) := by decide +kernel
theorem dX11_note_131 : decode cX11_note 131 = .ok (.getfield 45, 3) := by decide +kernel
theorem dX11_note_134 : decode cX11_note 134 = .ok (.iload_n 1, 1) := by decide +kernel
theorem dX11_note_135 : decode cX11_note 135 = .ok (.iload_n 2, 1) := by decide +kernel
theorem dX11_note_136 : decode cX11_note 136 = .ok (.iload_n 3, 1) := by decide +kernel
theorem dX11_note_137 : decode cX11_note 137 = .ok (.iload 4, 2) := by decide +kernel
theorem dX11_note_139 : decode cX11_note 139 = .ok (.iconst 0, 1) := by decide +kernel
theorem dX11_note_140 : decode cX11_note 140 = .ok (.aload_n 0, 1) := by decide +kernel
theorem dX11_note_141 : decode cX11_note 141 = .ok (.getfield 18, 3) := by decide +kernel
theorem dX11_note_144 : decode cX11_note 144 = .ok (.invokevirtual 143, 3) := by decide +kernel
theorem dX11_note_147 : decode cX11_note 147 = .ok (.goto 4, 3) := by decide +kernel
theorem dX11_note_150 : decode cX11_note 150 = .ok (.iconst (-1), 1) := by decide +kernel
theorem dX11_note_151 : decode cX11_note 151 = .ok (.ireturn, 1) := by decide +kernel
theorem dX11_strike_0 : decode cX11_strike 0 = .ok (.aload_n 0, 1) := by decide +kernel
theorem dX11_strike_1 : decode cX11_strike 1 = .ok (.getfield 45, 3) := by decide +kernel
theorem dX11_strike_4 : decode cX11_strike 4 = .ok (.iload_n 1, 1) := by decide +kernel
theorem dX11_strike_5 : decode cX11_strike 5 = .ok (.invokevirtual 154, 3) := by decide +kernel
theorem dX11_strike_8 : decode cX11_strike 8 = .ok (.ifCond .ne 5, 3) := by decide +kernel
theorem dX11_strike_11 : decode cX11_strike 11 = .ok (.iconst (-1), 1) := by decide +kernel
theorem dX11_strike_12 : decode cX11_strike 12 = .ok (.ireturn, 1) := by decide +kernel
theorem dX11_strike_13 : decode cX11_strike 13 = .ok (.aload_n 0, 1) := by decide +kernel
theorem dX11_strike_14 : decode cX11_strike 14 = .ok (.getfield 45, 3) := by decide +kernel
theorem dX11_strike_17 : decode cX11_strike 17 = .ok (.iconst 4, 1) := by decide +kernel
theorem dX11_strike_18 : decode cX11_strike 18 = .ok (.iload_n 1, 1) := by decide +kernel
theorem dX11_strike_19 : decode cX11_strike 19 = .ok (.iconst 0, 1) := by decide +kernel
theorem dX11_strike_20 : decode cX11_strike 20 = .ok (.iconst 0, 1) := by decide +kernel
theorem dX11_strike_21 : decode cX11_strike 21 = .ok (.iconst 0, 1) := by decide +kernel
theorem dX11_strike_22 : decode cX11_strike 22 = .ok (.aload_n 0, 1) := by decide +kernel
theorem dX11_strike_23 : decode cX11_strike 23 = .ok (.getfield 18, 3) := by decide +kernel
theorem dX11_strike_26 : decode cX11_strike 26 = .ok (.invokevirtual 143, 3) := by decide +kernel
theorem dX11_strike_29 : decode cX11_strike 29 = .ok (.ireturn, 1) := by decide +kernel
theorem dX11_span_0 : decode cX11_span 0 = .ok (.aload_n 0, 1) := by decide +kernel
theorem dX11_span_1 : decode cX11_span 1 = .ok (.getfield 41, 3) := by decide +kernel
theorem dX11_span_4 : decode cX11_span 4 = .ok (.iload_n 1, 1) := by decide +kernel
theorem dX11_span_5 : decode cX11_span 5 = .ok (.invokevirtual 122, 3) := by decide +kernel
theorem dX11_span_8 : decode cX11_span 8 = .ok (.ifCond .eq 28, 3) := by decide +kernel
theorem dX11_span_11 : decode cX11_span 11 = .ok (.iload_n 2, 1) := by decide +kernel
theorem dX11_span_12 : decode cX11_span 12 = .ok (.invokestatic 126, 3) := by decide +kernel
theorem dX11_span_15 : decode cX11_span 15 = .ok (.ifCond .eq 21, 3) := by decide +kernel
theorem dX11_span_18 : decode cX11_span 18 = .ok (.iload_n 3, 1) := by decide +kernel
theorem dX11_span_19 : decode cX11_span 19 = .ok (.invokestatic 155, 3) := by decide +kernel
theorem dX11_span_22 : decode cX11_span 22 = .ok (.ifCond .eq 14, 3) := by decide +kernel
theorem dX11_span_25 : decode cX11_span 25 = .ok (.iload 4, 2) := by decide +kernel
theorem dX11_span_27 : decode cX11_span 27 = .ok (.ifCond .lt 9, 3) := by decide +kernel
theorem dX11_span_30 : decode cX11_span 30 = .ok (.iload 4, 2) := by decide +kernel
theorem dX11_span_32 : decode cX11_span 32 = .ok (.iconst 2, 1) := by decide +kernel
theorem dX11_span_33 : decode cX11_span 33 = .ok (.if_icmp .le 5, 3) := by decide +kernel
theorem dX11_span_36 : decode cX11_span 36 = .ok (.iconst (-1), 1) := by decide +kernel
theorem dX11_span_37 : decode cX11_span 37 = .ok (.ireturn, 1) := by decide +kernel
theorem dX11_span_38 : decode cX11_span 38 = .ok (.aload_n 0, 1) := by decide +kernel
theorem dX11_span_39 : decode cX11_span 39 = .ok (.getfield 49, 3) := by decide +kernel
theorem dX11_span_42 : decode cX11_span 42 = .ok (.iload_n 3, 1) := by decide +kernel
theorem dX11_span_43 : decode cX11_span 43 = .ok (.invokevirtual 158, 3) := by decide +kernel
theorem dX11_span_46 : decode cX11_span 46 = .ok (.iload 4, 2) := by decide +kernel
theorem dX11_span_48 : decode cX11_span 48 = .ok (.iconst 2, 1) := by decide +kernel
theorem dX11_span_49 : decode cX11_span 49 = .ok (.if_icmp .ne 15, 3) := by decide +kernel
theorem dX11_span_52 : decode cX11_span 52 = .ok (.aload_n 0, 1) := by decide +kernel
theorem dX11_span_53 : decode cX11_span 53 = .ok (.getfield 49, 3) := by decide +kernel
theorem dX11_span_56 : decode cX11_span 56 = .ok (.getfield 161, 3) := by decide +kernel
theorem dX11_span_59 : decode cX11_span 59 = .ok (.iload_n 2, 1) := by decide +kernel
theorem dX11_span_60 : decode cX11_span 60 = .ok (.aaload, 1) := by decide +kernel
theorem dX11_span_61 : decode cX11_span 61 = .ok (.iload_n 1, 1) := by decide +kernel
theorem dX11_span_62 : decode cX11_span 62 = .ok (.iaload, 1) := by decide +kernel
theorem dX11_span_63 : decode cX11_span 63 = .ok (.ireturn, 1) := by decide +kernel
theorem dX11_span_64 : decode cX11_span 64 = .ok (.aload_n 0, 1) := by decide +kernel
theorem dX11_span_65 : decode cX11_span 65 = .ok (.getfield 49, 3) := by decide +kernel
theorem dX11_span_68 : decode cX11_span 68 = .ok (.getfield 165, 3) := by decide +kernel
theorem dX11_span_71 : decode cX11_span 71 = .ok (.iload_n 2, 1) := by decide +kernel
theorem dX11_span_72 : decode cX11_span 72 = .ok (.aaload, 1) := by decide +kernel
theorem dX11_span_73 : decode cX11_span 73 = .ok (.iload_n 1, 1) := by decide +kernel
theorem dX11_span_74 : decode cX11_span 74 = .ok (.iaload, 1) := by decide +kernel
theorem dX11_span_75 : decode cX11_span 75 = .ok (.istore 5, 2) := by decide +kernel
theorem dX11_span_77 : decode cX11_span 77 = .ok (.aload_n 0, 1) := by decide +kernel
theorem dX11_span_78 : decode cX11_span 78 = .ok (.getfield 49, 3) := by decide +kernel
theorem dX11_span_81 : decode cX11_span 81 = .ok (.getfield 168, 3) := by decide +kernel
theorem dX11_span_84 : decode cX11_span 84 = .ok (.iload_n 2, 1) := by decide +kernel
theorem dX11_span_85 : decode cX11_span 85 = .ok (.aaload, 1) := by decide +kernel
theorem dX11_span_86 : decode cX11_span 86 = .ok (.iload_n 1, 1) := by decide +kernel
theorem dX11_span_87 : decode cX11_span 87 = .ok (.iaload, 1) := by decide +kernel
theorem dX11_span_88 : decode cX11_span 88 = .ok (.istore 6, 2) := by decide +kernel
theorem dX11_span_90 : decode cX11_span 90 = .ok (.iload 5, 2) := by decide +kernel
theorem dX11_span_92 : decode cX11_span 92 = .ok (.iload 6, 2) := by decide +kernel
theorem dX11_span_94 : decode cX11_span 94 = .ok (.if_icmp .le 6, 3) := by decide +kernel
theorem dX11_span_97 : decode cX11_span 97 = .ok (.bipush (-2), 2) := by decide +kernel
theorem dX11_span_99 : decode cX11_span 99 = .ok (.ireturn, 1) := by decide +kernel
theorem dX11_span_100 : decode cX11_span 100 = .ok (.iload 4, 2) := by decide +kernel
theorem dX11_span_102 : decode cX11_span 102 = .ok (.ifCond .ne 8, 3) := by decide +kernel
theorem dX11_span_105 : decode cX11_span 105 = .ok (.iload 5, 2) := by decide +kernel
theorem dX11_span_107 : decode cX11_span 107 = .ok (.goto 5, 3) := by decide +kernel
theorem dX11_span_110 : decode cX11_span 110 = .ok (.iload 6, 2) := by decide +kernel
theorem dX11_span_112 : decode cX11_span 112 = .ok (.ireturn, 1) := by decide +kernel
theorem dX11_canal_0 : decode cX11_canal 0 = .ok (.aload_n 0, 1) := by decide +kernel
theorem dX11_canal_1 : decode cX11_canal 1 = .ok (.getfield 41, 3) := by decide +kernel
theorem dX11_canal_4 : decode cX11_canal 4 = .ok (.iload_n 1, 1) := by decide +kernel
theorem dX11_canal_5 : decode cX11_canal 5 = .ok (.invokevirtual 122, 3) := by decide +kernel
theorem dX11_canal_8 : decode cX11_canal 8 = .ok (.ifCond .eq 14, 3) := by decide +kernel
theorem dX11_canal_11 : decode cX11_canal 11 = .ok (.aload_n 0, 1) := by decide +kernel
theorem dX11_canal_12 : decode cX11_canal 12 = .ok (.getfield 41, 3) := by decide +kernel
theorem dX11_canal_15 : decode cX11_canal 15 = .ok (.iload_n 1, 1) := by decide +kernel
theorem dX11_canal_16 : decode cX11_canal 16 = .ok (.invokevirtual 171, 3) := by decide +kernel
theorem dX11_canal_19 : decode cX11_canal 19 = .ok (.goto 4, 3) := by decide +kernel
theorem dX11_canal_22 : decode cX11_canal 22 = .ok (.iconst (-1), 1) := by decide +kernel
theorem dX11_canal_23 : decode cX11_canal 23 = .ok (.ireturn, 1) := by decide +kernel
theorem dX11_drinks_0 : decode cX11_drinks 0 = .ok (.iload_n 1, 1) := by decide +kernel
theorem dX11_drinks_1 : decode cX11_drinks 1 = .ok (.ifCond .lt 25, 3) := by decide +kernel
theorem dX11_drinks_4 : decode cX11_drinks 4 = .ok (.iload_n 1, 1) := by decide +kernel
theorem dX11_drinks_5 : decode cX11_drinks 5 = .ok (.aload_n 0, 1) := by decide +kernel
theorem dX11_drinks_6 : decode cX11_drinks 6 = .ok (.getfield 41, 3) := by decide +kernel
theorem dX11_drinks_9 : decode cX11_drinks 9 = .ok (.getfield 175, 3) := by decide +kernel
theorem dX11_drinks_12 : decode cX11_drinks 12 = .ok (.if_icmp .ge 14, 3) := by decide +kernel
theorem dX11_drinks_15 : decode cX11_drinks 15 = .ok (.aload_n 0, 1) := by decide +kernel
theorem dX11_drinks_16 : decode cX11_drinks 16 = .ok (.getfield 41, 3) := by decide +kernel
theorem dX11_drinks_19 : decode cX11_drinks 19 = .ok (.iload_n 2, 1) := by decide +kernel
theorem dX11_drinks_20 : decode cX11_drinks 20 = .ok (.invokevirtual 122, 3) := by decide +kernel
theorem dX11_drinks_23 : decode cX11_drinks 23 = .ok (.ifCond .ne 5, 3) := by decide +kernel
theorem dX11_drinks_26 : decode cX11_drinks 26 = .ok (.iconst (-1), 1) := by decide +kernel
theorem dX11_drinks_27 : decode cX11_drinks 27 = .ok (.ireturn, 1) := by decide +kernel
theorem dX11_drinks_28 : decode cX11_drinks 28 = .ok (.aload_n 0, 1) := by decide +kernel
theorem dX11_drinks_29 : decode cX11_drinks 29 = .ok (.getfield 41, 3) := by decide +kernel
theorem dX11_drinks_32 : decode cX11_drinks 32 = .ok (.iload_n 1, 1) := by decide +kernel
theorem dX11_drinks_33 : decode cX11_drinks 33 = .ok (.iload_n 2, 1) := by decide +kernel
theorem dX11_drinks_34 : decode cX11_drinks 34 = .ok (.invokevirtual 178, 3) := by decide +kernel
theorem dX11_drinks_37 : decode cX11_drinks 37 = .ok (.ireturn, 1) := by decide +kernel
theorem dX11_given_0 : decode cX11_given 0 = .ok (.iload_n 1, 1) := by decide +kernel
theorem dX11_given_1 : decode cX11_given 1 = .ok (.invokestatic 155, 3) := by decide +kernel
theorem dX11_given_4 : decode cX11_given 4 = .ok (.ifCond .ne 5, 3) := by decide +kernel
theorem dX11_given_7 : decode cX11_given 7 = .ok (.iconst (-1), 1) := by decide +kernel
theorem dX11_given_8 : decode cX11_given 8 = .ok (.ireturn, 1) := by decide +kernel
theorem dX11_given_9 : decode cX11_given 9 = .ok (.aload_n 0, 1) := by decide +kernel
theorem dX11_given_10 : decode cX11_given 10 = .ok (.getfield 49, 3) := by decide +kernel
theorem dX11_given_13 : decode cX11_given 13 = .ok (.iload_n 1, 1) := by decide +kernel
theorem dX11_given_14 : decode cX11_given 14 = .ok (.invokevirtual 158, 3) := by decide +kernel
theorem dX11_given_17 : decode cX11_given 17 = .ok (.aload_n 0, 1) := by decide +kernel
theorem dX11_given_18 : decode cX11_given 18 = .ok (.getfield 65, 3) := by decide +kernel
theorem dX11_given_21 : decode cX11_given 21 = .ok (.aload_n 0, 1) := by decide +kernel
theorem dX11_given_22 : decode cX11_given 22 = .ok (.getfield 34, 3) := by decide +kernel
theorem dX11_given_25 : decode cX11_given 25 = .ok (.aload_n 0, 1) := by decide +kernel
theorem dX11_given_26 : decode cX11_given 26 = .ok (.getfield 34, 3) := by decide +kernel
theorem dX11_given_29 : decode cX11_given 29 = .ok (.getfield 182, 3) := by decide +kernel
theorem dX11_given_32 : decode cX11_given 32 = .ok (.invokevirtual 185, 3) := by decide +kernel
theorem dX11_given_35 : decode cX11_given 35 = .ok (.ireturn, 1) := by decide +kernel
theorem dX11_turned_0 : decode cX11_turned 0 = .ok (.iload_n 1, 1) := by decide +kernel
theorem dX11_turned_1 : decode cX11_turned 1 = .ok (.ifCond .lt 15, 3) := by decide +kernel
theorem dX11_turned_4 : decode cX11_turned 4 = .ok (.iload_n 1, 1) := by decide +kernel
theorem dX11_turned_5 : decode cX11_turned 5 = .ok (.iconst 2, 1) := by decide +kernel
theorem dX11_turned_6 : decode cX11_turned 6 = .ok (.if_icmp .gt 10, 3) := by decide +kernel
theorem dX11_turned_9 : decode cX11_turned 9 = .ok (.iload_n 2, 1) := by decide +kernel
theorem dX11_turned_10 : decode cX11_turned 10 = .ok (.invokestatic 155, 3) := by decide +kernel
theorem dX11_turned_13 : decode cX11_turned 13 = .ok (.ifCond .ne 5, 3) := by decide +kernel
theorem dX11_turned_16 : decode cX11_turned 16 = .ok (.iconst (-1), 1) := by decide +kernel
theorem dX11_turned_17 : decode cX11_turned 17 = .ok (.ireturn, 1) := by decide +kernel
theorem dX11_turned_18 : decode cX11_turned 18 = .ok (.aload_n 0, 1) := by decide +kernel
theorem dX11_turned_19 : decode cX11_turned 19 = .ok (.getfield 49, 3) := by decide +kernel
theorem dX11_turned_22 : decode cX11_turned 22 = .ok (.iload_n 2, 1) := by decide +kernel
theorem dX11_turned_23 : decode cX11_turned 23 = .ok (.invokevirtual 158, 3) := by decide +kernel
theorem dX11_turned_26 : decode cX11_turned 26 = .ok (.aload_n 0, 1) := by decide +kernel
theorem dX11_turned_27 : decode cX11_turned 27 = .ok (.getfield 65, 3) := by decide +kernel
theorem dX11_turned_30 : decode cX11_turned 30 = .ok (.aload_n 0, 1) := by decide +kernel
theorem dX11_turned_31 : decode cX11_turned 31 = .ok (.getfield 34, 3) := by decide +kernel
theorem dX11_turned_34 : decode cX11_turned 34 = .ok (.iload_n 1, 1) := by decide +kernel
theorem dX11_turned_35 : decode cX11_turned 35 = .ok (.invokevirtual 185, 3) := by decide +kernel
theorem dX11_turned_38 : decode cX11_turned 38 = .ok (.aload_n 0, 1) := by decide +kernel
theorem dX11_turned_39 : decode cX11_turned 39 = .ok (.getfield 65, 3) := by decide +kernel
theorem dX11_turned_42 : decode cX11_turned 42 = .ok (.aload_n 0, 1) := by decide +kernel
theorem dX11_turned_43 : decode cX11_turned 43 = .ok (.getfield 34, 3) := by decide +kernel
theorem dX11_turned_46 : decode cX11_turned 46 = .ok (.aload_n 0, 1) := by decide +kernel
theorem dX11_turned_47 : decode cX11_turned 47 = .ok (.getfield 34, 3) := by decide +kernel
theorem dX11_turned_50 : decode cX11_turned 50 = .ok (.getfield 182, 3) := by decide +kernel
theorem dX11_turned_53 : decode cX11_turned 53 = .ok (.invokevirtual 185, 3) := by decide +kernel
theorem dX11_turned_56 : decode cX11_turned 56 = .ok (.ixor, 1) := by decide +kernel
theorem dX11_turned_57 : decode cX11_turned 57 = .ok (.invokestatic 189, 3) := by decide +kernel
theorem dX11_turned_60 : decode cX11_turned 60 = .ok (.ireturn, 1) := by decide +kernel
theorem dX11_draft_0 : decode cX11_draft 0 = .ok (.aload_n 0, 1) := by decide +kernel
theorem dX11_draft_1 : decode cX11_draft 1 = .ok (.getfield 41, 3) := by decide +kernel
theorem dX11_draft_4 : decode cX11_draft 4 = .ok (.iload_n 1, 1) := by decide +kernel
theorem dX11_draft_5 : decode cX11_draft 5 = .ok (.invokevirtual 194, 3) := by decide +kernel
theorem dX11_draft_8 : decode cX11_draft 8 = .ok (.ifCond .eq 18, 3) := by decide +kernel
theorem dX11_draft_11 : decode cX11_draft 11 = .ok (.aload_n 0, 1) := by decide +kernel
theorem dX11_draft_12 : decode cX11_draft 12 = .ok (.getfield 56, 3) := by decide +kernel
theorem dX11_draft_15 : decode cX11_draft 15 = .ok (.iload_n 1, 1) := by decide +kernel
theorem dX11_draft_16 : decode cX11_draft 16 = .ok (.aload_n 0, 1) := by decide +kernel
theorem dX11_draft_17 : decode cX11_draft 17 = .ok (.getfield 18, 3) := by decide +kernel
theorem dX11_draft_20 : decode cX11_draft 20 = .ok (.invokevirtual 197, 3) := by decide +kernel
theorem dX11_draft_23 : decode cX11_draft 23 = .ok (.goto 4, 3) := by decide +kernel
theorem dX11_draft_26 : decode cX11_draft 26 = .ok (.iconst (-1), 1) := by decide +kernel
theorem dX11_draft_27 : decode cX11_draft 27 = .ok (.ireturn, 1) := by decide +kernel
theorem dX11_look_0 : decode cX11_look 0 = .ok (.aload_n 0, 1) := by decide +kernel
theorem dX11_look_1 : decode cX11_look 1 = .ok (.getfield 56, 3) := by decide +kernel
theorem dX11_look_4 : decode cX11_look 4 = .ok (.iload_n 1, 1) := by decide +kernel
theorem dX11_look_5 : decode cX11_look 5 = .ok (.invokevirtual 150, 3) := by decide +kernel
theorem dX11_look_8 : decode cX11_look 8 = .ok (.ifCond .ne 13, 3) := by decide +kernel
theorem dX11_look_11 : decode cX11_look 11 = .ok (.new 199, 3) := by decide +kernel
theorem dX11_look_14 : decode cX11_look 14 = .ok (.dup, 1) := by decide +kernel
theorem dX11_look_15 : decode cX11_look 15 = .ok (.ldc 201, 2) := by decide +kernel
theorem dX11_look_17 : decode cX11_look 17 = .ok (.invokespecial 203, 3) := by decide +kernel
theorem dX11_look_20 : decode cX11_look 20 = .ok (.athrow, 1) := by decide +kernel
theorem dX11_look_21 : decode cX11_look 21 = .ok (.iload_n 2, 1) := by decide +kernel
theorem dX11_look_22 : decode cX11_look 22 = .ok (.lookupswitch 46 #[(0, 26), (1, 36)], 26) := by decide +kernel
theorem dX11_look_48 : decode cX11_look 48 = .ok (.aload_n 0, 1) := by decide +kernel
theorem dX11_look_49 : decode cX11_look 49 = .ok (.getfield 56, 3) := by decide +kernel
theorem dX11_look_52 : decode cX11_look 52 = .ok (.getfield 206, 3) := by decide +kernel
theorem dX11_look_55 : decode cX11_look 55 = .ok (.iload_n 1, 1) := by decide +kernel
theorem dX11_look_56 : decode cX11_look 56 = .ok (.iaload, 1) := by decide +kernel
theorem dX11_look_57 : decode cX11_look 57 = .ok (.ireturn, 1) := by decide +kernel
theorem dX11_look_58 : decode cX11_look 58 = .ok (.aload_n 0, 1) := by decide +kernel
theorem dX11_look_59 : decode cX11_look 59 = .ok (.getfield 56, 3) := by decide +kernel
theorem dX11_look_62 : decode cX11_look 62 = .ok (.getfield 151, 3) := by decide +kernel
theorem dX11_look_65 : decode cX11_look 65 = .ok (.iload_n 1, 1) := by decide +kernel
theorem dX11_look_66 : decode cX11_look 66 = .ok (.iaload, 1) := by decide +kernel
theorem dX11_look_67 : decode cX11_look 67 = .ok (.ireturn, 1) := by decide +kernel
theorem dX11_look_68 : decode cX11_look 68 = .ok (.new 209, 3) := by decide +kernel
theorem dX11_look_71 : decode cX11_look 71 = .ok (.dup, 1) := by decide +kernel
theorem dX11_look_72 : decode cX11_look 72 = .ok (.ldc 211, 2) := by decide +kernel
theorem dX11_look_74 : decode cX11_look 74 = .ok (.invokespecial 213, 3) := by decide +kernel
theorem dX11_look_77 : decode cX11_look 77 = .ok (.athrow, 1) := by decide +kernel
theorem dX11_does_0 : decode cX11_does 0 = .ok (.aload_n 0, 1) := by decide +kernel
theorem dX11_does_1 : decode cX11_does 1 = .ok (.getfield 41, 3) := by decide +kernel
theorem dX11_does_4 : decode cX11_does 4 = .ok (.iload_n 1, 1) := by decide +kernel
theorem dX11_does_5 : decode cX11_does 5 = .ok (.invokevirtual 194, 3) := by decide +kernel
theorem dX11_does_8 : decode cX11_does 8 = .ok (.ifCond .eq 10, 3) := by decide +kernel
theorem dX11_does_11 : decode cX11_does 11 = .ok (.iload_n 2, 1) := by decide +kernel
theorem dX11_does_12 : decode cX11_does 12 = .ok (.invokestatic 155, 3) := by decide +kernel
theorem dX11_does_15 : decode cX11_does 15 = .ok (.ifCond .ne 5, 3) := by decide +kernel
theorem dX11_does_18 : decode cX11_does 18 = .ok (.iconst (-1), 1) := by decide +kernel
theorem dX11_does_19 : decode cX11_does 19 = .ok (.ireturn, 1) := by decide +kernel
theorem dX11_does_20 : decode cX11_does 20 = .ok (.aload_n 0, 1) := by decide +kernel
theorem dX11_does_21 : decode cX11_does 21 = .ok (.getfield 49, 3) := by decide +kernel
theorem dX11_does_24 : decode cX11_does 24 = .ok (.iload_n 2, 1) := by decide +kernel
theorem dX11_does_25 : decode cX11_does 25 = .ok (.invokevirtual 158, 3) := by decide +kernel
theorem dX11_does_28 : decode cX11_does 28 = .ok (.iload_n 3, 1) := by decide +kernel
theorem dX11_does_29 : decode cX11_does 29 = .ok (.tableswitch 120 0 6 #[43, 52, 61, 80, 89, 98, 107], 43) := by decide +kernel
theorem dX11_does_72 : decode cX11_does 72 = .ok (.aload_n 0, 1) := by decide +kernel
theorem dX11_does_73 : decode cX11_does 73 = .ok (.getfield 72, 3) := by decide +kernel
theorem dX11_does_76 : decode cX11_does 76 = .ok (.iload_n 1, 1) := by decide +kernel
theorem dX11_does_77 : decode cX11_does 77 = .ok (.invokevirtual 214, 3) := by decide +kernel
theorem dX11_does_80 : decode cX11_does 80 = .ok (.ireturn, 1) := by decide +kernel
theorem dX11_does_81 : decode cX11_does 81 = .ok (.aload_n 0, 1) := by decide +kernel
theorem dX11_does_82 : decode cX11_does 82 = .ok (.getfield 41, 3) := by decide +kernel
theorem dX11_does_85 : decode cX11_does 85 = .ok (.iload_n 1, 1) := by decide +kernel
theorem dX11_does_86 : decode cX11_does 86 = .ok (.invokevirtual 217, 3) := by decide +kernel
theorem dX11_does_89 : decode cX11_does 89 = .ok (.ireturn, 1) := by decide +kernel
theorem dX11_does_90 : decode cX11_does 90 = .ok (.aload_n 0, 1) := by decide +kernel
theorem dX11_does_91 : decode cX11_does 91 = .ok (.getfield 41, 3) := by decide +kernel
theorem dX11_does_94 : decode cX11_does 94 = .ok (.aload_n 0, 1) := by decide +kernel
theorem dX11_does_95 : decode cX11_does 95 = .ok (.getfield 41, 3) := by decide +kernel
theorem dX11_does_98 : decode cX11_does 98 = .ok (.getfield 220, 3) := by decide +kernel
theorem dX11_does_101 : decode cX11_does 101 = .ok (.iload_n 1, 1) := by decide +kernel
theorem dX11_does_102 : decode cX11_does 102 = .ok (.iconst (-1), 1) := by decide +kernel
theorem dX11_does_103 : decode cX11_does 103 = .ok (.ixor, 1) := by decide +kernel
theorem dX11_does_104 : decode cX11_does 104 = .ok (.iand, 1) := by decide +kernel
theorem dX11_does_105 : decode cX11_does 105 = .ok (.invokevirtual 217, 3) := by decide +kernel
theorem dX11_does_108 : decode cX11_does 108 = .ok (.ireturn, 1) := by decide +kernel
theorem dX11_does_109 : decode cX11_does 109 = .ok (.aload_n 0, 1) := by decide +kernel
theorem dX11_does_110 : decode cX11_does 110 = .ok (.getfield 41, 3) := by decide +kernel
theorem dX11_does_113 : decode cX11_does 113 = .ok (.iload_n 1, 1) := by decide +kernel
theorem dX11_does_114 : decode cX11_does 114 = .ok (.invokevirtual 223, 3) := by decide +kernel
theorem dX11_does_117 : decode cX11_does 117 = .ok (.ireturn, 1) := by decide +kernel
theorem dX11_does_118 : decode cX11_does 118 = .ok (.aload_n 0, 1) := by decide +kernel
theorem dX11_does_119 : decode cX11_does 119 = .ok (.getfield 41, 3) := by decide +kernel
theorem dX11_does_122 : decode cX11_does 122 = .ok (.iload_n 1, 1) := by decide +kernel
theorem dX11_does_123 : decode cX11_does 123 = .ok (.invokevirtual 226, 3) := by decide +kernel
theorem dX11_does_126 : decode cX11_does 126 = .ok (.ireturn, 1) := by decide +kernel
theorem dX11_does_127 : decode cX11_does 127 = .ok (.aload_n 0, 1) := by decide +kernel
theorem dX11_does_128 : decode cX11_does 128 = .ok (.getfield 41, 3) := by decide +kernel
theorem dX11_does_131 : decode cX11_does 131 = .ok (.iload_n 1, 1) := by decide +kernel
theorem dX11_does_132 : decode cX11_does 132 = .ok (.invokevirtual 229, 3) := by decide +kernel
theorem dX11_does_135 : decode cX11_does 135 = .ok (.ireturn, 1) := by decide +kernel
theorem dX11_does_136 : decode cX11_does 136 = .ok (.aload_n 0, 1) := by decide +kernel
theorem dX11_does_137 : decode cX11_does 137 = .ok (.getfield 72, 3) := by decide +kernel
theorem dX11_does_140 : decode cX11_does 140 = .ok (.iload_n 1, 1) := by decide +kernel
theorem dX11_does_141 : decode cX11_does 141 = .ok (.aload_n 0, 1) := by decide +kernel
theorem dX11_does_142 : decode cX11_does 142 = .ok (.getfield 34, 3) := by decide +kernel
theorem dX11_does_145 : decode cX11_does 145 = .ok (.invokevirtual 232, 3) := by decide +kernel
theorem dX11_does_148 : decode cX11_does 148 = .ok (.ireturn, 1) := by decide +kernel
theorem dX11_does_149 : decode cX11_does 149 = .ok (.iconst (-1), 1) := by decide +kernel
theorem dX11_does_150 : decode cX11_does 150 = .ok (.ireturn, 1) := by decide +kernel
theorem dX11_best_0 : decode cX11_best 0 = .ok (.iload_n 1, 1) := by decide +kernel
theorem dX11_best_1 : decode cX11_best 1 = .ok (.invokestatic 155, 3) := by decide +kernel
theorem dX11_best_4 : decode cX11_best 4 = .ok (.ifCond .eq 24, 3) := by decide +kernel
theorem dX11_best_7 : decode cX11_best 7 = .ok (.iload_n 2, 1) := by decide +kernel
theorem dX11_best_8 : decode cX11_best 8 = .ok (.ifCond .lt 20, 3) := by decide +kernel
theorem dX11_best_11 : decode cX11_best 11 = .ok (.iload_n 2, 1) := by decide +kernel
theorem dX11_best_12 : decode cX11_best 12 = .ok (.iconst 1, 1) := by decide +kernel
theorem dX11_best_13 : decode cX11_best 13 = .ok (.if_icmp .gt 15, 3) := by decide +kernel
theorem dX11_best_16 : decode cX11_best 16 = .ok (.aload_n 0, 1) := by decide +kernel
theorem dX11_best_17 : decode cX11_best 17 = .ok (.getfield 41, 3) := by decide +kernel
theorem dX11_best_20 : decode cX11_best 20 = .ok (.getfield 235, 3) := by decide +kernel
theorem dX11_best_23 : decode cX11_best 23 = .ok (.bipush 16, 2) := by decide +kernel
theorem dX11_best_25 : decode cX11_best 25 = .ok (.if_icmp .le 5, 3) := by decide +kernel
theorem dX11_best_28 : decode cX11_best 28 = .ok (.iconst (-1), 1) := by decide +kernel
theorem dX11_best_29 : decode cX11_best 29 = .ok (.ireturn, 1) := by decide +kernel
theorem dX11_best_30 : decode cX11_best 30 = .ok (.aload_n 0, 1) := by decide +kernel
theorem dX11_best_31 : decode cX11_best 31 = .ok (.getfield 49, 3) := by decide +kernel
theorem dX11_best_34 : decode cX11_best 34 = .ok (.iload_n 1, 1) := by decide +kernel
theorem dX11_best_35 : decode cX11_best 35 = .ok (.invokevirtual 158, 3) := by decide +kernel
theorem dX11_best_38 : decode cX11_best 38 = .ok (.aload_n 0, 1) := by decide +kernel
theorem dX11_best_39 : decode cX11_best 39 = .ok (.getfield 72, 3) := by decide +kernel
theorem dX11_best_42 : decode cX11_best 42 = .ok (.aload_n 0, 1) := by decide +kernel
theorem dX11_best_43 : decode cX11_best 43 = .ok (.getfield 34, 3) := by decide +kernel
theorem dX11_best_46 : decode cX11_best 46 = .ok (.invokevirtual 238, 3) := by decide +kernel
theorem dX11_best_49 : decode cX11_best 49 = .ok (.iload_n 2, 1) := by decide +kernel
theorem dX11_best_50 : decode cX11_best 50 = .ok (.ifCond .ne 13, 3) := by decide +kernel
theorem dX11_best_53 : decode cX11_best 53 = .ok (.aload_n 0, 1) := by decide +kernel
theorem dX11_best_54 : decode cX11_best 54 = .ok (.getfield 72, 3) := by decide +kernel
theorem dX11_best_57 : decode cX11_best 57 = .ok (.getfield 242, 3) := by decide +kernel
theorem dX11_best_60 : decode cX11_best 60 = .ok (.goto 10, 3) := by decide +kernel
theorem dX11_best_63 : decode cX11_best 63 = .ok (.aload_n 0, 1) := by decide +kernel
theorem dX11_best_64 : decode cX11_best 64 = .ok (.getfield 72, 3) := by decide +kernel
theorem dX11_best_67 : decode cX11_best 67 = .ok (.getfield 245, 3) := by decide +kernel
theorem dX11_best_70 : decode cX11_best 70 = .ok (.ireturn, 1) := by decide +kernel
theorem dX11_weights_0 : decode cX11_weights 0 = .ok (.aload_n 0, 1) := by decide +kernel
theorem dX11_weights_1 : decode cX11_weights 1 = .ok (.getfield 41, 3) := by decide +kernel
theorem dX11_weights_4 : decode cX11_weights 4 = .ok (.iload_n 1, 1) := by decide +kernel
theorem dX11_weights_5 : decode cX11_weights 5 = .ok (.invokevirtual 194, 3) := by decide +kernel
theorem dX11_weights_8 : decode cX11_weights 8 = .ok (.ifCond .eq 10, 3) := by decide +kernel
theorem dX11_weights_11 : decode cX11_weights 11 = .ok (.iload_n 2, 1) := by decide +kernel
theorem dX11_weights_12 : decode cX11_weights 12 = .ok (.invokestatic 155, 3) := by decide +kernel
theorem dX11_weights_15 : decode cX11_weights 15 = .ok (.ifCond .ne 5, 3) := by decide +kernel
theorem dX11_weights_18 : decode cX11_weights 18 = .ok (.iconst (-1), 1) := by decide +kernel
theorem dX11_weights_19 : decode cX11_weights 19 = .ok (.ireturn, 1) := by decide +kernel
theorem dX11_weights_20 : decode cX11_weights 20 = .ok (.aload_n 0, 1) := by decide +kernel
theorem dX11_weights_21 : decode cX11_weights 21 = .ok (.getfield 49, 3) := by decide +kernel
theorem dX11_weights_24 : decode cX11_weights 24 = .ok (.iload_n 2, 1) := by decide +kernel
theorem dX11_weights_25 : decode cX11_weights 25 = .ok (.invokevirtual 158, 3) := by decide +kernel
theorem dX11_weights_28 : decode cX11_weights 28 = .ok (.aload_n 0, 1) := by decide +kernel
theorem dX11_weights_29 : decode cX11_weights 29 = .ok (.getfield 72, 3) := by decide +kernel
theorem dX11_weights_32 : decode cX11_weights 32 = .ok (.iload_n 1, 1) := by decide +kernel
theorem dX11_weights_33 : decode cX11_weights 33 = .ok (.invokevirtual 248, 3) := by decide +kernel
theorem dX11_weights_36 : decode cX11_weights 36 = .ok (.ireturn, 1) := by decide +kernel
theorem dX11_knows_0 : decode cX11_knows 0 = .ok (.iload_n 1, 1) := by decide +kernel
theorem dX11_knows_1 : decode cX11_knows 1 = .ok (.invokestatic 147, 3) := by decide +kernel
theorem dX11_knows_4 : decode cX11_knows 4 = .ok (.ifCond .eq 21, 3) := by decide +kernel
theorem dX11_knows_7 : decode cX11_knows 7 = .ok (.aload_n 0, 1) := by decide +kernel
theorem dX11_knows_8 : decode cX11_knows 8 = .ok (.getfield 56, 3) := by decide +kernel
theorem dX11_knows_11 : decode cX11_knows 11 = .ok (.iload_n 2, 1) := by decide +kernel
theorem dX11_knows_12 : decode cX11_knows 12 = .ok (.invokevirtual 150, 3) := by decide +kernel
theorem dX11_knows_15 : decode cX11_knows 15 = .ok (.ifCond .eq 10, 3) := by decide +kernel
theorem dX11_knows_18 : decode cX11_knows 18 = .ok (.iload_n 3, 1) := by decide +kernel
theorem dX11_knows_19 : decode cX11_knows 19 = .ok (.invokestatic 155, 3) := by decide +kernel
theorem dX11_knows_22 : decode cX11_knows 22 = .ok (.ifCond .ne 5, 3) := by decide +kernel
theorem dX11_knows_25 : decode cX11_knows 25 = .ok (.iconst (-1), 1) := by decide +kernel
theorem dX11_knows_26 : decode cX11_knows 26 = .ok (.ireturn, 1) := by decide +kernel
theorem dX11_knows_27 : decode cX11_knows 27 = .ok (.aload_n 0, 1) := by decide +kernel
theorem dX11_knows_28 : decode cX11_knows 28 = .ok (.getfield 45, 3) := by decide +kernel
theorem dX11_knows_31 : decode cX11_knows 31 = .ok (.iload_n 3, 1) := by decide +kernel
theorem dX11_knows_32 : decode cX11_knows 32 = .ok (.invokevirtual 251, 3) := by decide +kernel
theorem dX11_knows_35 : decode cX11_knows 35 = .ok (.aload_n 0, 1) := by decide +kernel
theorem dX11_knows_36 : decode cX11_knows 36 = .ok (.getfield 81, 3) := by decide +kernel
theorem dX11_knows_39 : decode cX11_knows 39 = .ok (.iload_n 2, 1) := by decide +kernel
theorem dX11_knows_40 : decode cX11_knows 40 = .ok (.iconst (-1), 1) := by decide +kernel
theorem dX11_knows_41 : decode cX11_knows 41 = .ok (.invokevirtual 254, 3) := by decide +kernel
theorem dX11_knows_44 : decode cX11_knows 44 = .ok (.aload_n 0, 1) := by decide +kernel
theorem dX11_knows_45 : decode cX11_knows 45 = .ok (.getfield 81, 3) := by decide +kernel
theorem dX11_knows_48 : decode cX11_knows 48 = .ok (.getfield 257, 3) := by decide +kernel
theorem dX11_knows_51 : decode cX11_knows 51 = .ok (.iload_n 1, 1) := by decide +kernel
theorem dX11_knows_52 : decode cX11_knows 52 = .ok (.iaload, 1) := by decide +kernel
theorem dX11_knows_53 : decode cX11_knows 53 = .ok (.sipush 1000, 3) := by decide +kernel
theorem dX11_knows_56 : decode cX11_knows 56 = .ok (.if_icmp .ne 7, 3) := by decide +kernel
theorem dX11_knows_59 : decode cX11_knows 59 = .ok (.iconst (-1), 1) := by decide +kernel
theorem dX11_knows_60 : decode cX11_knows 60 = .ok (.goto 12, 3) := by decide +kernel
theorem dX11_knows_63 : decode cX11_knows 63 = .ok (.aload_n 0, 1) := by decide +kernel
theorem dX11_knows_64 : decode cX11_knows 64 = .ok (.getfield 81, 3) := by decide +kernel
theorem dX11_knows_67 : decode cX11_knows 67 = .ok (.getfield 257, 3) := by decide +kernel
theorem dX11_knows_70 : decode cX11_knows 70 = .ok (.iload_n 1, 1) := by decide +kernel
theorem dX11_knows_71 : decode cX11_knows 71 = .ok (.iaload, 1) := by decide +kernel
theorem dX11_knows_72 : decode cX11_knows 72 = .ok (.ireturn, 1) := by decide +kernel
theorem dX11_explained_0 : decode cX11_explained 0 = .ok (.aload_n 0, 1) := by decide +kernel
theorem dX11_explained_1 : decode cX11_explained 1 = .ok (.getfield 45, 3) := by decide +kernel
theorem dX11_explained_4 : decode cX11_explained 4 = .ok (.iload_n 1, 1) := by decide +kernel
theorem dX11_explained_5 : decode cX11_explained 5 = .ok (.invokevirtual 154, 3) := by decide +kernel
theorem dX11_explained_8 : decode cX11_explained 8 = .ok (.ifCond .eq 10, 3) := by decide +kernel
theorem dX11_explained_11 : decode cX11_explained 11 = .ok (.iload_n 2, 1) := by decide +kernel
theorem dX11_explained_12 : decode cX11_explained 12 = .ok (.invokestatic 155, 3) := by decide +kernel
theorem dX11_explained_15 : decode cX11_explained 15 = .ok (.ifCond .ne 5, 3) := by decide +kernel
theorem dX11_explained_18 : decode cX11_explained 18 = .ok (.iconst (-1), 1) := by decide +kernel
theorem dX11_explained_19 : decode cX11_explained 19 = .ok (.ireturn, 1) := by decide +kernel
theorem dX11_explained_20 : decode cX11_explained 20 = .ok (.aload_n 0, 1) := by decide +kernel
theorem dX11_explained_21 : decode cX11_explained 21 = .ok (.getfield 45, 3) := by decide +kernel
theorem dX11_explained_24 : decode cX11_explained 24 = .ok (.iload_n 2, 1) := by decide +kernel
theorem dX11_explained_25 : decode cX11_explained 25 = .ok (.invokevirtual 251, 3) := by decide +kernel
theorem dX11_explained_28 : decode cX11_explained 28 = .ok (.aload_n 0, 1) := by decide +kernel
theorem dX11_explained_29 : decode cX11_explained 29 = .ok (.getfield 45, 3) := by decide +kernel
theorem dX11_explained_32 : decode cX11_explained 32 = .ok (.iload_n 1, 1) := by decide +kernel
theorem dX11_explained_33 : decode cX11_explained 33 = .ok (.iconst 2, 1) := by decide +kernel
theorem dX11_explained_34 : decode cX11_explained 34 = .ok (.invokevirtual 260, 3) := by decide +kernel
theorem dX11_explained_37 : decode cX11_explained 37 = .ok (.ifCond .ne 5, 3) := by decide +kernel
theorem dX11_explained_40 : decode cX11_explained 40 = .ok (.iconst (-1), 1) := by decide +kernel
theorem dX11_explained_41 : decode cX11_explained 41 = .ok (.ireturn, 1) := by decide +kernel
theorem dX11_explained_42 : decode cX11_explained 42 = .ok (.aload_n 0, 1) := by decide +kernel
theorem dX11_explained_43 : decode cX11_explained 43 = .ok (.getfield 81, 3) := by decide +kernel
theorem dX11_explained_46 : decode cX11_explained 46 = .ok (.iload_n 1, 1) := by decide +kernel
theorem dX11_explained_47 : decode cX11_explained 47 = .ok (.invokevirtual 264, 3) := by decide +kernel
theorem dX11_explained_50 : decode cX11_explained 50 = .ok (.ireturn, 1) := by decide +kernel
theorem dX11_through_0 : decode cX11_through 0 = .ok (.iload_n 1, 1) := by decide +kernel
theorem dX11_through_1 : decode cX11_through 1 = .ok (.invokestatic 155, 3) := by decide +kernel
theorem dX11_through_4 : decode cX11_through 4 = .ok (.ifCond .ne 5, 3) := by decide +kernel
theorem dX11_through_7 : decode cX11_through 7 = .ok (.iconst (-1), 1) := by decide +kernel
theorem dX11_through_8 : decode cX11_through 8 = .ok (.ireturn, 1) := by decide +kernel
theorem dX11_through_9 : decode cX11_through 9 = .ok (.aload_n 0, 1) := by decide +kernel
theorem dX11_through_10 : decode cX11_through 10 = .ok (.getfield 45, 3) := by decide +kernel
theorem dX11_through_13 : decode cX11_through 13 = .ok (.iload_n 1, 1) := by decide +kernel
theorem dX11_through_14 : decode cX11_through 14 = .ok (.invokevirtual 251, 3) := by decide +kernel
theorem dX11_through_17 : decode cX11_through 17 = .ok (.aload_n 0, 1) := by decide +kernel
theorem dX11_through_18 : decode cX11_through 18 = .ok (.getfield 81, 3) := by decide +kernel
theorem dX11_through_21 : decode cX11_through 21 = .ok (.invokevirtual 267, 3) := by decide +kernel
theorem dX11_through_24 : decode cX11_through 24 = .ok (.ireturn, 1) := by decide +kernel
theorem dX11_candidate_0 : decode cX11_candidate 0 = .ok (.aload_n 0, 1) := by decide +kernel
theorem dX11_candidate_1 : decode cX11_candidate 1 = .ok (.getfield 41, 3) := by decide +kernel
theorem dX11_candidate_4 : decode cX11_candidate 4 = .ok (.iload_n 1, 1) := by decide +kernel
theorem dX11_candidate_5 : decode cX11_candidate 5 = .ok (.invokevirtual 122, 3) := by decide +kernel
theorem dX11_candidate_8 : decode cX11_candidate 8 = .ok (.ifCond .eq 14, 3) := by decide +kernel
theorem dX11_candidate_11 : decode cX11_candidate 11 = .ok (.aload_n 0, 1) := by decide +kernel
theorem dX11_candidate_12 : decode cX11_candidate 12 = .ok (.getfield 88, 3) := by decide +kernel
theorem dX11_candidate_15 : decode cX11_candidate 15 = .ok (.iload_n 1, 1) := by decide +kernel
theorem dX11_candidate_16 : decode cX11_candidate 16 = .ok (.invokevirtual 271, 3) := by decide +kernel
theorem dX11_candidate_19 : decode cX11_candidate 19 = .ok (.goto 4, 3) := by decide +kernel
theorem dX11_candidate_22 : decode cX11_candidate 22 = .ok (.iconst (-1), 1) := by decide +kernel
theorem dX11_candidate_23 : decode cX11_candidate 23 = .ok (.ireturn, 1) := by decide +kernel
theorem dX11_flight_0 : decode cX11_flight 0 = .ok (.aload_n 0, 1) := by decide +kernel
theorem dX11_flight_1 : decode cX11_flight 1 = .ok (.getfield 41, 3) := by decide +kernel
theorem dX11_flight_4 : decode cX11_flight 4 = .ok (.iload_n 1, 1) := by decide +kernel
theorem dX11_flight_5 : decode cX11_flight 5 = .ok (.invokevirtual 194, 3) := by decide +kernel
theorem dX11_flight_8 : decode cX11_flight 8 = .ok (.ifCond .eq 21, 3) := by decide +kernel
theorem dX11_flight_11 : decode cX11_flight 11 = .ok (.iload_n 2, 1) := by decide +kernel
theorem dX11_flight_12 : decode cX11_flight 12 = .ok (.ifCond .lt 17, 3) := by decide +kernel
theorem dX11_flight_15 : decode cX11_flight 15 = .ok (.iload_n 2, 1) := by decide +kernel
theorem dX11_flight_16 : decode cX11_flight 16 = .ok (.bipush 20, 2) := by decide +kernel
theorem dX11_flight_18 : decode cX11_flight 18 = .ok (.if_icmp .gt 11, 3) := by decide +kernel
theorem dX11_flight_21 : decode cX11_flight 21 = .ok (.iload 4, 2) := by decide +kernel
theorem dX11_flight_23 : decode cX11_flight 23 = .ok (.invokestatic 155, 3) := by decide +kernel
theorem dX11_flight_26 : decode cX11_flight 26 = .ok (.ifCond .ne 5, 3) := by decide +kernel
theorem dX11_flight_29 : decode cX11_flight 29 = .ok (.iconst (-1), 1) := by decide +kernel
theorem dX11_flight_30 : decode cX11_flight 30 = .ok (.ireturn, 1) := by decide +kernel
theorem dX11_flight_31 : decode cX11_flight 31 = .ok (.iload 5, 2) := by decide +kernel
theorem dX11_flight_33 : decode cX11_flight 33 = .ok (.ifCond .lt 9, 3) := by decide +kernel
theorem dX11_flight_36 : decode cX11_flight 36 = .ok (.iload 5, 2) := by decide +kernel
theorem dX11_flight_38 : decode cX11_flight 38 = .ok (.iconst 2, 1) := by decide +kernel
theorem dX11_flight_39 : decode cX11_flight 39 = .ok (.if_icmp .le 5, 3) := by decide +kernel
theorem dX11_flight_42 : decode cX11_flight 42 = .ok (.iconst (-1), 1) := by decide +kernel
theorem dX11_flight_43 : decode cX11_flight 43 = .ok (.ireturn, 1) := by decide +kernel
theorem dX11_flight_44 : decode cX11_flight 44 = .ok (.aload_n 0, 1) := by decide +kernel
theorem dX11_flight_45 : decode cX11_flight 45 = .ok (.getfield 49, 3) := by decide +kernel
theorem dX11_flight_48 : decode cX11_flight 48 = .ok (.iload 4, 2) := by decide +kernel
theorem dX11_flight_50 : decode cX11_flight 50 = .ok (.invokevirtual 158, 3) := by decide +kernel
theorem dX11_flight_53 : decode cX11_flight 53 = .ok (.aload_n 0, 1) := by decide +kernel
theorem dX11_flight_54 : decode cX11_flight 54 = .ok (.getfield 88, 3) := by decide +kernel
theorem dX11_flight_57 : decode cX11_flight 57 = .ok (.aload_n 0, 1) := by decide +kernel
theorem dX11_flight_58 : decode cX11_flight 58 = .ok (.getfield 34, 3) := by decide +kernel
theorem dX11_flight_61 : decode cX11_flight 61 = .ok (.invokevirtual 274, 3) := by decide +kernel
theorem dX11_flight_64 : decode cX11_flight 64 = .ok (.aload_n 0, 1) := by decide +kernel
theorem dX11_flight_65 : decode cX11_flight 65 = .ok (.getfield 88, 3) := by decide +kernel
theorem dX11_flight_68 : decode cX11_flight 68 = .ok (.iload_n 1, 1) := by decide +kernel
theorem dX11_flight_69 : decode cX11_flight 69 = .ok (.iload_n 2, 1) := by decide +kernel
theorem dX11_flight_70 : decode cX11_flight 70 = .ok (.iload_n 3, 1) := by decide +kernel
theorem dX11_flight_71 : decode cX11_flight 71 = .ok (.invokevirtual 277, 3) := by decide +kernel
theorem dX11_flight_74 : decode cX11_flight 74 = .ok (.istore 6, 2) := by decide +kernel
theorem dX11_flight_76 : decode cX11_flight 76 = .ok (.iload 5, 2) := by decide +kernel
theorem dX11_flight_78 : decode cX11_flight 78 = .ok (.lookupswitch 37 #[(0, 26), (1, 29)], 26) := by decide +kernel
theorem dX11_flight_104 : decode cX11_flight 104 = .ok (.iload 6, 2) := by decide +kernel
theorem dX11_flight_106 : decode cX11_flight 106 = .ok (.ireturn, 1) := by decide +kernel
theorem dX11_flight_107 : decode cX11_flight 107 = .ok (.aload_n 0, 1) := by decide +kernel
theorem dX11_flight_108 : decode cX11_flight 108 = .ok (.getfield 88, 3) := by decide +kernel
theorem dX11_flight_111 : decode cX11_flight 111 = .ok (.invokevirtual 281, 3) := by decide +kernel
theorem dX11_flight_114 : decode cX11_flight 114 = .ok (.ireturn, 1) := by decide +kernel
theorem dX11_flight_115 : decode cX11_flight 115 = .ok (.aload_n 0, 1) := by decide +kernel
theorem dX11_flight_116 : decode cX11_flight 116 = .ok (.getfield 88, 3) := by decide +kernel
theorem dX11_flight_119 : decode cX11_flight 119 = .ok (.invokevirtual 284, 3) := by decide +kernel
theorem dX11_flight_122 : decode cX11_flight 122 = .ok (.ireturn, 1) := by decide +kernel
theorem dX11_guards_0 : decode cX11_guards 0 = .ok (.iload_n 1, 1) := by decide +kernel
theorem dX11_guards_1 : decode cX11_guards 1 = .ok (.ifCond .lt 26, 3) := by decide +kernel
theorem dX11_guards_4 : decode cX11_guards 4 = .ok (.iload_n 1, 1) := by decide +kernel
theorem dX11_guards_5 : decode cX11_guards 5 = .ok (.bipush 8, 2) := by decide +kernel
theorem dX11_guards_7 : decode cX11_guards 7 = .ok (.if_icmp .gt 20, 3) := by decide +kernel
theorem dX11_guards_10 : decode cX11_guards 10 = .ok (.iload_n 2, 1) := by decide +kernel
theorem dX11_guards_11 : decode cX11_guards 11 = .ok (.ifCond .le 16, 3) := by decide +kernel
theorem dX11_guards_14 : decode cX11_guards 14 = .ok (.iload_n 2, 1) := by decide +kernel
theorem dX11_guards_15 : decode cX11_guards 15 = .ok (.iconst 1, 1) := by decide +kernel
theorem dX11_guards_16 : decode cX11_guards 16 = .ok (.aload_n 0, 1) := by decide +kernel
theorem dX11_guards_17 : decode cX11_guards 17 = .ok (.getfield 56, 3) := by decide +kernel
theorem dX11_guards_20 : decode cX11_guards 20 = .ok (.getfield 118, 3) := by decide +kernel
theorem dX11_guards_23 : decode cX11_guards 23 = .ok (.ishl, 1) := by decide +kernel
theorem dX11_guards_24 : decode cX11_guards 24 = .ok (.if_icmp .lt 5, 3) := by decide +kernel
theorem dX11_guards_27 : decode cX11_guards 27 = .ok (.iconst (-1), 1) := by decide +kernel
theorem dX11_guards_28 : decode cX11_guards 28 = .ok (.ireturn, 1) := by decide +kernel
theorem dX11_guards_29 : decode cX11_guards 29 = .ok (.iload_n 3, 1) := by decide +kernel
theorem dX11_guards_30 : decode cX11_guards 30 = .ok (.iconst 1, 1) := by decide +kernel
theorem dX11_guards_31 : decode cX11_guards 31 = .ok (.if_icmp .lt 28, 3) := by decide +kernel
theorem dX11_guards_34 : decode cX11_guards 34 = .ok (.iload_n 3, 1) := by decide +kernel
theorem dX11_guards_35 : decode cX11_guards 35 = .ok (.bipush 20, 2) := by decide +kernel
theorem dX11_guards_37 : decode cX11_guards 37 = .ok (.if_icmp .gt 22, 3) := by decide +kernel
theorem dX11_guards_40 : decode cX11_guards 40 = .ok (.iload 4, 2) := by decide +kernel
theorem dX11_guards_42 : decode cX11_guards 42 = .ok (.invokestatic 155, 3) := by decide +kernel
theorem dX11_guards_45 : decode cX11_guards 45 = .ok (.ifCond .eq 14, 3) := by decide +kernel
theorem dX11_guards_48 : decode cX11_guards 48 = .ok (.iload 5, 2) := by decide +kernel
theorem dX11_guards_50 : decode cX11_guards 50 = .ok (.ifCond .lt 9, 3) := by decide +kernel
theorem dX11_guards_53 : decode cX11_guards 53 = .ok (.iload 5, 2) := by decide +kernel
theorem dX11_guards_55 : decode cX11_guards 55 = .ok (.iconst 1, 1) := by decide +kernel
theorem dX11_guards_56 : decode cX11_guards 56 = .ok (.if_icmp .le 5, 3) := by decide +kernel
theorem dX11_guards_59 : decode cX11_guards 59 = .ok (.iconst (-1), 1) := by decide +kernel
theorem dX11_guards_60 : decode cX11_guards 60 = .ok (.ireturn, 1) := by decide +kernel
theorem dX11_guards_61 : decode cX11_guards 61 = .ok (.aload_n 0, 1) := by decide +kernel
theorem dX11_guards_62 : decode cX11_guards 62 = .ok (.getfield 49, 3) := by decide +kernel
theorem dX11_guards_65 : decode cX11_guards 65 = .ok (.iload 4, 2) := by decide +kernel
theorem dX11_guards_67 : decode cX11_guards 67 = .ok (.invokevirtual 158, 3) := by decide +kernel
theorem dX11_guards_70 : decode cX11_guards 70 = .ok (.aload_n 0, 1) := by decide +kernel
theorem dX11_guards_71 : decode cX11_guards 71 = .ok (.getfield 88, 3) := by decide +kernel
theorem dX11_guards_74 : decode cX11_guards 74 = .ok (.aload_n 0, 1) := by decide +kernel
theorem dX11_guards_75 : decode cX11_guards 75 = .ok (.getfield 34, 3) := by decide +kernel
theorem dX11_guards_78 : decode cX11_guards 78 = .ok (.invokevirtual 274, 3) := by decide +kernel
theorem dX11_guards_81 : decode cX11_guards 81 = .ok (.aload_n 0, 1) := by decide +kernel
theorem dX11_guards_82 : decode cX11_guards 82 = .ok (.getfield 88, 3) := by decide +kernel
theorem dX11_guards_85 : decode cX11_guards 85 = .ok (.iload_n 1, 1) := by decide +kernel
theorem dX11_guards_86 : decode cX11_guards 86 = .ok (.iload_n 2, 1) := by decide +kernel
theorem dX11_guards_87 : decode cX11_guards 87 = .ok (.aload_n 0, 1) := by decide +kernel
theorem dX11_guards_88 : decode cX11_guards 88 = .ok (.getfield 56, 3) := by decide +kernel
theorem dX11_guards_91 : decode cX11_guards 91 = .ok (.iload_n 3, 1) := by decide +kernel
theorem dX11_guards_92 : decode cX11_guards 92 = .ok (.invokevirtual 287, 3) := by decide +kernel
theorem dX11_guards_95 : decode cX11_guards 95 = .ok (.iload 5, 2) := by decide +kernel
theorem dX11_guards_97 : decode cX11_guards 97 = .ok (.ifCond .ne 13, 3) := by decide +kernel
theorem dX11_guards_100 : decode cX11_guards 100 = .ok (.aload_n 0, 1) := by decide +kernel
theorem dX11_guards_101 : decode cX11_guards 101 = .ok (.getfield 88, 3) := by decide +kernel
theorem dX11_guards_104 : decode cX11_guards 104 = .ok (.getfield 291, 3) := by decide +kernel
theorem dX11_guards_107 : decode cX11_guards 107 = .ok (.goto 10, 3) := by decide +kernel
theorem dX11_guards_110 : decode cX11_guards 110 = .ok (.aload_n 0, 1) := by decide +kernel
theorem dX11_guards_111 : decode cX11_guards 111 = .ok (.getfield 88, 3) := by decide +kernel
theorem dX11_guards_114 : decode cX11_guards 114 = .ok (.getfield 294, 3) := by decide +kernel
theorem dX11_guards_117 : decode cX11_guards 117 = .ok (.ireturn, 1) := by decide +kernel
theorem dX11_counted_0 : decode cX11_counted 0 = .ok (.iload_n 1, 1) := by decide +kernel
theorem dX11_counted_1 : decode cX11_counted 1 = .ok (.tableswitch 120 0 8 #[51, 56, 64, 72, 80, 88, 96, 104, 112], 51) := by decide +kernel
theorem dX11_counted_52 : decode cX11_counted 52 = .ok (.aload_n 0, 1) := by decide +kernel
theorem dX11_counted_53 : decode cX11_counted 53 = .ok (.getfield 18, 3) := by decide +kernel
theorem dX11_counted_56 : decode cX11_counted 56 = .ok (.ireturn, 1) := by decide +kernel
theorem dX11_counted_57 : decode cX11_counted 57 = .ok (.aload_n 0, 1) := by decide +kernel
theorem dX11_counted_58 : decode cX11_counted 58 = .ok (.getfield 41, 3) := by decide +kernel
theorem dX11_counted_61 : decode cX11_counted 61 = .ok (.getfield 235, 3) := by decide +kernel
theorem dX11_counted_64 : decode cX11_counted 64 = .ok (.ireturn, 1) := by decide +kernel
theorem dX11_counted_65 : decode cX11_counted 65 = .ok (.aload_n 0, 1) := by decide +kernel
theorem dX11_counted_66 : decode cX11_counted 66 = .ok (.getfield 45, 3) := by decide +kernel
theorem dX11_counted_69 : decode cX11_counted 69 = .ok (.getfield 117, 3) := by decide +kernel
theorem dX11_counted_72 : decode cX11_counted 72 = .ok (.ireturn, 1) := by decide +kernel
theorem dX11_counted_73 : decode cX11_counted 73 = .ok (.aload_n 0, 1) := by decide +kernel
theorem dX11_counted_74 : decode cX11_counted 74 = .ok (.getfield 41, 3) := by decide +kernel
theorem dX11_counted_77 : decode cX11_counted 77 = .ok (.getfield 175, 3) := by decide +kernel
theorem dX11_counted_80 : decode cX11_counted 80 = .ok (.ireturn, 1) := by decide +kernel
theorem dX11_counted_81 : decode cX11_counted 81 = .ok (.aload_n 0, 1) := by decide +kernel
theorem dX11_counted_82 : decode cX11_counted 82 = .ok (.getfield 56, 3) := by decide +kernel
theorem dX11_counted_85 : decode cX11_counted 85 = .ok (.getfield 118, 3) := by decide +kernel
theorem dX11_counted_88 : decode cX11_counted 88 = .ok (.ireturn, 1) := by decide +kernel
theorem dX11_counted_89 : decode cX11_counted 89 = .ok (.aload_n 0, 1) := by decide +kernel
theorem dX11_counted_90 : decode cX11_counted 90 = .ok (.getfield 88, 3) := by decide +kernel
theorem dX11_counted_93 : decode cX11_counted 93 = .ok (.getfield 119, 3) := by decide +kernel
theorem dX11_counted_96 : decode cX11_counted 96 = .ok (.ireturn, 1) := by decide +kernel
theorem dX11_counted_97 : decode cX11_counted 97 = .ok (.aload_n 0, 1) := by decide +kernel
theorem dX11_counted_98 : decode cX11_counted 98 = .ok (.getfield 34, 3) := by decide +kernel
theorem dX11_counted_101 : decode cX11_counted 101 = .ok (.getfield 297, 3) := by decide +kernel
theorem dX11_counted_104 : decode cX11_counted 104 = .ok (.ireturn, 1) := by decide +kernel
theorem dX11_counted_105 : decode cX11_counted 105 = .ok (.aload_n 0, 1) := by decide +kernel
theorem dX11_counted_106 : decode cX11_counted 106 = .ok (.getfield 34, 3) := by decide +kernel
theorem dX11_counted_109 : decode cX11_counted 109 = .ok (.getfield 300, 3) := by decide +kernel
theorem dX11_counted_112 : decode cX11_counted 112 = .ok (.ireturn, 1) := by decide +kernel
theorem dX11_counted_113 : decode cX11_counted 113 = .ok (.aload_n 0, 1) := by decide +kernel
theorem dX11_counted_114 : decode cX11_counted 114 = .ok (.getfield 34, 3) := by decide +kernel
theorem dX11_counted_117 : decode cX11_counted 117 = .ok (.getfield 303, 3) := by decide +kernel
theorem dX11_counted_120 : decode cX11_counted 120 = .ok (.ireturn, 1) := by decide +kernel
theorem dX11_counted_121 : decode cX11_counted 121 = .ok (.iconst (-1), 1) := by decide +kernel
theorem dX11_counted_122 : decode cX11_counted 122 = .ok (.ireturn, 1) := by decide +kernel
