theorem dX4_init_0 : decode cX4_init 0 = .ok (.aload_n 0, 1) := by decide +kernel
theorem dX4_init_1 : decode cX4_init 1 = .ok (.invokespecial 3, 3) := by decide +kernel
theorem dX4_init_4 : decode cX4_init 4 = .ok (.aload_n 0, 1) := by decide +kernel
theorem dX4_init_5 : decode cX4_init 5 = .ok (.bipush 6, 2) := by decide +kernel
theorem dX4_init_7 : decode cX4_init 7 = .ok (.newarray .int, 2) := by decide +kernel
theorem dX4_init_9 : decode cX4_init 9 = .ok (.putfield 9, 3) := by decide +kernel
theorem dX4_init_12 : decode cX4_init 12 = .ok (.aload_n 0, 1) := by decide +kernel
theorem dX4_init_13 : decode cX4_init 13 = .ok (.iconst 2, 1) := by decide +kernel
theorem dX4_init_14 : decode cX4_init 14 = .ok (.newarray .int, 2) := by decide +kernel
theorem dX4_init_16 : decode cX4_init 16 = .ok (.putfield 15, 3) := by decide +kernel
theorem dX4_init_19 : decode cX4_init 19 = .ok (.aload_n 0, 1) := by decide +kernel
theorem dX4_init_20 : decode cX4_init 20 = .ok (.bipush 6, 2) := by decide +kernel
theorem dX4_init_22 : decode cX4_init 22 = .ok (.newarray .int, 2) := by decide +kernel
theorem dX4_init_24 : decode cX4_init 24 = .ok (.putfield 18, 3) := by decide +kernel
theorem dX4_init_27 : decode cX4_init 27 = .ok (.aload_n 0, 1) := by decide +kernel
theorem dX4_init_28 : decode cX4_init 28 = .ok (.bipush 6, 2) := by decide +kernel
theorem dX4_init_30 : decode cX4_init 30 = .ok (.newarray .int, 2) := by decide +kernel
theorem dX4_init_32 : decode cX4_init 32 = .ok (.putfield 21, 3) := by decide +kernel
theorem dX4_init_35 : decode cX4_init 35 = .ok (.aload_n 0, 1) := by decide +kernel
theorem dX4_init_36 : decode cX4_init 36 = .ok (.iconst 3, 1) := by decide +kernel
theorem dX4_init_37 : decode cX4_init 37 = .ok (.iconst 3, 1) := by decide +kernel
theorem dX4_init_38 : decode cX4_init 38 = .ok (.invokevirtual 24, 3) := by decide +kernel
theorem dX4_init_41 : decode cX4_init 41 = .ok (.return_, 1) := by decide +kernel
theorem dX4_lay_0 : decode cX4_lay 0 = .ok (.aload_n 0, 1) := by decide +kernel
theorem dX4_lay_1 : decode cX4_lay 1 = .ok (.iload_n 1, 1) := by decide +kernel
theorem dX4_lay_2 : decode cX4_lay 2 = .ok (.putfield 28, 3) := by decide +kernel
theorem dX4_lay_5 : decode cX4_lay 5 = .ok (.aload_n 0, 1) := by decide +kernel
theorem dX4_lay_6 : decode cX4_lay 6 = .ok (.iload_n 1, 1) := by decide +kernel
theorem dX4_lay_7 : decode cX4_lay 7 = .ok (.iload_n 2, 1) := by decide +kernel
theorem dX4_lay_8 : decode cX4_lay 8 = .ok (.imul, 1) := by decide +kernel
theorem dX4_lay_9 : decode cX4_lay 9 = .ok (.putfield 32, 3) := by decide +kernel
theorem dX4_lay_12 : decode cX4_lay 12 = .ok (.aload_n 0, 1) := by decide +kernel
theorem dX4_lay_13 : decode cX4_lay 13 = .ok (.iconst 1, 1) := by decide +kernel
theorem dX4_lay_14 : decode cX4_lay 14 = .ok (.aload_n 0, 1) := by decide +kernel
theorem dX4_lay_15 : decode cX4_lay 15 = .ok (.getfield 32, 3) := by decide +kernel
theorem dX4_lay_18 : decode cX4_lay 18 = .ok (.ishl, 1) := by decide +kernel
theorem dX4_lay_19 : decode cX4_lay 19 = .ok (.iconst 1, 1) := by decide +kernel
theorem dX4_lay_20 : decode cX4_lay 20 = .ok (.isub, 1) := by decide +kernel
theorem dX4_lay_21 : decode cX4_lay 21 = .ok (.putfield 35, 3) := by decide +kernel
theorem dX4_lay_24 : decode cX4_lay 24 = .ok (.aload_n 0, 1) := by decide +kernel
theorem dX4_lay_25 : decode cX4_lay 25 = .ok (.iconst 0, 1) := by decide +kernel
theorem dX4_lay_26 : decode cX4_lay 26 = .ok (.putfield 38, 3) := by decide +kernel
theorem dX4_lay_29 : decode cX4_lay 29 = .ok (.iconst 0, 1) := by decide +kernel
theorem dX4_lay_30 : decode cX4_lay 30 = .ok (.istore_n 3, 1) := by decide +kernel
theorem dX4_lay_31 : decode cX4_lay 31 = .ok (.iload_n 3, 1) := by decide +kernel
theorem dX4_lay_32 : decode cX4_lay 32 = .ok (.iload_n 2, 1) := by decide +kernel
theorem dX4_lay_33 : decode cX4_lay 33 = .ok (.if_icmp .ge 23, 3) := by decide +kernel
theorem dX4_lay_36 : decode cX4_lay 36 = .ok (.aload_n 0, 1) := by decide +kernel
theorem dX4_lay_37 : decode cX4_lay 37 = .ok (.dup, 1) := by decide +kernel
theorem dX4_lay_38 : decode cX4_lay 38 = .ok (.getfield 38, 3) := by decide +kernel
theorem dX4_lay_41 : decode cX4_lay 41 = .ok (.iconst 1, 1) := by decide +kernel
theorem dX4_lay_42 : decode cX4_lay 42 = .ok (.iload_n 3, 1) := by decide +kernel
theorem dX4_lay_43 : decode cX4_lay 43 = .ok (.iload_n 1, 1) := by decide +kernel
theorem dX4_lay_44 : decode cX4_lay 44 = .ok (.imul, 1) := by decide +kernel
theorem dX4_lay_45 : decode cX4_lay 45 = .ok (.ishl, 1) := by decide +kernel
theorem dX4_lay_46 : decode cX4_lay 46 = .ok (.ior, 1) := by decide +kernel
theorem dX4_lay_47 : decode cX4_lay 47 = .ok (.putfield 38, 3) := by decide +kernel
theorem dX4_lay_50 : decode cX4_lay 50 = .ok (.iinc 3 1, 3) := by decide +kernel
theorem dX4_lay_53 : decode cX4_lay 53 = .ok (.goto (-22), 3) := by decide +kernel
theorem dX4_lay_56 : decode cX4_lay 56 = .ok (.aload_n 0, 1) := by decide +kernel
theorem dX4_lay_57 : decode cX4_lay 57 = .ok (.aload_n 0, 1) := by decide +kernel
theorem dX4_lay_58 : decode cX4_lay 58 = .ok (.getfield 38, 3) := by decide +kernel
theorem dX4_lay_61 : decode cX4_lay 61 = .ok (.iload_n 1, 1) := by decide +kernel
theorem dX4_lay_62 : decode cX4_lay 62 = .ok (.iconst 1, 1) := by decide +kernel
theorem dX4_lay_63 : decode cX4_lay 63 = .ok (.isub, 1) := by decide +kernel
theorem dX4_lay_64 : decode cX4_lay 64 = .ok (.ishl, 1) := by decide +kernel
theorem dX4_lay_65 : decode cX4_lay 65 = .ok (.putfield 41, 3) := by decide +kernel
theorem dX4_lay_68 : decode cX4_lay 68 = .ok (.aload_n 0, 1) := by decide +kernel
theorem dX4_lay_69 : decode cX4_lay 69 = .ok (.getfield 9, 3) := by decide +kernel
theorem dX4_lay_72 : decode cX4_lay 72 = .ok (.iconst 0, 1) := by decide +kernel
theorem dX4_lay_73 : decode cX4_lay 73 = .ok (.invokestatic 44, 3) := by decide +kernel
theorem dX4_lay_76 : decode cX4_lay 76 = .ok (.aload_n 0, 1) := by decide +kernel
theorem dX4_lay_77 : decode cX4_lay 77 = .ok (.getfield 9, 3) := by decide +kernel
theorem dX4_lay_80 : decode cX4_lay 80 = .ok (.iconst 0, 1) := by decide +kernel
theorem dX4_lay_81 : decode cX4_lay 81 = .ok (.aload_n 0, 1) := by decide +kernel
theorem dX4_lay_82 : decode cX4_lay 82 = .ok (.getfield 35, 3) := by decide +kernel
theorem dX4_lay_85 : decode cX4_lay 85 = .ok (.iastore, 1) := by decide +kernel
theorem dX4_lay_86 : decode cX4_lay 86 = .ok (.aload_n 0, 1) := by decide +kernel
theorem dX4_lay_87 : decode cX4_lay 87 = .ok (.getfield 15, 3) := by decide +kernel
theorem dX4_lay_90 : decode cX4_lay 90 = .ok (.iconst 0, 1) := by decide +kernel
theorem dX4_lay_91 : decode cX4_lay 91 = .ok (.invokestatic 44, 3) := by decide +kernel
theorem dX4_lay_94 : decode cX4_lay 94 = .ok (.aload_n 0, 1) := by decide +kernel
theorem dX4_lay_95 : decode cX4_lay 95 = .ok (.iconst 0, 1) := by decide +kernel
theorem dX4_lay_96 : decode cX4_lay 96 = .ok (.putfield 50, 3) := by decide +kernel
theorem dX4_lay_99 : decode cX4_lay 99 = .ok (.aload_n 0, 1) := by decide +kernel
theorem dX4_lay_100 : decode cX4_lay 100 = .ok (.iconst 0, 1) := by decide +kernel
theorem dX4_lay_101 : decode cX4_lay 101 = .ok (.putfield 53, 3) := by decide +kernel
theorem dX4_lay_104 : decode cX4_lay 104 = .ok (.aload_n 0, 1) := by decide +kernel
theorem dX4_lay_105 : decode cX4_lay 105 = .ok (.iconst 0, 1) := by decide +kernel
theorem dX4_lay_106 : decode cX4_lay 106 = .ok (.putfield 56, 3) := by decide +kernel
theorem dX4_lay_109 : decode cX4_lay 109 = .ok (.return_, 1) := by decide +kernel
theorem dX4_has_0 : decode cX4_has 0 = .ok (.iload_n 1, 1) := by decide +kernel
theorem dX4_has_1 : decode cX4_has 1 = .ok (.ifCond .lt 15, 3) := by decide +kernel
theorem dX4_has_4 : decode cX4_has 4 = .ok (.iload_n 1, 1) := by decide +kernel
theorem dX4_has_5 : decode cX4_has 5 = .ok (.aload_n 0, 1) := by decide +kernel
theorem dX4_has_6 : decode cX4_has 6 = .ok (.getfield 32, 3) := by decide +kernel
theorem dX4_has_9 : decode cX4_has 9 = .ok (.if_icmp .ge 7, 3) := by decide +kernel
theorem dX4_has_12 : decode cX4_has 12 = .ok (.iconst 1, 1) := by decide +kernel
theorem dX4_has_13 : decode cX4_has 13 = .ok (.goto 4, 3) := by decide +kernel
theorem dX4_has_16 : decode cX4_has 16 = .ok (.iconst 0, 1) := by decide +kernel
theorem dX4_has_17 : decode cX4_has 17 = .ok (.ireturn, 1) := by decide +kernel
theorem dX4_isLine_0 : decode cX4_isLine 0 = .ok (.iload_n 1, 1) := by decide +kernel
theorem dX4_isLine_1 : decode cX4_isLine 1 = .ok (.ifCond .lt 15, 3) := by decide +kernel
theorem dX4_isLine_4 : decode cX4_isLine 4 = .ok (.iload_n 1, 1) := by decide +kernel
theorem dX4_isLine_5 : decode cX4_isLine 5 = .ok (.aload_n 0, 1) := by decide +kernel
theorem dX4_isLine_6 : decode cX4_isLine 6 = .ok (.getfield 35, 3) := by decide +kernel
theorem dX4_isLine_9 : decode cX4_isLine 9 = .ok (.if_icmp .gt 7, 3) := by decide +kernel
theorem dX4_isLine_12 : decode cX4_isLine 12 = .ok (.iconst 1, 1) := by decide +kernel
theorem dX4_isLine_13 : decode cX4_isLine 13 = .ok (.goto 4, 3) := by decide +kernel
theorem dX4_isLine_16 : decode cX4_isLine 16 = .ok (.iconst 0, 1) := by decide +kernel
theorem dX4_isLine_17 : decode cX4_isLine 17 = .ok (.ireturn, 1) := by decide +kernel
theorem dX4_describe_0 : decode cX4_describe 0 = .ok (.iconst 1, 1) := by decide +kernel
theorem dX4_describe_1 : decode cX4_describe 1 = .ok (.iload_n 1, 1) := by decide +kernel
theorem dX4_describe_2 : decode cX4_describe 2 = .ok (.ishl, 1) := by decide +kernel
theorem dX4_describe_3 : decode cX4_describe 3 = .ok (.istore 5, 2) := by decide +kernel
theorem dX4_describe_5 : decode cX4_describe 5 = .ok (.iconst 0, 1) := by decide +kernel
theorem dX4_describe_6 : decode cX4_describe 6 = .ok (.istore 6, 2) := by decide +kernel
theorem dX4_describe_8 : decode cX4_describe 8 = .ok (.iload 6, 2) := by decide +kernel
theorem dX4_describe_10 : decode cX4_describe 10 = .ok (.bipush 6, 2) := by decide +kernel
theorem dX4_describe_12 : decode cX4_describe 12 = .ok (.if_icmp .ge 47, 3) := by decide +kernel
theorem dX4_describe_15 : decode cX4_describe 15 = .ok (.aload_n 0, 1) := by decide +kernel
theorem dX4_describe_16 : decode cX4_describe 16 = .ok (.getfield 9, 3) := by decide +kernel
theorem dX4_describe_19 : decode cX4_describe 19 = .ok (.iload 6, 2) := by decide +kernel
theorem dX4_describe_21 : decode cX4_describe 21 = .ok (.iload 6, 2) := by decide +kernel
theorem dX4_describe_23 : decode cX4_describe 23 = .ok (.iload_n 2, 1) := by decide +kernel
theorem dX4_describe_24 : decode cX4_describe 24 = .ok (.if_icmp .ne 16, 3) := by decide +kernel
theorem dX4_describe_27 : decode cX4_describe 27 = .ok (.aload_n 0, 1) := by decide +kernel
theorem dX4_describe_28 : decode cX4_describe 28 = .ok (.getfield 9, 3) := by decide +kernel
theorem dX4_describe_31 : decode cX4_describe 31 = .ok (.iload 6, 2) := by decide +kernel
theorem dX4_describe_33 : decode cX4_describe 33 = .ok (.iaload, 1) := by decide +kernel
theorem dX4_describe_34 : decode cX4_describe 34 = .ok (.iload 5, 2) := by decide +kernel
theorem dX4_describe_36 : decode cX4_describe 36 = .ok (.ior, 1) := by decide +kernel
theorem dX4_describe_37 : decode cX4_describe 37 = .ok (.goto 15, 3) := by decide +kernel
theorem dX4_describe_40 : decode cX4_describe 40 = .ok (.aload_n 0, 1) := by decide +kernel
theorem dX4_describe_41 : decode cX4_describe 41 = .ok (.getfield 9, 3) := by decide +kernel
theorem dX4_describe_44 : decode cX4_describe 44 = .ok (.iload 6, 2) := by decide +kernel
theorem dX4_describe_46 : decode cX4_describe 46 = .ok (.iaload, 1) := by decide +kernel
theorem dX4_describe_47 : decode cX4_describe 47 = .ok (.iload 5, 2) := by decide +kernel
theorem dX4_describe_49 : decode cX4_describe 49 = .ok (.iconst (-1), 1) := by decide +kernel
theorem dX4_describe_50 : decode cX4_describe 50 = .ok (.ixor, 1) := by decide +kernel
theorem dX4_describe_51 : decode cX4_describe 51 = .ok (.iand, 1) := by decide +kernel
theorem dX4_describe_52 : decode cX4_describe 52 = .ok (.iastore, 1) := by decide +kernel
theorem dX4_describe_53 : decode cX4_describe 53 = .ok (.iinc 6 1, 3) := by decide +kernel
theorem dX4_describe_56 : decode cX4_describe 56 = .ok (.goto (-48), 3) := by decide +kernel
theorem dX4_describe_59 : decode cX4_describe 59 = .ok (.iconst 0, 1) := by decide +kernel
theorem dX4_describe_60 : decode cX4_describe 60 = .ok (.istore 6, 2) := by decide +kernel
theorem dX4_describe_62 : decode cX4_describe 62 = .ok (.iload 6, 2) := by decide +kernel
theorem dX4_describe_64 : decode cX4_describe 64 = .ok (.iconst 2, 1) := by decide +kernel
theorem dX4_describe_65 : decode cX4_describe 65 = .ok (.if_icmp .ge 47, 3) := by decide +kernel
theorem dX4_describe_68 : decode cX4_describe 68 = .ok (.aload_n 0, 1) := by decide +kernel
theorem dX4_describe_69 : decode cX4_describe 69 = .ok (.getfield 15, 3) := by decide +kernel
theorem dX4_describe_72 : decode cX4_describe 72 = .ok (.iload 6, 2) := by decide +kernel
theorem dX4_describe_74 : decode cX4_describe 74 = .ok (.iload 6, 2) := by decide +kernel
theorem dX4_describe_76 : decode cX4_describe 76 = .ok (.iload_n 3, 1) := by decide +kernel
theorem dX4_describe_77 : decode cX4_describe 77 = .ok (.if_icmp .ne 16, 3) := by decide +kernel
theorem dX4_describe_80 : decode cX4_describe 80 = .ok (.aload_n 0, 1) := by decide +kernel
theorem dX4_describe_81 : decode cX4_describe 81 = .ok (.getfield 15, 3) := by decide +kernel
theorem dX4_describe_84 : decode cX4_describe 84 = .ok (.iload 6, 2) := by decide +kernel
theorem dX4_describe_86 : decode cX4_describe 86 = .ok (.iaload, 1) := by decide +kernel
theorem dX4_describe_87 : decode cX4_describe 87 = .ok (.iload 5, 2) := by decide +kernel
theorem dX4_describe_89 : decode cX4_describe 89 = .ok (.ior, 1) := by decide +kernel
theorem dX4_describe_90 : decode cX4_describe 90 = .ok (.goto 15, 3) := by decide +kernel
theorem dX4_describe_93 : decode cX4_describe 93 = .ok (.aload_n 0, 1) := by decide +kernel
theorem dX4_describe_94 : decode cX4_describe 94 = .ok (.getfield 15, 3) := by decide +kernel
theorem dX4_describe_97 : decode cX4_describe 97 = .ok (.iload 6, 2) := by decide +kernel
theorem dX4_describe_99 : decode cX4_describe 99 = .ok (.iaload, 1) := by decide +kernel
theorem dX4_describe_100 : decode cX4_describe 100 = .ok (.iload 5, 2) := by decide +kernel
theorem dX4_describe_102 : decode cX4_describe 102 = .ok (.iconst (-1), 1) := by decide +kernel
theorem dX4_describe_103 : decode cX4_describe 103 = .ok (.ixor, 1) := by decide +kernel
theorem dX4_describe_104 : decode cX4_describe 104 = .ok (.iand, 1) := by decide +kernel
theorem dX4_describe_105 : decode cX4_describe 105 = .ok (.iastore, 1) := by decide +kernel
theorem dX4_describe_106 : decode cX4_describe 106 = .ok (.iinc 6 1, 3) := by decide +kernel
theorem dX4_describe_109 : decode cX4_describe 109 = .ok (.goto (-47), 3) := by decide +kernel
theorem dX4_describe_112 : decode cX4_describe 112 = .ok (.aload_n 0, 1) := by decide +kernel
theorem dX4_describe_113 : decode cX4_describe 113 = .ok (.iload 4, 2) := by decide +kernel
theorem dX4_describe_115 : decode cX4_describe 115 = .ok (.ifCond .eq 13, 3) := by decide +kernel
theorem dX4_describe_118 : decode cX4_describe 118 = .ok (.aload_n 0, 1) := by decide +kernel
theorem dX4_describe_119 : decode cX4_describe 119 = .ok (.getfield 50, 3) := by decide +kernel
theorem dX4_describe_122 : decode cX4_describe 122 = .ok (.iload 5, 2) := by decide +kernel
theorem dX4_describe_124 : decode cX4_describe 124 = .ok (.ior, 1) := by decide +kernel
theorem dX4_describe_125 : decode cX4_describe 125 = .ok (.goto 12, 3) := by decide +kernel
theorem dX4_describe_128 : decode cX4_describe 128 = .ok (.aload_n 0, 1) := by decide +kernel
theorem dX4_describe_129 : decode cX4_describe 129 = .ok (.getfield 50, 3) := by decide +kernel
theorem dX4_describe_132 : decode cX4_describe 132 = .ok (.iload 5, 2) := by decide +kernel
theorem dX4_describe_134 : decode cX4_describe 134 = .ok (.iconst (-1), 1) := by decide +kernel
theorem dX4_describe_135 : decode cX4_describe 135 = .ok (.ixor, 1) := by decide +kernel
theorem dX4_describe_136 : decode cX4_describe 136 = .ok (.iand, 1) := by decide +kernel
theorem dX4_describe_137 : decode cX4_describe 137 = .ok (.putfield 50, 3) := by decide +kernel
theorem dX4_describe_140 : decode cX4_describe 140 = .ok (.return_, 1) := by decide +kernel
theorem dX4_dig_0 : decode cX4_dig 0 = .ok (.aload_n 0, 1) := by decide +kernel
theorem dX4_dig_1 : decode cX4_dig 1 = .ok (.getfield 56, 3) := by decide +kernel
theorem dX4_dig_4 : decode cX4_dig 4 = .ok (.bipush 6, 2) := by decide +kernel
theorem dX4_dig_6 : decode cX4_dig 6 = .ok (.if_icmp .lt 5, 3) := by decide +kernel
theorem dX4_dig_9 : decode cX4_dig 9 = .ok (.iconst (-1), 1) := by decide +kernel
theorem dX4_dig_10 : decode cX4_dig 10 = .ok (.ireturn, 1) := by decide +kernel
theorem dX4_dig_11 : decode cX4_dig 11 = .ok (.aload_n 0, 1) := by decide +kernel
theorem dX4_dig_12 : decode cX4_dig 12 = .ok (.getfield 18, 3) := by decide +kernel
theorem dX4_dig_15 : decode cX4_dig 15 = .ok (.aload_n 0, 1) := by decide +kernel
theorem dX4_dig_16 : decode cX4_dig 16 = .ok (.getfield 56, 3) := by decide +kernel
theorem dX4_dig_19 : decode cX4_dig 19 = .ok (.iload_n 1, 1) := by decide +kernel
theorem dX4_dig_20 : decode cX4_dig 20 = .ok (.iastore, 1) := by decide +kernel
theorem dX4_dig_21 : decode cX4_dig 21 = .ok (.aload_n 0, 1) := by decide +kernel
theorem dX4_dig_22 : decode cX4_dig 22 = .ok (.getfield 21, 3) := by decide +kernel
theorem dX4_dig_25 : decode cX4_dig 25 = .ok (.aload_n 0, 1) := by decide +kernel
theorem dX4_dig_26 : decode cX4_dig 26 = .ok (.getfield 56, 3) := by decide +kernel
theorem dX4_dig_29 : decode cX4_dig 29 = .ok (.iconst 0, 1) := by decide +kernel
theorem dX4_dig_30 : decode cX4_dig 30 = .ok (.iastore, 1) := by decide +kernel
theorem dX4_dig_31 : decode cX4_dig 31 = .ok (.aload_n 0, 1) := by decide +kernel
theorem dX4_dig_32 : decode cX4_dig 32 = .ok (.dup, 1) := by decide +kernel
theorem dX4_dig_33 : decode cX4_dig 33 = .ok (.getfield 53, 3) := by decide +kernel
theorem dX4_dig_36 : decode cX4_dig 36 = .ok (.iconst 1, 1) := by decide +kernel
theorem dX4_dig_37 : decode cX4_dig 37 = .ok (.iload_n 1, 1) := by decide +kernel
theorem dX4_dig_38 : decode cX4_dig 38 = .ok (.ishl, 1) := by decide +kernel
theorem dX4_dig_39 : decode cX4_dig 39 = .ok (.ior, 1) := by decide +kernel
theorem dX4_dig_40 : decode cX4_dig 40 = .ok (.putfield 53, 3) := by decide +kernel
theorem dX4_dig_43 : decode cX4_dig 43 = .ok (.aload_n 0, 1) := by decide +kernel
theorem dX4_dig_44 : decode cX4_dig 44 = .ok (.dup, 1) := by decide +kernel
theorem dX4_dig_45 : decode cX4_dig 45 = .ok (.getfield 56, 3) := by decide +kernel
theorem dX4_dig_48 : decode cX4_dig 48 = .ok (.iconst 1, 1) := by decide +kernel
theorem dX4_dig_49 : decode cX4_dig 49 = .ok (.iadd, 1) := by decide +kernel
theorem dX4_dig_50 : decode cX4_dig 50 = .ok (.putfield 56, 3) := by decide +kernel
theorem dX4_dig_53 : decode cX4_dig 53 = .ok (.aload_n 0, 1) := by decide +kernel
theorem dX4_dig_54 : decode cX4_dig 54 = .ok (.getfield 56, 3) := by decide +kernel
theorem dX4_dig_57 : decode cX4_dig 57 = .ok (.iconst 1, 1) := by decide +kernel
theorem dX4_dig_58 : decode cX4_dig 58 = .ok (.isub, 1) := by decide +kernel
theorem dX4_dig_59 : decode cX4_dig 59 = .ok (.ireturn, 1) := by decide +kernel
theorem dX4_lead_0 : decode cX4_lead 0 = .ok (.aload_n 0, 1) := by decide +kernel
theorem dX4_lead_1 : decode cX4_lead 1 = .ok (.getfield 21, 3) := by decide +kernel
theorem dX4_lead_4 : decode cX4_lead 4 = .ok (.iload_n 1, 1) := by decide +kernel
theorem dX4_lead_5 : decode cX4_lead 5 = .ok (.iaload, 1) := by decide +kernel
theorem dX4_lead_6 : decode cX4_lead 6 = .ok (.iconst 1, 1) := by decide +kernel
theorem dX4_lead_7 : decode cX4_lead 7 = .ok (.aload_n 0, 1) := by decide +kernel
theorem dX4_lead_8 : decode cX4_lead 8 = .ok (.getfield 18, 3) := by decide +kernel
theorem dX4_lead_11 : decode cX4_lead 11 = .ok (.iload_n 1, 1) := by decide +kernel
theorem dX4_lead_12 : decode cX4_lead 12 = .ok (.iaload, 1) := by decide +kernel
theorem dX4_lead_13 : decode cX4_lead 13 = .ok (.ishl, 1) := by decide +kernel
theorem dX4_lead_14 : decode cX4_lead 14 = .ok (.ior, 1) := by decide +kernel
theorem dX4_lead_15 : decode cX4_lead 15 = .ok (.istore_n 3, 1) := by decide +kernel
theorem dX4_lead_16 : decode cX4_lead 16 = .ok (.iload_n 3, 1) := by decide +kernel
theorem dX4_lead_17 : decode cX4_lead 17 = .ok (.iload_n 2, 1) := by decide +kernel
theorem dX4_lead_18 : decode cX4_lead 18 = .ok (.ishr, 1) := by decide +kernel
theorem dX4_lead_19 : decode cX4_lead 19 = .ok (.iconst 1, 1) := by decide +kernel
theorem dX4_lead_20 : decode cX4_lead 20 = .ok (.iand, 1) := by decide +kernel
theorem dX4_lead_21 : decode cX4_lead 21 = .ok (.ifCond .ne 16, 3) := by decide +kernel
theorem dX4_lead_24 : decode cX4_lead 24 = .ok (.aload_n 0, 1) := by decide +kernel
theorem dX4_lead_25 : decode cX4_lead 25 = .ok (.getfield 21, 3) := by decide +kernel
theorem dX4_lead_28 : decode cX4_lead 28 = .ok (.iload_n 1, 1) := by decide +kernel
theorem dX4_lead_29 : decode cX4_lead 29 = .ok (.iaload, 1) := by decide +kernel
theorem dX4_lead_30 : decode cX4_lead 30 = .ok (.invokestatic 59, 3) := by decide +kernel
theorem dX4_lead_33 : decode cX4_lead 33 = .ok (.iconst 5, 1) := by decide +kernel
theorem dX4_lead_34 : decode cX4_lead 34 = .ok (.if_icmp .lt 5, 3) := by decide +kernel
theorem dX4_lead_37 : decode cX4_lead 37 = .ok (.iconst (-1), 1) := by decide +kernel
theorem dX4_lead_38 : decode cX4_lead 38 = .ok (.ireturn, 1) := by decide +kernel
theorem dX4_lead_39 : decode cX4_lead 39 = .ok (.aload_n 0, 1) := by decide +kernel
theorem dX4_lead_40 : decode cX4_lead 40 = .ok (.getfield 21, 3) := by decide +kernel
theorem dX4_lead_43 : decode cX4_lead 43 = .ok (.iload_n 1, 1) := by decide +kernel
theorem dX4_lead_44 : decode cX4_lead 44 = .ok (.dup2, 1) := by decide +kernel
theorem dX4_lead_45 : decode cX4_lead 45 = .ok (.iaload, 1) := by decide +kernel
theorem dX4_lead_46 : decode cX4_lead 46 = .ok (.iconst 1, 1) := by decide +kernel
theorem dX4_lead_47 : decode cX4_lead 47 = .ok (.iload_n 2, 1) := by decide +kernel
theorem dX4_lead_48 : decode cX4_lead 48 = .ok (.ishl, 1) := by decide +kernel
theorem dX4_lead_49 : decode cX4_lead 49 = .ok (.ior, 1) := by decide +kernel
theorem dX4_lead_50 : decode cX4_lead 50 = .ok (.iastore, 1) := by decide +kernel
theorem dX4_lead_51 : decode cX4_lead 51 = .ok (.aload_n 0, 1) := by decide +kernel
theorem dX4_lead_52 : decode cX4_lead 52 = .ok (.getfield 21, 3) := by decide +kernel
theorem dX4_lead_55 : decode cX4_lead 55 = .ok (.iload_n 1, 1) := by decide +kernel
theorem dX4_lead_56 : decode cX4_lead 56 = .ok (.iaload, 1) := by decide +kernel
theorem dX4_lead_57 : decode cX4_lead 57 = .ok (.invokestatic 59, 3) := by decide +kernel
theorem dX4_lead_60 : decode cX4_lead 60 = .ok (.ireturn, 1) := by decide +kernel
theorem dX4_beside_0 : decode cX4_beside 0 = .ok (.iload_n 1, 1) := by decide +kernel
theorem dX4_beside_1 : decode cX4_beside 1 = .ok (.aload_n 0, 1) := by decide +kernel
theorem dX4_beside_2 : decode cX4_beside 2 = .ok (.getfield 28, 3) := by decide +kernel
theorem dX4_beside_5 : decode cX4_beside 5 = .ok (.ishl, 1) := by decide +kernel
theorem dX4_beside_6 : decode cX4_beside 6 = .ok (.iload_n 1, 1) := by decide +kernel
theorem dX4_beside_7 : decode cX4_beside 7 = .ok (.aload_n 0, 1) := by decide +kernel
theorem dX4_beside_8 : decode cX4_beside 8 = .ok (.getfield 28, 3) := by decide +kernel
theorem dX4_beside_11 : decode cX4_beside 11 = .ok (.iushr, 1) := by decide +kernel
theorem dX4_beside_12 : decode cX4_beside 12 = .ok (.ior, 1) := by decide +kernel
theorem dX4_beside_13 : decode cX4_beside 13 = .ok (.istore_n 2, 1) := by decide +kernel
theorem dX4_beside_14 : decode cX4_beside 14 = .ok (.iload_n 1, 1) := by decide +kernel
theorem dX4_beside_15 : decode cX4_beside 15 = .ok (.aload_n 0, 1) := by decide +kernel
theorem dX4_beside_16 : decode cX4_beside 16 = .ok (.getfield 41, 3) := by decide +kernel
theorem dX4_beside_19 : decode cX4_beside 19 = .ok (.iconst (-1), 1) := by decide +kernel
theorem dX4_beside_20 : decode cX4_beside 20 = .ok (.ixor, 1) := by decide +kernel
theorem dX4_beside_21 : decode cX4_beside 21 = .ok (.iand, 1) := by decide +kernel
theorem dX4_beside_22 : decode cX4_beside 22 = .ok (.iconst 1, 1) := by decide +kernel
theorem dX4_beside_23 : decode cX4_beside 23 = .ok (.ishl, 1) := by decide +kernel
theorem dX4_beside_24 : decode cX4_beside 24 = .ok (.istore_n 3, 1) := by decide +kernel
theorem dX4_beside_25 : decode cX4_beside 25 = .ok (.iload_n 1, 1) := by decide +kernel
theorem dX4_beside_26 : decode cX4_beside 26 = .ok (.aload_n 0, 1) := by decide +kernel
theorem dX4_beside_27 : decode cX4_beside 27 = .ok (.getfield 38, 3) := by decide +kernel
theorem dX4_beside_30 : decode cX4_beside 30 = .ok (.iconst (-1), 1) := by decide +kernel
theorem dX4_beside_31 : decode cX4_beside 31 = .ok (.ixor, 1) := by decide +kernel
theorem dX4_beside_32 : decode cX4_beside 32 = .ok (.iand, 1) := by decide +kernel
theorem dX4_beside_33 : decode cX4_beside 33 = .ok (.iconst 1, 1) := by decide +kernel
theorem dX4_beside_34 : decode cX4_beside 34 = .ok (.iushr, 1) := by decide +kernel
theorem dX4_beside_35 : decode cX4_beside 35 = .ok (.istore 4, 2) := by decide +kernel
theorem dX4_beside_37 : decode cX4_beside 37 = .ok (.iload_n 2, 1) := by decide +kernel
theorem dX4_beside_38 : decode cX4_beside 38 = .ok (.iload_n 3, 1) := by decide +kernel
theorem dX4_beside_39 : decode cX4_beside 39 = .ok (.ior, 1) := by decide +kernel
theorem dX4_beside_40 : decode cX4_beside 40 = .ok (.iload 4, 2) := by decide +kernel
theorem dX4_beside_42 : decode cX4_beside 42 = .ok (.ior, 1) := by decide +kernel
theorem dX4_beside_43 : decode cX4_beside 43 = .ok (.aload_n 0, 1) := by decide +kernel
theorem dX4_beside_44 : decode cX4_beside 44 = .ok (.getfield 35, 3) := by decide +kernel
theorem dX4_beside_47 : decode cX4_beside 47 = .ok (.iand, 1) := by decide +kernel
theorem dX4_beside_48 : decode cX4_beside 48 = .ok (.ireturn, 1) := by decide +kernel
theorem dX4_firstPiece_0 : decode cX4_firstPiece 0 = .ok (.iload_n 1, 1) := by decide +kernel
theorem dX4_firstPiece_1 : decode cX4_firstPiece 1 = .ok (.iload_n 1, 1) := by decide +kernel
theorem dX4_firstPiece_2 : decode cX4_firstPiece 2 = .ok (.ineg, 1) := by decide +kernel
theorem dX4_firstPiece_3 : decode cX4_firstPiece 3 = .ok (.iand, 1) := by decide +kernel
theorem dX4_firstPiece_4 : decode cX4_firstPiece 4 = .ok (.istore_n 2, 1) := by decide +kernel
theorem dX4_firstPiece_5 : decode cX4_firstPiece 5 = .ok (.iconst 0, 1) := by decide +kernel
theorem dX4_firstPiece_6 : decode cX4_firstPiece 6 = .ok (.istore_n 3, 1) := by decide +kernel
theorem dX4_firstPiece_7 : decode cX4_firstPiece 7 = .ok (.iload_n 3, 1) := by decide +kernel
theorem dX4_firstPiece_8 : decode cX4_firstPiece 8 = .ok (.bipush 25, 2) := by decide +kernel
theorem dX4_firstPiece_10 : decode cX4_firstPiece 10 = .ok (.if_icmp .ge 32, 3) := by decide +kernel
theorem dX4_firstPiece_13 : decode cX4_firstPiece 13 = .ok (.iload_n 2, 1) := by decide +kernel
theorem dX4_firstPiece_14 : decode cX4_firstPiece 14 = .ok (.aload_n 0, 1) := by decide +kernel
theorem dX4_firstPiece_15 : decode cX4_firstPiece 15 = .ok (.iload_n 2, 1) := by decide +kernel
theorem dX4_firstPiece_16 : decode cX4_firstPiece 16 = .ok (.invokevirtual 65, 3) := by decide +kernel
theorem dX4_firstPiece_19 : decode cX4_firstPiece 19 = .ok (.iload_n 1, 1) := by decide +kernel
theorem dX4_firstPiece_20 : decode cX4_firstPiece 20 = .ok (.iand, 1) := by decide +kernel
theorem dX4_firstPiece_21 : decode cX4_firstPiece 21 = .ok (.ior, 1) := by decide +kernel
theorem dX4_firstPiece_22 : decode cX4_firstPiece 22 = .ok (.istore 4, 2) := by decide +kernel
theorem dX4_firstPiece_24 : decode cX4_firstPiece 24 = .ok (.iload 4, 2) := by decide +kernel
theorem dX4_firstPiece_26 : decode cX4_firstPiece 26 = .ok (.iload_n 2, 1) := by decide +kernel
theorem dX4_firstPiece_27 : decode cX4_firstPiece 27 = .ok (.if_icmp .ne 6, 3) := by decide +kernel
theorem dX4_firstPiece_30 : decode cX4_firstPiece 30 = .ok (.goto 12, 3) := by decide +kernel
theorem dX4_firstPiece_33 : decode cX4_firstPiece 33 = .ok (.iload 4, 2) := by decide +kernel
theorem dX4_firstPiece_35 : decode cX4_firstPiece 35 = .ok (.istore_n 2, 1) := by decide +kernel
theorem dX4_firstPiece_36 : decode cX4_firstPiece 36 = .ok (.iinc 3 1, 3) := by decide +kernel
theorem dX4_firstPiece_39 : decode cX4_firstPiece 39 = .ok (.goto (-32), 3) := by decide +kernel
theorem dX4_firstPiece_42 : decode cX4_firstPiece 42 = .ok (.iload_n 2, 1) := by decide +kernel
theorem dX4_firstPiece_43 : decode cX4_firstPiece 43 = .ok (.ireturn, 1) := by decide +kernel
theorem dX4_pieces_0 : decode cX4_pieces 0 = .ok (.iload_n 1, 1) := by decide +kernel
theorem dX4_pieces_1 : decode cX4_pieces 1 = .ok (.istore_n 2, 1) := by decide +kernel
theorem dX4_pieces_2 : decode cX4_pieces 2 = .ok (.iconst 0, 1) := by decide +kernel
theorem dX4_pieces_3 : decode cX4_pieces 3 = .ok (.istore_n 3, 1) := by decide +kernel
theorem dX4_pieces_4 : decode cX4_pieces 4 = .ok (.iconst 0, 1) := by decide +kernel
theorem dX4_pieces_5 : decode cX4_pieces 5 = .ok (.istore 4, 2) := by decide +kernel
theorem dX4_pieces_7 : decode cX4_pieces 7 = .ok (.iload 4, 2) := by decide +kernel
theorem dX4_pieces_9 : decode cX4_pieces 9 = .ok (.bipush 25, 2) := by decide +kernel
theorem dX4_pieces_11 : decode cX4_pieces 11 = .ok (.if_icmp .ge 26, 3) := by decide +kernel
theorem dX4_pieces_14 : decode cX4_pieces 14 = .ok (.iload_n 2, 1) := by decide +kernel
theorem dX4_pieces_15 : decode cX4_pieces 15 = .ok (.ifCond .eq 22, 3) := by decide +kernel
theorem dX4_pieces_18 : decode cX4_pieces 18 = .ok (.iload_n 2, 1) := by decide +kernel
theorem dX4_pieces_19 : decode cX4_pieces 19 = .ok (.aload_n 0, 1) := by decide +kernel
theorem dX4_pieces_20 : decode cX4_pieces 20 = .ok (.iload_n 2, 1) := by decide +kernel
theorem dX4_pieces_21 : decode cX4_pieces 21 = .ok (.invokevirtual 68, 3) := by decide +kernel
theorem dX4_pieces_24 : decode cX4_pieces 24 = .ok (.iconst (-1), 1) := by decide +kernel
theorem dX4_pieces_25 : decode cX4_pieces 25 = .ok (.ixor, 1) := by decide +kernel
theorem dX4_pieces_26 : decode cX4_pieces 26 = .ok (.iand, 1) := by decide +kernel
theorem dX4_pieces_27 : decode cX4_pieces 27 = .ok (.istore_n 2, 1) := by decide +kernel
theorem dX4_pieces_28 : decode cX4_pieces 28 = .ok (.iinc 3 1, 3) := by decide +kernel
theorem dX4_pieces_31 : decode cX4_pieces 31 = .ok (.iinc 4 1, 3) := by decide +kernel
theorem dX4_pieces_34 : decode cX4_pieces 34 = .ok (.goto (-27), 3) := by decide +kernel
theorem dX4_pieces_37 : decode cX4_pieces 37 = .ok (.iload_n 3, 1) := by decide +kernel
theorem dX4_pieces_38 : decode cX4_pieces 38 = .ok (.ireturn, 1) := by decide +kernel
theorem dX4_parted_0 : decode cX4_parted 0 = .ok (.iload_n 1, 1) := by decide +kernel
theorem dX4_parted_1 : decode cX4_parted 1 = .ok (.istore_n 3, 1) := by decide +kernel
theorem dX4_parted_2 : decode cX4_parted 2 = .ok (.iconst 0, 1) := by decide +kernel
theorem dX4_parted_3 : decode cX4_parted 3 = .ok (.istore 4, 2) := by decide +kernel
theorem dX4_parted_5 : decode cX4_parted 5 = .ok (.iload 4, 2) := by decide +kernel
theorem dX4_parted_7 : decode cX4_parted 7 = .ok (.bipush 25, 2) := by decide +kernel
theorem dX4_parted_9 : decode cX4_parted 9 = .ok (.if_icmp .ge 46, 3) := by decide +kernel
theorem dX4_parted_12 : decode cX4_parted 12 = .ok (.iload_n 3, 1) := by decide +kernel
theorem dX4_parted_13 : decode cX4_parted 13 = .ok (.ifCond .eq 42, 3) := by decide +kernel
theorem dX4_parted_16 : decode cX4_parted 16 = .ok (.aload_n 0, 1) := by decide +kernel
theorem dX4_parted_17 : decode cX4_parted 17 = .ok (.iload_n 3, 1) := by decide +kernel
theorem dX4_parted_18 : decode cX4_parted 18 = .ok (.invokevirtual 68, 3) := by decide +kernel
theorem dX4_parted_21 : decode cX4_parted 21 = .ok (.istore 5, 2) := by decide +kernel
theorem dX4_parted_23 : decode cX4_parted 23 = .ok (.iload 5, 2) := by decide +kernel
theorem dX4_parted_25 : decode cX4_parted 25 = .ok (.iload_n 1, 1) := by decide +kernel
theorem dX4_parted_26 : decode cX4_parted 26 = .ok (.if_icmp .eq 16, 3) := by decide +kernel
theorem dX4_parted_29 : decode cX4_parted 29 = .ok (.aload_n 0, 1) := by decide +kernel
theorem dX4_parted_30 : decode cX4_parted 30 = .ok (.iload 5, 2) := by decide +kernel
theorem dX4_parted_32 : decode cX4_parted 32 = .ok (.invokevirtual 65, 3) := by decide +kernel
theorem dX4_parted_35 : decode cX4_parted 35 = .ok (.iload_n 2, 1) := by decide +kernel
theorem dX4_parted_36 : decode cX4_parted 36 = .ok (.iand, 1) := by decide +kernel
theorem dX4_parted_37 : decode cX4_parted 37 = .ok (.ifCond .ne 5, 3) := by decide +kernel
theorem dX4_parted_40 : decode cX4_parted 40 = .ok (.iconst 1, 1) := by decide +kernel
theorem dX4_parted_41 : decode cX4_parted 41 = .ok (.ireturn, 1) := by decide +kernel
theorem dX4_parted_42 : decode cX4_parted 42 = .ok (.iload_n 3, 1) := by decide +kernel
theorem dX4_parted_43 : decode cX4_parted 43 = .ok (.iload 5, 2) := by decide +kernel
theorem dX4_parted_45 : decode cX4_parted 45 = .ok (.iconst (-1), 1) := by decide +kernel
theorem dX4_parted_46 : decode cX4_parted 46 = .ok (.ixor, 1) := by decide +kernel
theorem dX4_parted_47 : decode cX4_parted 47 = .ok (.iand, 1) := by decide +kernel
theorem dX4_parted_48 : decode cX4_parted 48 = .ok (.istore_n 3, 1) := by decide +kernel
theorem dX4_parted_49 : decode cX4_parted 49 = .ok (.iinc 4 1, 3) := by decide +kernel
theorem dX4_parted_52 : decode cX4_parted 52 = .ok (.goto (-47), 3) := by decide +kernel
theorem dX4_parted_55 : decode cX4_parted 55 = .ok (.iconst 0, 1) := by decide +kernel
theorem dX4_parted_56 : decode cX4_parted 56 = .ok (.ireturn, 1) := by decide +kernel
theorem dX4_pipes_0 : decode cX4_pipes 0 = .ok (.iconst 0, 1) := by decide +kernel
theorem dX4_pipes_1 : decode cX4_pipes 1 = .ok (.istore_n 3, 1) := by decide +kernel
theorem dX4_pipes_2 : decode cX4_pipes 2 = .ok (.iconst 0, 1) := by decide +kernel
theorem dX4_pipes_3 : decode cX4_pipes 3 = .ok (.istore 4, 2) := by decide +kernel
theorem dX4_pipes_5 : decode cX4_pipes 5 = .ok (.iload 4, 2) := by decide +kernel
theorem dX4_pipes_7 : decode cX4_pipes 7 = .ok (.aload_n 0, 1) := by decide +kernel
theorem dX4_pipes_8 : decode cX4_pipes 8 = .ok (.getfield 56, 3) := by decide +kernel
theorem dX4_pipes_11 : decode cX4_pipes 11 = .ok (.if_icmp .ge 67, 3) := by decide +kernel
theorem dX4_pipes_14 : decode cX4_pipes 14 = .ok (.iconst 1, 1) := by decide +kernel
theorem dX4_pipes_15 : decode cX4_pipes 15 = .ok (.aload_n 0, 1) := by decide +kernel
theorem dX4_pipes_16 : decode cX4_pipes 16 = .ok (.getfield 18, 3) := by decide +kernel
theorem dX4_pipes_19 : decode cX4_pipes 19 = .ok (.iload 4, 2) := by decide +kernel
theorem dX4_pipes_21 : decode cX4_pipes 21 = .ok (.iaload, 1) := by decide +kernel
theorem dX4_pipes_22 : decode cX4_pipes 22 = .ok (.ishl, 1) := by decide +kernel
theorem dX4_pipes_23 : decode cX4_pipes 23 = .ok (.istore 5, 2) := by decide +kernel
theorem dX4_pipes_25 : decode cX4_pipes 25 = .ok (.iload 5, 2) := by decide +kernel
theorem dX4_pipes_27 : decode cX4_pipes 27 = .ok (.iload_n 1, 1) := by decide +kernel
theorem dX4_pipes_28 : decode cX4_pipes 28 = .ok (.iand, 1) := by decide +kernel
theorem dX4_pipes_29 : decode cX4_pipes 29 = .ok (.ifCond .eq 21, 3) := by decide +kernel
theorem dX4_pipes_32 : decode cX4_pipes 32 = .ok (.iload_n 3, 1) := by decide +kernel
theorem dX4_pipes_33 : decode cX4_pipes 33 = .ok (.aload_n 0, 1) := by decide +kernel
theorem dX4_pipes_34 : decode cX4_pipes 34 = .ok (.getfield 21, 3) := by decide +kernel
theorem dX4_pipes_37 : decode cX4_pipes 37 = .ok (.iload 4, 2) := by decide +kernel
theorem dX4_pipes_39 : decode cX4_pipes 39 = .ok (.iaload, 1) := by decide +kernel
theorem dX4_pipes_40 : decode cX4_pipes 40 = .ok (.iload_n 2, 1) := by decide +kernel
theorem dX4_pipes_41 : decode cX4_pipes 41 = .ok (.iand, 1) := by decide +kernel
theorem dX4_pipes_42 : decode cX4_pipes 42 = .ok (.invokestatic 59, 3) := by decide +kernel
theorem dX4_pipes_45 : decode cX4_pipes 45 = .ok (.iadd, 1) := by decide +kernel
theorem dX4_pipes_46 : decode cX4_pipes 46 = .ok (.istore_n 3, 1) := by decide +kernel
theorem dX4_pipes_47 : decode cX4_pipes 47 = .ok (.goto 25, 3) := by decide +kernel
theorem dX4_pipes_50 : decode cX4_pipes 50 = .ok (.iload 5, 2) := by decide +kernel
theorem dX4_pipes_52 : decode cX4_pipes 52 = .ok (.iload_n 2, 1) := by decide +kernel
theorem dX4_pipes_53 : decode cX4_pipes 53 = .ok (.iand, 1) := by decide +kernel
theorem dX4_pipes_54 : decode cX4_pipes 54 = .ok (.ifCond .eq 18, 3) := by decide +kernel
theorem dX4_pipes_57 : decode cX4_pipes 57 = .ok (.iload_n 3, 1) := by decide +kernel
theorem dX4_pipes_58 : decode cX4_pipes 58 = .ok (.aload_n 0, 1) := by decide +kernel
theorem dX4_pipes_59 : decode cX4_pipes 59 = .ok (.getfield 21, 3) := by decide +kernel
theorem dX4_pipes_62 : decode cX4_pipes 62 = .ok (.iload 4, 2) := by decide +kernel
theorem dX4_pipes_64 : decode cX4_pipes 64 = .ok (.iaload, 1) := by decide +kernel
theorem dX4_pipes_65 : decode cX4_pipes 65 = .ok (.iload_n 1, 1) := by decide +kernel
theorem dX4_pipes_66 : decode cX4_pipes 66 = .ok (.iand, 1) := by decide +kernel
theorem dX4_pipes_67 : decode cX4_pipes 67 = .ok (.invokestatic 59, 3) := by decide +kernel
theorem dX4_pipes_70 : decode cX4_pipes 70 = .ok (.iadd, 1) := by decide +kernel
theorem dX4_pipes_71 : decode cX4_pipes 71 = .ok (.istore_n 3, 1) := by decide +kernel
theorem dX4_pipes_72 : decode cX4_pipes 72 = .ok (.iinc 4 1, 3) := by decide +kernel
theorem dX4_pipes_75 : decode cX4_pipes 75 = .ok (.goto (-70), 3) := by decide +kernel
theorem dX4_pipes_78 : decode cX4_pipes 78 = .ok (.iload_n 3, 1) := by decide +kernel
theorem dX4_pipes_79 : decode cX4_pipes 79 = .ok (.ireturn, 1) := by decide +kernel
theorem dX4_tracks_0 : decode cX4_tracks 0 = .ok (.aload_n 0, 1) := by decide +kernel
theorem dX4_tracks_1 : decode cX4_tracks 1 = .ok (.getfield 50, 3) := by decide +kernel
theorem dX4_tracks_4 : decode cX4_tracks 4 = .ok (.iload_n 1, 1) := by decide +kernel
theorem dX4_tracks_5 : decode cX4_tracks 5 = .ok (.ishr, 1) := by decide +kernel
theorem dX4_tracks_6 : decode cX4_tracks 6 = .ok (.iconst 1, 1) := by decide +kernel
theorem dX4_tracks_7 : decode cX4_tracks 7 = .ok (.iand, 1) := by decide +kernel
theorem dX4_tracks_8 : decode cX4_tracks 8 = .ok (.ifCond .ne 5, 3) := by decide +kernel
theorem dX4_tracks_11 : decode cX4_tracks 11 = .ok (.iconst 0, 1) := by decide +kernel
theorem dX4_tracks_12 : decode cX4_tracks 12 = .ok (.ireturn, 1) := by decide +kernel
theorem dX4_tracks_13 : decode cX4_tracks 13 = .ok (.aload_n 0, 1) := by decide +kernel
theorem dX4_tracks_14 : decode cX4_tracks 14 = .ok (.iconst 1, 1) := by decide +kernel
theorem dX4_tracks_15 : decode cX4_tracks 15 = .ok (.iload_n 1, 1) := by decide +kernel
theorem dX4_tracks_16 : decode cX4_tracks 16 = .ok (.ishl, 1) := by decide +kernel
theorem dX4_tracks_17 : decode cX4_tracks 17 = .ok (.invokevirtual 65, 3) := by decide +kernel
theorem dX4_tracks_20 : decode cX4_tracks 20 = .ok (.iload_n 2, 1) := by decide +kernel
theorem dX4_tracks_21 : decode cX4_tracks 21 = .ok (.iand, 1) := by decide +kernel
theorem dX4_tracks_22 : decode cX4_tracks 22 = .ok (.aload_n 0, 1) := by decide +kernel
theorem dX4_tracks_23 : decode cX4_tracks 23 = .ok (.getfield 50, 3) := by decide +kernel
theorem dX4_tracks_26 : decode cX4_tracks 26 = .ok (.iand, 1) := by decide +kernel
theorem dX4_tracks_27 : decode cX4_tracks 27 = .ok (.invokestatic 59, 3) := by decide +kernel
theorem dX4_tracks_30 : decode cX4_tracks 30 = .ok (.ireturn, 1) := by decide +kernel
theorem dX4_cut_0 : decode cX4_cut 0 = .ok (.aload_n 0, 1) := by decide +kernel
theorem dX4_cut_1 : decode cX4_cut 1 = .ok (.iload_n 1, 1) := by decide +kernel
theorem dX4_cut_2 : decode cX4_cut 2 = .ok (.aload_n 0, 1) := by decide +kernel
theorem dX4_cut_3 : decode cX4_cut 3 = .ok (.getfield 35, 3) := by decide +kernel
theorem dX4_cut_6 : decode cX4_cut 6 = .ok (.iload_n 1, 1) := by decide +kernel
theorem dX4_cut_7 : decode cX4_cut 7 = .ok (.iconst (-1), 1) := by decide +kernel
theorem dX4_cut_8 : decode cX4_cut 8 = .ok (.ixor, 1) := by decide +kernel
theorem dX4_cut_9 : decode cX4_cut 9 = .ok (.iand, 1) := by decide +kernel
theorem dX4_cut_10 : decode cX4_cut 10 = .ok (.invokevirtual 71, 3) := by decide +kernel
theorem dX4_cut_13 : decode cX4_cut 13 = .ok (.ireturn, 1) := by decide +kernel
theorem dX4_severed_0 : decode cX4_severed 0 = .ok (.iconst 0, 1) := by decide +kernel
theorem dX4_severed_1 : decode cX4_severed 1 = .ok (.istore_n 2, 1) := by decide +kernel
theorem dX4_severed_2 : decode cX4_severed 2 = .ok (.iconst 0, 1) := by decide +kernel
theorem dX4_severed_3 : decode cX4_severed 3 = .ok (.istore_n 3, 1) := by decide +kernel
theorem dX4_severed_4 : decode cX4_severed 4 = .ok (.iload_n 3, 1) := by decide +kernel
theorem dX4_severed_5 : decode cX4_severed 5 = .ok (.aload_n 0, 1) := by decide +kernel
theorem dX4_severed_6 : decode cX4_severed 6 = .ok (.getfield 32, 3) := by decide +kernel
theorem dX4_severed_9 : decode cX4_severed 9 = .ok (.if_icmp .ge 33, 3) := by decide +kernel
theorem dX4_severed_12 : decode cX4_severed 12 = .ok (.iload_n 1, 1) := by decide +kernel
theorem dX4_severed_13 : decode cX4_severed 13 = .ok (.iload_n 3, 1) := by decide +kernel
theorem dX4_severed_14 : decode cX4_severed 14 = .ok (.ishr, 1) := by decide +kernel
theorem dX4_severed_15 : decode cX4_severed 15 = .ok (.iconst 1, 1) := by decide +kernel
theorem dX4_severed_16 : decode cX4_severed 16 = .ok (.iand, 1) := by decide +kernel
theorem dX4_severed_17 : decode cX4_severed 17 = .ok (.ifCond .eq 19, 3) := by decide +kernel
theorem dX4_severed_20 : decode cX4_severed 20 = .ok (.iload_n 2, 1) := by decide +kernel
theorem dX4_severed_21 : decode cX4_severed 21 = .ok (.aload_n 0, 1) := by decide +kernel
theorem dX4_severed_22 : decode cX4_severed 22 = .ok (.iload_n 3, 1) := by decide +kernel
theorem dX4_severed_23 : decode cX4_severed 23 = .ok (.aload_n 0, 1) := by decide +kernel
theorem dX4_severed_24 : decode cX4_severed 24 = .ok (.getfield 35, 3) := by decide +kernel
theorem dX4_severed_27 : decode cX4_severed 27 = .ok (.iload_n 1, 1) := by decide +kernel
theorem dX4_severed_28 : decode cX4_severed 28 = .ok (.iconst (-1), 1) := by decide +kernel
theorem dX4_severed_29 : decode cX4_severed 29 = .ok (.ixor, 1) := by decide +kernel
theorem dX4_severed_30 : decode cX4_severed 30 = .ok (.iand, 1) := by decide +kernel
theorem dX4_severed_31 : decode cX4_severed 31 = .ok (.invokevirtual 75, 3) := by decide +kernel
theorem dX4_severed_34 : decode cX4_severed 34 = .ok (.iadd, 1) := by decide +kernel
theorem dX4_severed_35 : decode cX4_severed 35 = .ok (.istore_n 2, 1) := by decide +kernel
theorem dX4_severed_36 : decode cX4_severed 36 = .ok (.iinc 3 1, 3) := by decide +kernel
theorem dX4_severed_39 : decode cX4_severed 39 = .ok (.goto (-35), 3) := by decide +kernel
theorem dX4_severed_42 : decode cX4_severed 42 = .ok (.iload_n 2, 1) := by decide +kernel
theorem dX4_severed_43 : decode cX4_severed 43 = .ok (.ireturn, 1) := by decide +kernel
theorem dX4_desecrated_0 : decode cX4_desecrated 0 = .ok (.aload_n 0, 1) := by decide +kernel
theorem dX4_desecrated_1 : decode cX4_desecrated 1 = .ok (.getfield 15, 3) := by decide +kernel
theorem dX4_desecrated_4 : decode cX4_desecrated 4 = .ok (.iconst 0, 1) := by decide +kernel
theorem dX4_desecrated_5 : decode cX4_desecrated 5 = .ok (.iaload, 1) := by decide +kernel
theorem dX4_desecrated_6 : decode cX4_desecrated 6 = .ok (.iload_n 1, 1) := by decide +kernel
theorem dX4_desecrated_7 : decode cX4_desecrated 7 = .ok (.iconst (-1), 1) := by decide +kernel
theorem dX4_desecrated_8 : decode cX4_desecrated 8 = .ok (.ixor, 1) := by decide +kernel
theorem dX4_desecrated_9 : decode cX4_desecrated 9 = .ok (.iand, 1) := by decide +kernel
theorem dX4_desecrated_10 : decode cX4_desecrated 10 = .ok (.invokestatic 59, 3) := by decide +kernel
theorem dX4_desecrated_13 : decode cX4_desecrated 13 = .ok (.aload_n 0, 1) := by decide +kernel
theorem dX4_desecrated_14 : decode cX4_desecrated 14 = .ok (.getfield 15, 3) := by decide +kernel
theorem dX4_desecrated_17 : decode cX4_desecrated 17 = .ok (.iconst 1, 1) := by decide +kernel
theorem dX4_desecrated_18 : decode cX4_desecrated 18 = .ok (.iaload, 1) := by decide +kernel
theorem dX4_desecrated_19 : decode cX4_desecrated 19 = .ok (.iload_n 1, 1) := by decide +kernel
theorem dX4_desecrated_20 : decode cX4_desecrated 20 = .ok (.iand, 1) := by decide +kernel
theorem dX4_desecrated_21 : decode cX4_desecrated 21 = .ok (.invokestatic 59, 3) := by decide +kernel
theorem dX4_desecrated_24 : decode cX4_desecrated 24 = .ok (.iadd, 1) := by decide +kernel
theorem dX4_desecrated_25 : decode cX4_desecrated 25 = .ok (.ireturn, 1) := by decide +kernel
