theorem dX0_init_0 : decode cX0_init 0 = .ok (.aload_n 0, 1) := by decide +kernel
theorem dX0_init_1 : decode cX0_init 1 = .ok (.invokespecial 3, 3) := by decide +kernel
theorem dX0_init_4 : decode cX0_init 4 = .ok (.aload_n 0, 1) := by decide +kernel
theorem dX0_init_5 : decode cX0_init 5 = .ok (.iconst 4, 1) := by decide +kernel
theorem dX0_init_6 : decode cX0_init 6 = .ok (.newarray .int, 2) := by decide +kernel
theorem dX0_init_8 : decode cX0_init 8 = .ok (.putfield 9, 3) := by decide +kernel
theorem dX0_init_11 : decode cX0_init 11 = .ok (.aload_n 0, 1) := by decide +kernel
theorem dX0_init_12 : decode cX0_init 12 = .ok (.iconst 2, 1) := by decide +kernel
theorem dX0_init_13 : decode cX0_init 13 = .ok (.bipush 25, 2) := by decide +kernel
theorem dX0_init_15 : decode cX0_init 15 = .ok (.multianewarray 15 2, 4) := by decide +kernel
theorem dX0_init_19 : decode cX0_init 19 = .ok (.putfield 17, 3) := by decide +kernel
theorem dX0_init_22 : decode cX0_init 22 = .ok (.aload_n 0, 1) := by decide +kernel
theorem dX0_init_23 : decode cX0_init 23 = .ok (.iconst 2, 1) := by decide +kernel
theorem dX0_init_24 : decode cX0_init 24 = .ok (.bipush 25, 2) := by decide +kernel
theorem dX0_init_26 : decode cX0_init 26 = .ok (.multianewarray 15 2, 4) := by decide +kernel
theorem dX0_init_30 : decode cX0_init 30 = .ok (.putfield 20, 3) := by decide +kernel
theorem dX0_init_33 : decode cX0_init 33 = .ok (.aload_n 0, 1) := by decide +kernel
theorem dX0_init_34 : decode cX0_init 34 = .ok (.iconst 2, 1) := by decide +kernel
theorem dX0_init_35 : decode cX0_init 35 = .ok (.bipush 25, 2) := by decide +kernel
theorem dX0_init_37 : decode cX0_init 37 = .ok (.multianewarray 15 2, 4) := by decide +kernel
theorem dX0_init_41 : decode cX0_init 41 = .ok (.putfield 23, 3) := by decide +kernel
theorem dX0_init_44 : decode cX0_init 44 = .ok (.aload_n 0, 1) := by decide +kernel
theorem dX0_init_45 : decode cX0_init 45 = .ok (.aload_n 1, 1) := by decide +kernel
theorem dX0_init_46 : decode cX0_init 46 = .ok (.putfield 26, 3) := by decide +kernel
theorem dX0_init_49 : decode cX0_init 49 = .ok (.aload_n 0, 1) := by decide +kernel
theorem dX0_init_50 : decode cX0_init 50 = .ok (.aload_n 2, 1) := by decide +kernel
theorem dX0_init_51 : decode cX0_init 51 = .ok (.putfield 30, 3) := by decide +kernel
theorem dX0_init_54 : decode cX0_init 54 = .ok (.return_, 1) := by decide +kernel
theorem dX0_take_0 : decode cX0_take 0 = .ok (.aload_n 0, 1) := by decide +kernel
theorem dX0_take_1 : decode cX0_take 1 = .ok (.getfield 30, 3) := by decide +kernel
theorem dX0_take_4 : decode cX0_take 4 = .ok (.iload_n 1, 1) := by decide +kernel
theorem dX0_take_5 : decode cX0_take 5 = .ok (.invokevirtual 34, 3) := by decide +kernel
theorem dX0_take_8 : decode cX0_take 8 = .ok (.iconst 0, 1) := by decide +kernel
theorem dX0_take_9 : decode cX0_take 9 = .ok (.istore_n 2, 1) := by decide +kernel
theorem dX0_take_10 : decode cX0_take 10 = .ok (.iload_n 2, 1) := by decide +kernel
theorem dX0_take_11 : decode cX0_take 11 = .ok (.iconst 2, 1) := by decide +kernel
theorem dX0_take_12 : decode cX0_take 12 = .ok (.if_icmp .ge 30, 3) := by decide +kernel
theorem dX0_take_15 : decode cX0_take 15 = .ok (.aload_n 0, 1) := by decide +kernel
theorem dX0_take_16 : decode cX0_take 16 = .ok (.getfield 17, 3) := by decide +kernel
theorem dX0_take_19 : decode cX0_take 19 = .ok (.iload_n 2, 1) := by decide +kernel
theorem dX0_take_20 : decode cX0_take 20 = .ok (.aaload, 1) := by decide +kernel
theorem dX0_take_21 : decode cX0_take 21 = .ok (.iconst 0, 1) := by decide +kernel
theorem dX0_take_22 : decode cX0_take 22 = .ok (.invokestatic 40, 3) := by decide +kernel
theorem dX0_take_25 : decode cX0_take 25 = .ok (.aload_n 0, 1) := by decide +kernel
theorem dX0_take_26 : decode cX0_take 26 = .ok (.getfield 20, 3) := by decide +kernel
theorem dX0_take_29 : decode cX0_take 29 = .ok (.iload_n 2, 1) := by decide +kernel
theorem dX0_take_30 : decode cX0_take 30 = .ok (.aaload, 1) := by decide +kernel
theorem dX0_take_31 : decode cX0_take 31 = .ok (.ldc 46, 2) := by decide +kernel
theorem dX0_take_33 : decode cX0_take 33 = .ok (.invokestatic 40, 3) := by decide +kernel
theorem dX0_take_36 : decode cX0_take 36 = .ok (.iinc 2 1, 3) := by decide +kernel
theorem dX0_take_39 : decode cX0_take 39 = .ok (.goto (-29), 3) := by decide +kernel
theorem dX0_take_42 : decode cX0_take 42 = .ok (.iconst 0, 1) := by decide +kernel
theorem dX0_take_43 : decode cX0_take 43 = .ok (.istore_n 2, 1) := by decide +kernel
theorem dX0_take_44 : decode cX0_take 44 = .ok (.iload_n 2, 1) := by decide +kernel
theorem dX0_take_45 : decode cX0_take 45 = .ok (.aload_n 0, 1) := by decide +kernel
theorem dX0_take_46 : decode cX0_take 46 = .ok (.getfield 30, 3) := by decide +kernel
theorem dX0_take_49 : decode cX0_take 49 = .ok (.getfield 47, 3) := by decide +kernel
theorem dX0_take_52 : decode cX0_take 52 = .ok (.if_icmp .ge 103, 3) := by decide +kernel
theorem dX0_take_55 : decode cX0_take 55 = .ok (.aload_n 0, 1) := by decide +kernel
theorem dX0_take_56 : decode cX0_take 56 = .ok (.getfield 30, 3) := by decide +kernel
theorem dX0_take_59 : decode cX0_take 59 = .ok (.iload_n 2, 1) := by decide +kernel
theorem dX0_take_60 : decode cX0_take 60 = .ok (.iconst 3, 1) := by decide +kernel
theorem dX0_take_61 : decode cX0_take 61 = .ok (.invokevirtual 51, 3) := by decide +kernel
theorem dX0_take_64 : decode cX0_take 64 = .ok (.ifCond .eq 85, 3) := by decide +kernel
theorem dX0_take_67 : decode cX0_take 67 = .ok (.aload_n 0, 1) := by decide +kernel
theorem dX0_take_68 : decode cX0_take 68 = .ok (.getfield 26, 3) := by decide +kernel
theorem dX0_take_71 : decode cX0_take 71 = .ok (.aload_n 0, 1) := by decide +kernel
theorem dX0_take_72 : decode cX0_take 72 = .ok (.getfield 30, 3) := by decide +kernel
theorem dX0_take_75 : decode cX0_take 75 = .ok (.getfield 55, 3) := by decide +kernel
theorem dX0_take_78 : decode cX0_take 78 = .ok (.iload_n 2, 1) := by decide +kernel
theorem dX0_take_79 : decode cX0_take 79 = .ok (.iaload, 1) := by decide +kernel
theorem dX0_take_80 : decode cX0_take 80 = .ok (.invokevirtual 58, 3) := by decide +kernel
theorem dX0_take_83 : decode cX0_take 83 = .ok (.ifCond .eq 66, 3) := by decide +kernel
theorem dX0_take_86 : decode cX0_take 86 = .ok (.aload_n 0, 1) := by decide +kernel
theorem dX0_take_87 : decode cX0_take 87 = .ok (.getfield 9, 3) := by decide +kernel
theorem dX0_take_90 : decode cX0_take 90 = .ok (.aload_n 0, 1) := by decide +kernel
theorem dX0_take_91 : decode cX0_take 91 = .ok (.getfield 30, 3) := by decide +kernel
theorem dX0_take_94 : decode cX0_take 94 = .ok (.getfield 64, 3) := by decide +kernel
theorem dX0_take_97 : decode cX0_take 97 = .ok (.iload_n 2, 1) := by decide +kernel
theorem dX0_take_98 : decode cX0_take 98 = .ok (.iaload, 1) := by decide +kernel
theorem dX0_take_99 : decode cX0_take 99 = .ok (.iaload, 1) := by decide +kernel
theorem dX0_take_100 : decode cX0_take 100 = .ok (.istore_n 3, 1) := by decide +kernel
theorem dX0_take_101 : decode cX0_take 101 = .ok (.aload_n 0, 1) := by decide +kernel
theorem dX0_take_102 : decode cX0_take 102 = .ok (.iconst 0, 1) := by decide +kernel
theorem dX0_take_103 : decode cX0_take 103 = .ok (.aload_n 0, 1) := by decide +kernel
theorem dX0_take_104 : decode cX0_take 104 = .ok (.getfield 30, 3) := by decide +kernel
theorem dX0_take_107 : decode cX0_take 107 = .ok (.getfield 55, 3) := by decide +kernel
theorem dX0_take_110 : decode cX0_take 110 = .ok (.iload_n 2, 1) := by decide +kernel
theorem dX0_take_111 : decode cX0_take 111 = .ok (.iaload, 1) := by decide +kernel
theorem dX0_take_112 : decode cX0_take 112 = .ok (.aload_n 0, 1) := by decide +kernel
theorem dX0_take_113 : decode cX0_take 113 = .ok (.getfield 30, 3) := by decide +kernel
theorem dX0_take_116 : decode cX0_take 116 = .ok (.getfield 67, 3) := by decide +kernel
theorem dX0_take_119 : decode cX0_take 119 = .ok (.iload_n 2, 1) := by decide +kernel
theorem dX0_take_120 : decode cX0_take 120 = .ok (.iaload, 1) := by decide +kernel
theorem dX0_take_121 : decode cX0_take 121 = .ok (.iload_n 3, 1) := by decide +kernel
theorem dX0_take_122 : decode cX0_take 122 = .ok (.invokevirtual 70, 3) := by decide +kernel
theorem dX0_take_125 : decode cX0_take 125 = .ok (.aload_n 0, 1) := by decide +kernel
theorem dX0_take_126 : decode cX0_take 126 = .ok (.iconst 1, 1) := by decide +kernel
theorem dX0_take_127 : decode cX0_take 127 = .ok (.aload_n 0, 1) := by decide +kernel
theorem dX0_take_128 : decode cX0_take 128 = .ok (.getfield 30, 3) := by decide +kernel
theorem dX0_take_131 : decode cX0_take 131 = .ok (.getfield 55, 3) := by decide +kernel
theorem dX0_take_134 : decode cX0_take 134 = .ok (.iload_n 2, 1) := by decide +kernel
theorem dX0_take_135 : decode cX0_take 135 = .ok (.iaload, 1) := by decide +kernel
theorem dX0_take_136 : decode cX0_take 136 = .ok (.aload_n 0, 1) := by decide +kernel
theorem dX0_take_137 : decode cX0_take 137 = .ok (.getfield 30, 3) := by decide +kernel
theorem dX0_take_140 : decode cX0_take 140 = .ok (.getfield 74, 3) := by decide +kernel
theorem dX0_take_143 : decode cX0_take 143 = .ok (.iload_n 2, 1) := by decide +kernel
theorem dX0_take_144 : decode cX0_take 144 = .ok (.iaload, 1) := by decide +kernel
theorem dX0_take_145 : decode cX0_take 145 = .ok (.iload_n 3, 1) := by decide +kernel
theorem dX0_take_146 : decode cX0_take 146 = .ok (.invokevirtual 70, 3) := by decide +kernel
theorem dX0_take_149 : decode cX0_take 149 = .ok (.iinc 2 1, 3) := by decide +kernel
theorem dX0_take_152 : decode cX0_take 152 = .ok (.goto (-108), 3) := by decide +kernel
theorem dX0_take_155 : decode cX0_take 155 = .ok (.iconst 0, 1) := by decide +kernel
theorem dX0_take_156 : decode cX0_take 156 = .ok (.istore_n 2, 1) := by decide +kernel
theorem dX0_take_157 : decode cX0_take 157 = .ok (.iload_n 2, 1) := by decide +kernel
theorem dX0_take_158 : decode cX0_take 158 = .ok (.aload_n 0, 1) := by decide +kernel
theorem dX0_take_159 : decode cX0_take 159 = .ok (.getfield 26, 3) := by decide +kernel
theorem dX0_take_162 : decode cX0_take 162 = .ok (.getfield 77, 3) := by decide +kernel
theorem dX0_take_165 : decode cX0_take 165 = .ok (.if_icmp .ge 21, 3) := by decide +kernel
theorem dX0_take_168 : decode cX0_take 168 = .ok (.aload_n 0, 1) := by decide +kernel
theorem dX0_take_169 : decode cX0_take 169 = .ok (.iconst 0, 1) := by decide +kernel
theorem dX0_take_170 : decode cX0_take 170 = .ok (.iload_n 2, 1) := by decide +kernel
theorem dX0_take_171 : decode cX0_take 171 = .ok (.invokevirtual 80, 3) := by decide +kernel
theorem dX0_take_174 : decode cX0_take 174 = .ok (.aload_n 0, 1) := by decide +kernel
theorem dX0_take_175 : decode cX0_take 175 = .ok (.iconst 1, 1) := by decide +kernel
theorem dX0_take_176 : decode cX0_take 176 = .ok (.iload_n 2, 1) := by decide +kernel
theorem dX0_take_177 : decode cX0_take 177 = .ok (.invokevirtual 80, 3) := by decide +kernel
theorem dX0_take_180 : decode cX0_take 180 = .ok (.iinc 2 1, 3) := by decide +kernel
theorem dX0_take_183 : decode cX0_take 183 = .ok (.goto (-26), 3) := by decide +kernel
theorem dX0_take_186 : decode cX0_take 186 = .ok (.return_, 1) := by decide +kernel
theorem dX0_narrow_0 : decode cX0_narrow 0 = .ok (.iload_n 3, 1) := by decide +kernel
theorem dX0_narrow_1 : decode cX0_narrow 1 = .ok (.bipush 100, 2) := by decide +kernel
theorem dX0_narrow_3 : decode cX0_narrow 3 = .ok (.iload 4, 2) := by decide +kernel
theorem dX0_narrow_5 : decode cX0_narrow 5 = .ok (.isub, 1) := by decide +kernel
theorem dX0_narrow_6 : decode cX0_narrow 6 = .ok (.imul, 1) := by decide +kernel
theorem dX0_narrow_7 : decode cX0_narrow 7 = .ok (.bipush 100, 2) := by decide +kernel
theorem dX0_narrow_9 : decode cX0_narrow 9 = .ok (.idiv, 1) := by decide +kernel
theorem dX0_narrow_10 : decode cX0_narrow 10 = .ok (.istore 5, 2) := by decide +kernel
theorem dX0_narrow_12 : decode cX0_narrow 12 = .ok (.iload_n 3, 1) := by decide +kernel
theorem dX0_narrow_13 : decode cX0_narrow 13 = .ok (.bipush 100, 2) := by decide +kernel
theorem dX0_narrow_15 : decode cX0_narrow 15 = .ok (.iload 4, 2) := by decide +kernel
theorem dX0_narrow_17 : decode cX0_narrow 17 = .ok (.iadd, 1) := by decide +kernel
theorem dX0_narrow_18 : decode cX0_narrow 18 = .ok (.invokestatic 84, 3) := by decide +kernel
theorem dX0_narrow_21 : decode cX0_narrow 21 = .ok (.istore 6, 2) := by decide +kernel
theorem dX0_narrow_23 : decode cX0_narrow 23 = .ok (.aload_n 0, 1) := by decide +kernel
theorem dX0_narrow_24 : decode cX0_narrow 24 = .ok (.getfield 17, 3) := by decide +kernel
theorem dX0_narrow_27 : decode cX0_narrow 27 = .ok (.iload_n 1, 1) := by decide +kernel
theorem dX0_narrow_28 : decode cX0_narrow 28 = .ok (.aaload, 1) := by decide +kernel
theorem dX0_narrow_29 : decode cX0_narrow 29 = .ok (.iload_n 2, 1) := by decide +kernel
theorem dX0_narrow_30 : decode cX0_narrow 30 = .ok (.aload_n 0, 1) := by decide +kernel
theorem dX0_narrow_31 : decode cX0_narrow 31 = .ok (.getfield 17, 3) := by decide +kernel
theorem dX0_narrow_34 : decode cX0_narrow 34 = .ok (.iload_n 1, 1) := by decide +kernel
theorem dX0_narrow_35 : decode cX0_narrow 35 = .ok (.aaload, 1) := by decide +kernel
theorem dX0_narrow_36 : decode cX0_narrow 36 = .ok (.iload_n 2, 1) := by decide +kernel
theorem dX0_narrow_37 : decode cX0_narrow 37 = .ok (.iaload, 1) := by decide +kernel
theorem dX0_narrow_38 : decode cX0_narrow 38 = .ok (.iload 5, 2) := by decide +kernel
theorem dX0_narrow_40 : decode cX0_narrow 40 = .ok (.invokestatic 88, 3) := by decide +kernel
theorem dX0_narrow_43 : decode cX0_narrow 43 = .ok (.iastore, 1) := by decide +kernel
theorem dX0_narrow_44 : decode cX0_narrow 44 = .ok (.aload_n 0, 1) := by decide +kernel
theorem dX0_narrow_45 : decode cX0_narrow 45 = .ok (.getfield 20, 3) := by decide +kernel
theorem dX0_narrow_48 : decode cX0_narrow 48 = .ok (.iload_n 1, 1) := by decide +kernel
theorem dX0_narrow_49 : decode cX0_narrow 49 = .ok (.aaload, 1) := by decide +kernel
theorem dX0_narrow_50 : decode cX0_narrow 50 = .ok (.iload_n 2, 1) := by decide +kernel
theorem dX0_narrow_51 : decode cX0_narrow 51 = .ok (.aload_n 0, 1) := by decide +kernel
theorem dX0_narrow_52 : decode cX0_narrow 52 = .ok (.getfield 20, 3) := by decide +kernel
theorem dX0_narrow_55 : decode cX0_narrow 55 = .ok (.iload_n 1, 1) := by decide +kernel
theorem dX0_narrow_56 : decode cX0_narrow 56 = .ok (.aaload, 1) := by decide +kernel
theorem dX0_narrow_57 : decode cX0_narrow 57 = .ok (.iload_n 2, 1) := by decide +kernel
theorem dX0_narrow_58 : decode cX0_narrow 58 = .ok (.iaload, 1) := by decide +kernel
theorem dX0_narrow_59 : decode cX0_narrow 59 = .ok (.iload 6, 2) := by decide +kernel
theorem dX0_narrow_61 : decode cX0_narrow 61 = .ok (.invokestatic 93, 3) := by decide +kernel
theorem dX0_narrow_64 : decode cX0_narrow 64 = .ok (.iastore, 1) := by decide +kernel
theorem dX0_narrow_65 : decode cX0_narrow 65 = .ok (.return_, 1) := by decide +kernel
theorem dX0_close_0 : decode cX0_close 0 = .ok (.aload_n 0, 1) := by decide +kernel
theorem dX0_close_1 : decode cX0_close 1 = .ok (.getfield 20, 3) := by decide +kernel
theorem dX0_close_4 : decode cX0_close 4 = .ok (.iload_n 1, 1) := by decide +kernel
theorem dX0_close_5 : decode cX0_close 5 = .ok (.aaload, 1) := by decide +kernel
theorem dX0_close_6 : decode cX0_close 6 = .ok (.iload_n 2, 1) := by decide +kernel
theorem dX0_close_7 : decode cX0_close 7 = .ok (.iaload, 1) := by decide +kernel
theorem dX0_close_8 : decode cX0_close 8 = .ok (.ldc 46, 2) := by decide +kernel
theorem dX0_close_10 : decode cX0_close 10 = .ok (.if_icmp .ne 14, 3) := by decide +kernel
theorem dX0_close_13 : decode cX0_close 13 = .ok (.aload_n 0, 1) := by decide +kernel
theorem dX0_close_14 : decode cX0_close 14 = .ok (.getfield 20, 3) := by decide +kernel
theorem dX0_close_17 : decode cX0_close 17 = .ok (.iload_n 1, 1) := by decide +kernel
theorem dX0_close_18 : decode cX0_close 18 = .ok (.aaload, 1) := by decide +kernel
theorem dX0_close_19 : decode cX0_close 19 = .ok (.iload_n 2, 1) := by decide +kernel
theorem dX0_close_20 : decode cX0_close 20 = .ok (.sipush 999, 3) := by decide +kernel
theorem dX0_close_23 : decode cX0_close 23 = .ok (.iastore, 1) := by decide +kernel
theorem dX0_close_24 : decode cX0_close 24 = .ok (.aload_n 0, 1) := by decide +kernel
theorem dX0_close_25 : decode cX0_close 25 = .ok (.getfield 17, 3) := by decide +kernel
theorem dX0_close_28 : decode cX0_close 28 = .ok (.iload_n 1, 1) := by decide +kernel
theorem dX0_close_29 : decode cX0_close 29 = .ok (.aaload, 1) := by decide +kernel
theorem dX0_close_30 : decode cX0_close 30 = .ok (.iload_n 2, 1) := by decide +kernel
theorem dX0_close_31 : decode cX0_close 31 = .ok (.iaload, 1) := by decide +kernel
theorem dX0_close_32 : decode cX0_close 32 = .ok (.istore_n 3, 1) := by decide +kernel
theorem dX0_close_33 : decode cX0_close 33 = .ok (.aload_n 0, 1) := by decide +kernel
theorem dX0_close_34 : decode cX0_close 34 = .ok (.getfield 20, 3) := by decide +kernel
theorem dX0_close_37 : decode cX0_close 37 = .ok (.iload_n 1, 1) := by decide +kernel
theorem dX0_close_38 : decode cX0_close 38 = .ok (.aaload, 1) := by decide +kernel
theorem dX0_close_39 : decode cX0_close 39 = .ok (.iload_n 2, 1) := by decide +kernel
theorem dX0_close_40 : decode cX0_close 40 = .ok (.iaload, 1) := by decide +kernel
theorem dX0_close_41 : decode cX0_close 41 = .ok (.istore 4, 2) := by decide +kernel
theorem dX0_close_43 : decode cX0_close 43 = .ok (.aload_n 0, 1) := by decide +kernel
theorem dX0_close_44 : decode cX0_close 44 = .ok (.getfield 23, 3) := by decide +kernel
theorem dX0_close_47 : decode cX0_close 47 = .ok (.iload_n 1, 1) := by decide +kernel
theorem dX0_close_48 : decode cX0_close 48 = .ok (.aaload, 1) := by decide +kernel
theorem dX0_close_49 : decode cX0_close 49 = .ok (.iload_n 2, 1) := by decide +kernel
theorem dX0_close_50 : decode cX0_close 50 = .ok (.iload_n 3, 1) := by decide +kernel
theorem dX0_close_51 : decode cX0_close 51 = .ok (.iload 4, 2) := by decide +kernel
theorem dX0_close_53 : decode cX0_close 53 = .ok (.if_icmp .le 7, 3) := by decide +kernel
theorem dX0_close_56 : decode cX0_close 56 = .ok (.iconst 0, 1) := by decide +kernel
theorem dX0_close_57 : decode cX0_close 57 = .ok (.goto 9, 3) := by decide +kernel
theorem dX0_close_60 : decode cX0_close 60 = .ok (.iload_n 3, 1) := by decide +kernel
theorem dX0_close_61 : decode cX0_close 61 = .ok (.iload 4, 2) := by decide +kernel
theorem dX0_close_63 : decode cX0_close 63 = .ok (.iadd, 1) := by decide +kernel
theorem dX0_close_64 : decode cX0_close 64 = .ok (.iconst 2, 1) := by decide +kernel
theorem dX0_close_65 : decode cX0_close 65 = .ok (.idiv, 1) := by decide +kernel
theorem dX0_close_66 : decode cX0_close 66 = .ok (.iastore, 1) := by decide +kernel
theorem dX0_close_67 : decode cX0_close 67 = .ok (.return_, 1) := by decide +kernel
