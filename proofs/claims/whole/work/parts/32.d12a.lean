theorem dX12_thrown_0 : decode cX12_thrown 0 = .ok (.aload_n 0, 1) := by decide +kernel
theorem dX12_thrown_1 : decode cX12_thrown 1 = .ok (.getfield 110, 3) := by decide +kernel
theorem dX12_thrown_4 : decode cX12_thrown 4 = .ok (.ireturn, 1) := by decide +kernel
theorem dX12_feed_0 : decode cX12_feed 0 = .ok (.aload_n 0, 1) := by decide +kernel
theorem dX12_feed_1 : decode cX12_feed 1 = .ok (.iconst 0, 1) := by decide +kernel
theorem dX12_feed_2 : decode cX12_feed 2 = .ok (.putfield 110, 3) := by decide +kernel
theorem dX12_feed_5 : decode cX12_feed 5 = .ok (.aload_n 0, 1) := by decide +kernel
theorem dX12_feed_6 : decode cX12_feed 6 = .ok (.getfield 113, 3) := by decide +kernel
theorem dX12_feed_9 : decode cX12_feed 9 = .ok (.sipush 380, 3) := by decide +kernel
theorem dX12_feed_12 : decode cX12_feed 12 = .ok (.if_icmp .le 5, 3) := by decide +kernel
theorem dX12_feed_15 : decode cX12_feed 15 = .ok (.iconst (-1), 1) := by decide +kernel
theorem dX12_feed_16 : decode cX12_feed 16 = .ok (.ireturn, 1) := by decide +kernel
theorem dX12_feed_17 : decode cX12_feed 17 = .ok (.iconst 0, 1) := by decide +kernel
theorem dX12_feed_18 : decode cX12_feed 18 = .ok (.istore 6, 2) := by decide +kernel
theorem dX12_feed_20 : decode cX12_feed 20 = .ok (.iload 6, 2) := by decide +kernel
theorem dX12_feed_22 : decode cX12_feed 22 = .ok (.bipush 20, 2) := by decide +kernel
theorem dX12_feed_24 : decode cX12_feed 24 = .ok (.if_icmp .ge 86, 3) := by decide +kernel
theorem dX12_feed_27 : decode cX12_feed 27 = .ok (.iload 6, 2) := by decide +kernel
theorem dX12_feed_29 : decode cX12_feed 29 = .ok (.iconst 4, 1) := by decide +kernel
theorem dX12_feed_30 : decode cX12_feed 30 = .ok (.if_icmp .ge 7, 3) := by decide +kernel
theorem dX12_feed_33 : decode cX12_feed 33 = .ok (.iload_n 1, 1) := by decide +kernel
theorem dX12_feed_34 : decode cX12_feed 34 = .ok (.goto 39, 3) := by decide +kernel
theorem dX12_feed_37 : decode cX12_feed 37 = .ok (.iload 6, 2) := by decide +kernel
theorem dX12_feed_39 : decode cX12_feed 39 = .ok (.bipush 8, 2) := by decide +kernel
theorem dX12_feed_41 : decode cX12_feed 41 = .ok (.if_icmp .ge 7, 3) := by decide +kernel
theorem dX12_feed_44 : decode cX12_feed 44 = .ok (.iload_n 2, 1) := by decide +kernel
theorem dX12_feed_45 : decode cX12_feed 45 = .ok (.goto 28, 3) := by decide +kernel
theorem dX12_feed_48 : decode cX12_feed 48 = .ok (.iload 6, 2) := by decide +kernel
theorem dX12_feed_50 : decode cX12_feed 50 = .ok (.bipush 12, 2) := by decide +kernel
theorem dX12_feed_52 : decode cX12_feed 52 = .ok (.if_icmp .ge 7, 3) := by decide +kernel
theorem dX12_feed_55 : decode cX12_feed 55 = .ok (.iload_n 3, 1) := by decide +kernel
theorem dX12_feed_56 : decode cX12_feed 56 = .ok (.goto 17, 3) := by decide +kernel
theorem dX12_feed_59 : decode cX12_feed 59 = .ok (.iload 6, 2) := by decide +kernel
theorem dX12_feed_61 : decode cX12_feed 61 = .ok (.bipush 16, 2) := by decide +kernel
theorem dX12_feed_63 : decode cX12_feed 63 = .ok (.if_icmp .ge 8, 3) := by decide +kernel
theorem dX12_feed_66 : decode cX12_feed 66 = .ok (.iload 4, 2) := by decide +kernel
theorem dX12_feed_68 : decode cX12_feed 68 = .ok (.goto 5, 3) := by decide +kernel
theorem dX12_feed_71 : decode cX12_feed 71 = .ok (.iload 5, 2) := by decide +kernel
theorem dX12_feed_73 : decode cX12_feed 73 = .ok (.istore 7, 2) := by decide +kernel
theorem dX12_feed_75 : decode cX12_feed 75 = .ok (.aload_n 0, 1) := by decide +kernel
theorem dX12_feed_76 : decode cX12_feed 76 = .ok (.getfield 7, 3) := by decide +kernel
theorem dX12_feed_79 : decode cX12_feed 79 = .ok (.aload_n 0, 1) := by decide +kernel
theorem dX12_feed_80 : decode cX12_feed 80 = .ok (.getfield 113, 3) := by decide +kernel
theorem dX12_feed_83 : decode cX12_feed 83 = .ok (.iload 6, 2) := by decide +kernel
theorem dX12_feed_85 : decode cX12_feed 85 = .ok (.iadd, 1) := by decide +kernel
theorem dX12_feed_86 : decode cX12_feed 86 = .ok (.iload 7, 2) := by decide +kernel
theorem dX12_feed_88 : decode cX12_feed 88 = .ok (.bipush 24, 2) := by decide +kernel
theorem dX12_feed_90 : decode cX12_feed 90 = .ok (.bipush 8, 2) := by decide +kernel
theorem dX12_feed_92 : decode cX12_feed 92 = .ok (.iload 6, 2) := by decide +kernel
theorem dX12_feed_94 : decode cX12_feed 94 = .ok (.iconst 4, 1) := by decide +kernel
theorem dX12_feed_95 : decode cX12_feed 95 = .ok (.irem, 1) := by decide +kernel
theorem dX12_feed_96 : decode cX12_feed 96 = .ok (.imul, 1) := by decide +kernel
theorem dX12_feed_97 : decode cX12_feed 97 = .ok (.isub, 1) := by decide +kernel
theorem dX12_feed_98 : decode cX12_feed 98 = .ok (.ishr, 1) := by decide +kernel
theorem dX12_feed_99 : decode cX12_feed 99 = .ok (.sipush 255, 3) := by decide +kernel
theorem dX12_feed_102 : decode cX12_feed 102 = .ok (.iand, 1) := by decide +kernel
theorem dX12_feed_103 : decode cX12_feed 103 = .ok (.iastore, 1) := by decide +kernel
theorem dX12_feed_104 : decode cX12_feed 104 = .ok (.iinc 6 1, 3) := by decide +kernel
theorem dX12_feed_107 : decode cX12_feed 107 = .ok (.goto (-87), 3) := by decide +kernel
theorem dX12_feed_110 : decode cX12_feed 110 = .ok (.aload_n 0, 1) := by decide +kernel
theorem dX12_feed_111 : decode cX12_feed 111 = .ok (.dup, 1) := by decide +kernel
theorem dX12_feed_112 : decode cX12_feed 112 = .ok (.getfield 113, 3) := by decide +kernel
theorem dX12_feed_115 : decode cX12_feed 115 = .ok (.bipush 20, 2) := by decide +kernel
theorem dX12_feed_117 : decode cX12_feed 117 = .ok (.iadd, 1) := by decide +kernel
theorem dX12_feed_118 : decode cX12_feed 118 = .ok (.putfield 113, 3) := by decide +kernel
theorem dX12_feed_121 : decode cX12_feed 121 = .ok (.aload_n 0, 1) := by decide +kernel
theorem dX12_feed_122 : decode cX12_feed 122 = .ok (.getfield 113, 3) := by decide +kernel
theorem dX12_feed_125 : decode cX12_feed 125 = .ok (.ireturn, 1) := by decide +kernel
theorem dX12_here_0 : decode cX12_here 0 = .ok (.aload_n 0, 1) := by decide +kernel
theorem dX12_here_1 : decode cX12_here 1 = .ok (.getfield 116, 3) := by decide +kernel
theorem dX12_here_4 : decode cX12_here 4 = .ok (.aload_n 0, 1) := by decide +kernel
theorem dX12_here_5 : decode cX12_here 5 = .ok (.getfield 119, 3) := by decide +kernel
theorem dX12_here_8 : decode cX12_here 8 = .ok (.if_icmp .ge 15, 3) := by decide +kernel
theorem dX12_here_11 : decode cX12_here 11 = .ok (.aload_n 0, 1) := by decide +kernel
theorem dX12_here_12 : decode cX12_here 12 = .ok (.getfield 7, 3) := by decide +kernel
theorem dX12_here_15 : decode cX12_here 15 = .ok (.aload_n 0, 1) := by decide +kernel
theorem dX12_here_16 : decode cX12_here 16 = .ok (.getfield 116, 3) := by decide +kernel
theorem dX12_here_19 : decode cX12_here 19 = .ok (.iaload, 1) := by decide +kernel
theorem dX12_here_20 : decode cX12_here 20 = .ok (.goto 4, 3) := by decide +kernel
theorem dX12_here_23 : decode cX12_here 23 = .ok (.iconst (-1), 1) := by decide +kernel
theorem dX12_here_24 : decode cX12_here 24 = .ok (.ireturn, 1) := by decide +kernel
theorem dX12_isSmall_0 : decode cX12_isSmall 0 = .ok (.iload_n 0, 1) := by decide +kernel
theorem dX12_isSmall_1 : decode cX12_isSmall 1 = .ok (.bipush 97, 2) := by decide +kernel
theorem dX12_isSmall_3 : decode cX12_isSmall 3 = .ok (.if_icmp .lt 13, 3) := by decide +kernel
theorem dX12_isSmall_6 : decode cX12_isSmall 6 = .ok (.iload_n 0, 1) := by decide +kernel
theorem dX12_isSmall_7 : decode cX12_isSmall 7 = .ok (.bipush 122, 2) := by decide +kernel
theorem dX12_isSmall_9 : decode cX12_isSmall 9 = .ok (.if_icmp .gt 7, 3) := by decide +kernel
theorem dX12_isSmall_12 : decode cX12_isSmall 12 = .ok (.iconst 1, 1) := by decide +kernel
theorem dX12_isSmall_13 : decode cX12_isSmall 13 = .ok (.goto 4, 3) := by decide +kernel
theorem dX12_isSmall_16 : decode cX12_isSmall 16 = .ok (.iconst 0, 1) := by decide +kernel
theorem dX12_isSmall_17 : decode cX12_isSmall 17 = .ok (.ireturn, 1) := by decide +kernel
theorem dX12_isDigit_0 : decode cX12_isDigit 0 = .ok (.iload_n 0, 1) := by decide +kernel
theorem dX12_isDigit_1 : decode cX12_isDigit 1 = .ok (.bipush 48, 2) := by decide +kernel
theorem dX12_isDigit_3 : decode cX12_isDigit 3 = .ok (.if_icmp .lt 13, 3) := by decide +kernel
theorem dX12_isDigit_6 : decode cX12_isDigit 6 = .ok (.iload_n 0, 1) := by decide +kernel
theorem dX12_isDigit_7 : decode cX12_isDigit 7 = .ok (.bipush 57, 2) := by decide +kernel
theorem dX12_isDigit_9 : decode cX12_isDigit 9 = .ok (.if_icmp .gt 7, 3) := by decide +kernel
theorem dX12_isDigit_12 : decode cX12_isDigit 12 = .ok (.iconst 1, 1) := by decide +kernel
theorem dX12_isDigit_13 : decode cX12_isDigit 13 = .ok (.goto 4, 3) := by decide +kernel
theorem dX12_isDigit_16 : decode cX12_isDigit 16 = .ok (.iconst 0, 1) := by decide +kernel
theorem dX12_isDigit_17 : decode cX12_isDigit 17 = .ok (.ireturn, 1) := by decide +kernel
theorem dX12_next_0 : decode cX12_next 0 = .ok (.aload_n 0, 1) := by decide +kernel
theorem dX12_next_1 : decode cX12_next 1 = .ok (.invokevirtual 122, 3) := by decide +kernel
theorem dX12_next_4 : decode cX12_next 4 = .ok (.bipush 10, 2) := by decide +kernel
theorem dX12_next_6 : decode cX12_next 6 = .ok (.if_icmp .eq 12, 3) := by decide +kernel
theorem dX12_next_9 : decode cX12_next 9 = .ok (.aload_n 0, 1) := by decide +kernel
theorem dX12_next_10 : decode cX12_next 10 = .ok (.invokevirtual 122, 3) := by decide +kernel
theorem dX12_next_13 : decode cX12_next 13 = .ok (.bipush 32, 2) := by decide +kernel
theorem dX12_next_15 : decode cX12_next 15 = .ok (.if_icmp .ne 16, 3) := by decide +kernel
theorem dX12_next_18 : decode cX12_next 18 = .ok (.aload_n 0, 1) := by decide +kernel
theorem dX12_next_19 : decode cX12_next 19 = .ok (.dup, 1) := by decide +kernel
theorem dX12_next_20 : decode cX12_next 20 = .ok (.getfield 116, 3) := by decide +kernel
theorem dX12_next_23 : decode cX12_next 23 = .ok (.iconst 1, 1) := by decide +kernel
theorem dX12_next_24 : decode cX12_next 24 = .ok (.iadd, 1) := by decide +kernel
theorem dX12_next_25 : decode cX12_next 25 = .ok (.putfield 116, 3) := by decide +kernel
theorem dX12_next_28 : decode cX12_next 28 = .ok (.goto (-28), 3) := by decide +kernel
theorem dX12_next_31 : decode cX12_next 31 = .ok (.aload_n 0, 1) := by decide +kernel
theorem dX12_next_32 : decode cX12_next 32 = .ok (.aload_n 0, 1) := by decide +kernel
theorem dX12_next_33 : decode cX12_next 33 = .ok (.getfield 116, 3) := by decide +kernel
theorem dX12_next_36 : decode cX12_next 36 = .ok (.putfield 126, 3) := by decide +kernel
theorem dX12_next_39 : decode cX12_next 39 = .ok (.aload_n 0, 1) := by decide +kernel
theorem dX12_next_40 : decode cX12_next 40 = .ok (.invokevirtual 122, 3) := by decide +kernel
theorem dX12_next_43 : decode cX12_next 43 = .ok (.istore_n 1, 1) := by decide +kernel
theorem dX12_next_44 : decode cX12_next 44 = .ok (.iload_n 1, 1) := by decide +kernel
theorem dX12_next_45 : decode cX12_next 45 = .ok (.iconst (-1), 1) := by decide +kernel
theorem dX12_next_46 : decode cX12_next 46 = .ok (.if_icmp .ne 9, 3) := by decide +kernel
theorem dX12_next_49 : decode cX12_next 49 = .ok (.aload_n 0, 1) := by decide +kernel
theorem dX12_next_50 : decode cX12_next 50 = .ok (.iconst 3, 1) := by decide +kernel
theorem dX12_next_51 : decode cX12_next 51 = .ok (.putfield 129, 3) := by decide +kernel
theorem dX12_next_54 : decode cX12_next 54 = .ok (.return_, 1) := by decide +kernel
theorem dX12_next_55 : decode cX12_next 55 = .ok (.iload_n 1, 1) := by decide +kernel
theorem dX12_next_56 : decode cX12_next 56 = .ok (.invokestatic 132, 3) := by decide +kernel
theorem dX12_next_59 : decode cX12_next 59 = .ok (.ifCond .eq 52, 3) := by decide +kernel
theorem dX12_next_62 : decode cX12_next 62 = .ok (.aload_n 0, 1) := by decide +kernel
theorem dX12_next_63 : decode cX12_next 63 = .ok (.invokevirtual 122, 3) := by decide +kernel
theorem dX12_next_66 : decode cX12_next 66 = .ok (.invokestatic 132, 3) := by decide +kernel
theorem dX12_next_69 : decode cX12_next 69 = .ok (.ifCond .eq 16, 3) := by decide +kernel
theorem dX12_next_72 : decode cX12_next 72 = .ok (.aload_n 0, 1) := by decide +kernel
theorem dX12_next_73 : decode cX12_next 73 = .ok (.dup, 1) := by decide +kernel
theorem dX12_next_74 : decode cX12_next 74 = .ok (.getfield 116, 3) := by decide +kernel
theorem dX12_next_77 : decode cX12_next 77 = .ok (.iconst 1, 1) := by decide +kernel
theorem dX12_next_78 : decode cX12_next 78 = .ok (.iadd, 1) := by decide +kernel
theorem dX12_next_79 : decode cX12_next 79 = .ok (.putfield 116, 3) := by decide +kernel
theorem dX12_next_82 : decode cX12_next 82 = .ok (.goto (-20), 3) := by decide +kernel
theorem dX12_next_85 : decode cX12_next 85 = .ok (.aload_n 0, 1) := by decide +kernel
theorem dX12_next_86 : decode cX12_next 86 = .ok (.aload_n 0, 1) := by decide +kernel
theorem dX12_next_87 : decode cX12_next 87 = .ok (.invokevirtual 136, 3) := by decide +kernel
theorem dX12_next_90 : decode cX12_next 90 = .ok (.putfield 139, 3) := by decide +kernel
theorem dX12_next_93 : decode cX12_next 93 = .ok (.aload_n 0, 1) := by decide +kernel
theorem dX12_next_94 : decode cX12_next 94 = .ok (.aload_n 0, 1) := by decide +kernel
theorem dX12_next_95 : decode cX12_next 95 = .ok (.getfield 139, 3) := by decide +kernel
theorem dX12_next_98 : decode cX12_next 98 = .ok (.iconst (-1), 1) := by decide +kernel
theorem dX12_next_99 : decode cX12_next 99 = .ok (.if_icmp .ne 7, 3) := by decide +kernel
theorem dX12_next_102 : decode cX12_next 102 = .ok (.iconst 4, 1) := by decide +kernel
theorem dX12_next_103 : decode cX12_next 103 = .ok (.goto 4, 3) := by decide +kernel
theorem dX12_next_106 : decode cX12_next 106 = .ok (.iconst 0, 1) := by decide +kernel
theorem dX12_next_107 : decode cX12_next 107 = .ok (.putfield 129, 3) := by decide +kernel
theorem dX12_next_110 : decode cX12_next 110 = .ok (.return_, 1) := by decide +kernel
theorem dX12_next_111 : decode cX12_next 111 = .ok (.iload_n 1, 1) := by decide +kernel
theorem dX12_next_112 : decode cX12_next 112 = .ok (.invokestatic 142, 3) := by decide +kernel
theorem dX12_next_115 : decode cX12_next 115 = .ok (.ifCond .eq 73, 3) := by decide +kernel
theorem dX12_next_118 : decode cX12_next 118 = .ok (.aload_n 0, 1) := by decide +kernel
theorem dX12_next_119 : decode cX12_next 119 = .ok (.iconst 1, 1) := by decide +kernel
theorem dX12_next_120 : decode cX12_next 120 = .ok (.putfield 129, 3) := by decide +kernel
theorem dX12_next_123 : decode cX12_next 123 = .ok (.aload_n 0, 1) := by decide +kernel
theorem dX12_next_124 : decode cX12_next 124 = .ok (.iconst 0, 1) := by decide +kernel
theorem dX12_next_125 : decode cX12_next 125 = .ok (.putfield 139, 3) := by decide +kernel
theorem dX12_next_128 : decode cX12_next 128 = .ok (.aload_n 0, 1) := by decide +kernel
theorem dX12_next_129 : decode cX12_next 129 = .ok (.invokevirtual 122, 3) := by decide +kernel
theorem dX12_next_132 : decode cX12_next 132 = .ok (.invokestatic 142, 3) := by decide +kernel
theorem dX12_next_135 : decode cX12_next 135 = .ok (.ifCond .eq 52, 3) := by decide +kernel
theorem dX12_next_138 : decode cX12_next 138 = .ok (.aload_n 0, 1) := by decide +kernel
theorem dX12_next_139 : decode cX12_next 139 = .ok (.aload_n 0, 1) := by decide +kernel
theorem dX12_next_140 : decode cX12_next 140 = .ok (.getfield 139, 3) := by decide +kernel
theorem dX12_next_143 : decode cX12_next 143 = .ok (.sipush 9999, 3) := by decide +kernel
theorem dX12_next_146 : decode cX12_next 146 = .ok (.if_icmp .le 10, 3) := by decide +kernel
theorem dX12_next_149 : decode cX12_next 149 = .ok (.aload_n 0, 1) := by decide +kernel
theorem dX12_next_150 : decode cX12_next 150 = .ok (.getfield 139, 3) := by decide +kernel
theorem dX12_next_153 : decode cX12_next 153 = .ok (.goto 18, 3) := by decide +kernel
theorem dX12_next_156 : decode cX12_next 156 = .ok (.bipush 10, 2) := by decide +kernel
theorem dX12_next_158 : decode cX12_next 158 = .ok (.aload_n 0, 1) := by decide +kernel
theorem dX12_next_159 : decode cX12_next 159 = .ok (.getfield 139, 3) := by decide +kernel
theorem dX12_next_162 : decode cX12_next 162 = .ok (.imul, 1) := by decide +kernel
theorem dX12_next_163 : decode cX12_next 163 = .ok (.aload_n 0, 1) := by decide +kernel
theorem dX12_next_164 : decode cX12_next 164 = .ok (.invokevirtual 122, 3) := by decide +kernel
theorem dX12_next_167 : decode cX12_next 167 = .ok (.iadd, 1) := by decide +kernel
theorem dX12_next_168 : decode cX12_next 168 = .ok (.bipush 48, 2) := by decide +kernel
theorem dX12_next_170 : decode cX12_next 170 = .ok (.isub, 1) := by decide +kernel
theorem dX12_next_171 : decode cX12_next 171 = .ok (.putfield 139, 3) := by decide +kernel
theorem dX12_next_174 : decode cX12_next 174 = .ok (.aload_n 0, 1) := by decide +kernel
theorem dX12_next_175 : decode cX12_next 175 = .ok (.dup, 1) := by decide +kernel
theorem dX12_next_176 : decode cX12_next 176 = .ok (.getfield 116, 3) := by decide +kernel
theorem dX12_next_179 : decode cX12_next 179 = .ok (.iconst 1, 1) := by decide +kernel
theorem dX12_next_180 : decode cX12_next 180 = .ok (.iadd, 1) := by decide +kernel
theorem dX12_next_181 : decode cX12_next 181 = .ok (.putfield 116, 3) := by decide +kernel
theorem dX12_next_184 : decode cX12_next 184 = .ok (.goto (-56), 3) := by decide +kernel
theorem dX12_next_187 : decode cX12_next 187 = .ok (.return_, 1) := by decide +kernel
theorem dX12_next_188 : decode cX12_next 188 = .ok (.aload_n 0, 1) := by decide +kernel
theorem dX12_next_189 : decode cX12_next 189 = .ok (.dup, 1) := by decide +kernel
theorem dX12_next_190 : decode cX12_next 190 = .ok (.getfield 116, 3) := by decide +kernel
theorem dX12_next_193 : decode cX12_next 193 = .ok (.iconst 1, 1) := by decide +kernel
theorem dX12_next_194 : decode cX12_next 194 = .ok (.iadd, 1) := by decide +kernel
theorem dX12_next_195 : decode cX12_next 195 = .ok (.putfield 116, 3) := by decide +kernel
theorem dX12_next_198 : decode cX12_next 198 = .ok (.aload_n 0, 1) := by decide +kernel
theorem dX12_next_199 : decode cX12_next 199 = .ok (.iconst 2, 1) := by decide +kernel
theorem dX12_next_200 : decode cX12_next 200 = .ok (.putfield 129, 3) := by decide +kernel
theorem dX12_next_203 : decode cX12_next 203 = .ok (.aload_n 0, 1) := by decide +kernel
theorem dX12_next_204 : decode cX12_next 204 = .ok (.iload_n 1, 1) := by decide +kernel
theorem dX12_next_205 : decode cX12_next 205 = .ok (.putfield 139, 3) := by decide +kernel
theorem dX12_next_208 : decode cX12_next 208 = .ok (.iload_n 1, 1) := by decide +kernel
theorem dX12_next_209 : decode cX12_next 209 = .ok (.bipush 60, 2) := by decide +kernel
theorem dX12_next_211 : decode cX12_next 211 = .ok (.if_icmp .ne 22, 3) := by decide +kernel
theorem dX12_next_214 : decode cX12_next 214 = .ok (.aload_n 0, 1) := by decide +kernel
theorem dX12_next_215 : decode cX12_next 215 = .ok (.invokevirtual 122, 3) := by decide +kernel
theorem dX12_next_218 : decode cX12_next 218 = .ok (.bipush 61, 2) := by decide +kernel
theorem dX12_next_220 : decode cX12_next 220 = .ok (.if_icmp .ne 13, 3) := by decide +kernel
theorem dX12_next_223 : decode cX12_next 223 = .ok (.aload_n 0, 1) := by decide +kernel
theorem dX12_next_224 : decode cX12_next 224 = .ok (.sipush 256, 3) := by decide +kernel
theorem dX12_next_227 : decode cX12_next 227 = .ok (.putfield 139, 3) := by decide +kernel
theorem dX12_next_230 : decode cX12_next 230 = .ok (.goto 50, 3) := by decide +kernel
theorem dX12_next_233 : decode cX12_next 233 = .ok (.iload_n 1, 1) := by decide +kernel
theorem dX12_next_234 : decode cX12_next 234 = .ok (.bipush 60, 2) := by decide +kernel
theorem dX12_next_236 : decode cX12_next 236 = .ok (.if_icmp .ne 22, 3) := by decide +kernel
theorem dX12_next_239 : decode cX12_next 239 = .ok (.aload_n 0, 1) := by decide +kernel
theorem dX12_next_240 : decode cX12_next 240 = .ok (.invokevirtual 122, 3) := by decide +kernel
theorem dX12_next_243 : decode cX12_next 243 = .ok (.bipush 62, 2) := by decide +kernel
theorem dX12_next_245 : decode cX12_next 245 = .ok (.if_icmp .ne 13, 3) := by decide +kernel
theorem dX12_next_248 : decode cX12_next 248 = .ok (.aload_n 0, 1) := by decide +kernel
theorem dX12_next_249 : decode cX12_next 249 = .ok (.sipush 257, 3) := by decide +kernel
theorem dX12_next_252 : decode cX12_next 252 = .ok (.putfield 139, 3) := by decide +kernel
theorem dX12_next_255 : decode cX12_next 255 = .ok (.goto 25, 3) := by decide +kernel
theorem dX12_next_258 : decode cX12_next 258 = .ok (.iload_n 1, 1) := by decide +kernel
theorem dX12_next_259 : decode cX12_next 259 = .ok (.bipush 62, 2) := by decide +kernel
theorem dX12_next_261 : decode cX12_next 261 = .ok (.if_icmp .ne 19, 3) := by decide +kernel
theorem dX12_next_264 : decode cX12_next 264 = .ok (.aload_n 0, 1) := by decide +kernel
theorem dX12_next_265 : decode cX12_next 265 = .ok (.invokevirtual 122, 3) := by decide +kernel
theorem dX12_next_268 : decode cX12_next 268 = .ok (.bipush 61, 2) := by decide +kernel
theorem dX12_next_270 : decode cX12_next 270 = .ok (.if_icmp .ne 10, 3) := by decide +kernel
theorem dX12_next_273 : decode cX12_next 273 = .ok (.aload_n 0, 1) := by decide +kernel
theorem dX12_next_274 : decode cX12_next 274 = .ok (.sipush 258, 3) := by decide +kernel
theorem dX12_next_277 : decode cX12_next 277 = .ok (.putfield 139, 3) := by decide +kernel
theorem dX12_next_280 : decode cX12_next 280 = .ok (.aload_n 0, 1) := by decide +kernel
theorem dX12_next_281 : decode cX12_next 281 = .ok (.getfield 139, 3) := by decide +kernel
theorem dX12_next_284 : decode cX12_next 284 = .ok (.iload_n 1, 1) := by decide +kernel
theorem dX12_next_285 : decode cX12_next 285 = .ok (.if_icmp .eq 16, 3) := by decide +kernel
theorem dX12_next_288 : decode cX12_next 288 = .ok (.aload_n 0, 1) := by decide +kernel
theorem dX12_next_289 : decode cX12_next 289 = .ok (.dup, 1) := by decide +kernel
theorem dX12_next_290 : decode cX12_next 290 = .ok (.getfield 116, 3) := by decide +kernel
theorem dX12_next_293 : decode cX12_next 293 = .ok (.iconst 1, 1) := by decide +kernel
theorem dX12_next_294 : decode cX12_next 294 = .ok (.iadd, 1) := by decide +kernel
theorem dX12_next_295 : decode cX12_next 295 = .ok (.putfield 116, 3) := by decide +kernel
theorem dX12_next_298 : decode cX12_next 298 = .ok (.goto 68, 3) := by decide +kernel
theorem dX12_next_301 : decode cX12_next 301 = .ok (.iload_n 1, 1) := by decide +kernel
theorem dX12_next_302 : decode cX12_next 302 = .ok (.bipush 59, 2) := by decide +kernel
theorem dX12_next_304 : decode cX12_next 304 = .ok (.if_icmp .eq 62, 3) := by decide +kernel
theorem dX12_next_307 : decode cX12_next 307 = .ok (.iload_n 1, 1) := by decide +kernel
theorem dX12_next_308 : decode cX12_next 308 = .ok (.bipush 45, 2) := by decide +kernel
theorem dX12_next_310 : decode cX12_next 310 = .ok (.if_icmp .eq 56, 3) := by decide +kernel
theorem dX12_next_313 : decode cX12_next 313 = .ok (.iload_n 1, 1) := by decide +kernel
theorem dX12_next_314 : decode cX12_next 314 = .ok (.bipush 43, 2) := by decide +kernel
theorem dX12_next_316 : decode cX12_next 316 = .ok (.if_icmp .eq 50, 3) := by decide +kernel
theorem dX12_next_319 : decode cX12_next 319 = .ok (.iload_n 1, 1) := by decide +kernel
theorem dX12_next_320 : decode cX12_next 320 = .ok (.bipush 42, 2) := by decide +kernel
theorem dX12_next_322 : decode cX12_next 322 = .ok (.if_icmp .eq 44, 3) := by decide +kernel
theorem dX12_next_325 : decode cX12_next 325 = .ok (.iload_n 1, 1) := by decide +kernel
theorem dX12_next_326 : decode cX12_next 326 = .ok (.bipush 47, 2) := by decide +kernel
theorem dX12_next_328 : decode cX12_next 328 = .ok (.if_icmp .eq 38, 3) := by decide +kernel
theorem dX12_next_331 : decode cX12_next 331 = .ok (.iload_n 1, 1) := by decide +kernel
theorem dX12_next_332 : decode cX12_next 332 = .ok (.bipush 40, 2) := by decide +kernel
theorem dX12_next_334 : decode cX12_next 334 = .ok (.if_icmp .eq 32, 3) := by decide +kernel
theorem dX12_next_337 : decode cX12_next 337 = .ok (.iload_n 1, 1) := by decide +kernel
theorem dX12_next_338 : decode cX12_next 338 = .ok (.bipush 41, 2) := by decide +kernel
theorem dX12_next_340 : decode cX12_next 340 = .ok (.if_icmp .eq 26, 3) := by decide +kernel
theorem dX12_next_343 : decode cX12_next 343 = .ok (.iload_n 1, 1) := by decide +kernel
theorem dX12_next_344 : decode cX12_next 344 = .ok (.bipush 60, 2) := by decide +kernel
theorem dX12_next_346 : decode cX12_next 346 = .ok (.if_icmp .eq 20, 3) := by decide +kernel
theorem dX12_next_349 : decode cX12_next 349 = .ok (.iload_n 1, 1) := by decide +kernel
theorem dX12_next_350 : decode cX12_next 350 = .ok (.bipush 61, 2) := by decide +kernel
theorem dX12_next_352 : decode cX12_next 352 = .ok (.if_icmp .eq 14, 3) := by decide +kernel
theorem dX12_next_355 : decode cX12_next 355 = .ok (.iload_n 1, 1) := by decide +kernel
theorem dX12_next_356 : decode cX12_next 356 = .ok (.bipush 62, 2) := by decide +kernel
theorem dX12_next_358 : decode cX12_next 358 = .ok (.if_icmp .eq 8, 3) := by decide +kernel
theorem dX12_next_361 : decode cX12_next 361 = .ok (.aload_n 0, 1) := by decide +kernel
theorem dX12_next_362 : decode cX12_next 362 = .ok (.iconst 4, 1) := by decide +kernel
theorem dX12_next_363 : decode cX12_next 363 = .ok (.putfield 129, 3) := by decide +kernel
theorem dX12_next_366 : decode cX12_next 366 = .ok (.return_, 1) := by decide +kernel
theorem dX12_word_0 : decode cX12_word 0 = .ok (.iconst 0, 1) := by decide +kernel
theorem dX12_word_1 : decode cX12_word 1 = .ok (.istore_n 1, 1) := by decide +kernel
theorem dX12_word_2 : decode cX12_word 2 = .ok (.iconst 0, 1) := by decide +kernel
theorem dX12_word_3 : decode cX12_word 3 = .ok (.istore_n 2, 1) := by decide +kernel
theorem dX12_word_4 : decode cX12_word 4 = .ok (.iload_n 2, 1) := by decide +kernel
theorem dX12_word_5 : decode cX12_word 5 = .ok (.ldc 145, 2) := by decide +kernel
theorem dX12_word_7 : decode cX12_word 7 = .ok (.invokevirtual 147, 3) := by decide +kernel
theorem dX12_word_10 : decode cX12_word 10 = .ok (.if_icmp .ge 113, 3) := by decide +kernel
theorem dX12_word_13 : decode cX12_word 13 = .ok (.iconst 0, 1) := by decide +kernel
theorem dX12_word_14 : decode cX12_word 14 = .ok (.istore_n 3, 1) := by decide +kernel
theorem dX12_word_15 : decode cX12_word 15 = .ok (.ldc 145, 2) := by decide +kernel
theorem dX12_word_17 : decode cX12_word 17 = .ok (.iload_n 2, 1) := by decide +kernel
theorem dX12_word_18 : decode cX12_word 18 = .ok (.iload_n 3, 1) := by decide +kernel
theorem dX12_word_19 : decode cX12_word 19 = .ok (.iadd, 1) := by decide +kernel
theorem dX12_word_20 : decode cX12_word 20 = .ok (.invokevirtual 152, 3) := by decide +kernel
theorem dX12_word_23 : decode cX12_word 23 = .ok (.bipush 32, 2) := by decide +kernel
theorem dX12_word_25 : decode cX12_word 25 = .ok (.if_icmp .eq 44, 3) := by decide +kernel
theorem dX12_word_28 : decode cX12_word 28 = .ok (.aload_n 0, 1) := by decide +kernel
theorem dX12_word_29 : decode cX12_word 29 = .ok (.getfield 126, 3) := by decide +kernel
theorem dX12_word_32 : decode cX12_word 32 = .ok (.iload_n 3, 1) := by decide +kernel
theorem dX12_word_33 : decode cX12_word 33 = .ok (.iadd, 1) := by decide +kernel
theorem dX12_word_34 : decode cX12_word 34 = .ok (.aload_n 0, 1) := by decide +kernel
theorem dX12_word_35 : decode cX12_word 35 = .ok (.getfield 116, 3) := by decide +kernel
theorem dX12_word_38 : decode cX12_word 38 = .ok (.if_icmp .ge 31, 3) := by decide +kernel
theorem dX12_word_41 : decode cX12_word 41 = .ok (.aload_n 0, 1) := by decide +kernel
theorem dX12_word_42 : decode cX12_word 42 = .ok (.getfield 7, 3) := by decide +kernel
theorem dX12_word_45 : decode cX12_word 45 = .ok (.aload_n 0, 1) := by decide +kernel
theorem dX12_word_46 : decode cX12_word 46 = .ok (.getfield 126, 3) := by decide +kernel
theorem dX12_word_49 : decode cX12_word 49 = .ok (.iload_n 3, 1) := by decide +kernel
theorem dX12_word_50 : decode cX12_word 50 = .ok (.iadd, 1) := by decide +kernel
theorem dX12_word_51 : decode cX12_word 51 = .ok (.iaload, 1) := by decide +kernel
theorem dX12_word_52 : decode cX12_word 52 = .ok (.ldc 145, 2) := by decide +kernel
theorem dX12_word_54 : decode cX12_word 54 = .ok (.iload_n 2, 1) := by decide +kernel
theorem dX12_word_55 : decode cX12_word 55 = .ok (.iload_n 3, 1) := by decide +kernel
theorem dX12_word_56 : decode cX12_word 56 = .ok (.iadd, 1) := by decide +kernel
theorem dX12_word_57 : decode cX12_word 57 = .ok (.invokevirtual 152, 3) := by decide +kernel
theorem dX12_word_60 : decode cX12_word 60 = .ok (.if_icmp .ne 9, 3) := by decide +kernel
theorem dX12_word_63 : decode cX12_word 63 = .ok (.iinc 3 1, 3) := by decide +kernel
theorem dX12_word_66 : decode cX12_word 66 = .ok (.goto (-51), 3) := by decide +kernel
theorem dX12_word_69 : decode cX12_word 69 = .ok (.ldc 145, 2) := by decide +kernel
theorem dX12_word_71 : decode cX12_word 71 = .ok (.iload_n 2, 1) := by decide +kernel
theorem dX12_word_72 : decode cX12_word 72 = .ok (.iload_n 3, 1) := by decide +kernel
theorem dX12_word_73 : decode cX12_word 73 = .ok (.iadd, 1) := by decide +kernel
theorem dX12_word_74 : decode cX12_word 74 = .ok (.invokevirtual 152, 3) := by decide +kernel
theorem dX12_word_77 : decode cX12_word 77 = .ok (.bipush 32, 2) := by decide +kernel
theorem dX12_word_79 : decode cX12_word 79 = .ok (.if_icmp .ne 18, 3) := by decide +kernel
theorem dX12_word_82 : decode cX12_word 82 = .ok (.aload_n 0, 1) := by decide +kernel
theorem dX12_word_83 : decode cX12_word 83 = .ok (.getfield 126, 3) := by decide +kernel
theorem dX12_word_86 : decode cX12_word 86 = .ok (.iload_n 3, 1) := by decide +kernel
theorem dX12_word_87 : decode cX12_word 87 = .ok (.iadd, 1) := by decide +kernel
theorem dX12_word_88 : decode cX12_word 88 = .ok (.aload_n 0, 1) := by decide +kernel
theorem dX12_word_89 : decode cX12_word 89 = .ok (.getfield 116, 3) := by decide +kernel
theorem dX12_word_92 : decode cX12_word 92 = .ok (.if_icmp .ne 5, 3) := by decide +kernel
theorem dX12_word_95 : decode cX12_word 95 = .ok (.iload_n 1, 1) := by decide +kernel
theorem dX12_word_96 : decode cX12_word 96 = .ok (.ireturn, 1) := by decide +kernel
theorem dX12_word_97 : decode cX12_word 97 = .ok (.ldc 145, 2) := by decide +kernel
theorem dX12_word_99 : decode cX12_word 99 = .ok (.iload_n 2, 1) := by decide +kernel
theorem dX12_word_100 : decode cX12_word 100 = .ok (.invokevirtual 152, 3) := by decide +kernel
theorem dX12_word_103 : decode cX12_word 103 = .ok (.bipush 32, 2) := by decide +kernel
theorem dX12_word_105 : decode cX12_word 105 = .ok (.if_icmp .eq 9, 3) := by decide +kernel
theorem dX12_word_108 : decode cX12_word 108 = .ok (.iinc 2 1, 3) := by decide +kernel
theorem dX12_word_111 : decode cX12_word 111 = .ok (.goto (-14), 3) := by decide +kernel
theorem dX12_word_114 : decode cX12_word 114 = .ok (.iinc 2 1, 3) := by decide +kernel
theorem dX12_word_117 : decode cX12_word 117 = .ok (.iinc 1 1, 3) := by decide +kernel
theorem dX12_word_120 : decode cX12_word 120 = .ok (.goto (-116), 3) := by decide +kernel
theorem dX12_word_123 : decode cX12_word 123 = .ok (.iconst (-1), 1) := by decide +kernel
theorem dX12_word_124 : decode cX12_word 124 = .ok (.ireturn, 1) := by decide +kernel
theorem dX12_wrong_0 : decode cX12_wrong 0 = .ok (.aload_n 0, 1) := by decide +kernel
theorem dX12_wrong_1 : decode cX12_wrong 1 = .ok (.getfield 156, 3) := by decide +kernel
theorem dX12_wrong_4 : decode cX12_wrong 4 = .ok (.ifCond .eq 4, 3) := by decide +kernel
theorem dX12_wrong_7 : decode cX12_wrong 7 = .ok (.return_, 1) := by decide +kernel
theorem dX12_wrong_8 : decode cX12_wrong 8 = .ok (.aload_n 0, 1) := by decide +kernel
theorem dX12_wrong_9 : decode cX12_wrong 9 = .ok (.iload_n 1, 1) := by decide +kernel
theorem dX12_wrong_10 : decode cX12_wrong 10 = .ok (.putfield 156, 3) := by decide +kernel
theorem dX12_wrong_13 : decode cX12_wrong 13 = .ok (.aload_n 0, 1) := by decide +kernel
theorem dX12_wrong_14 : decode cX12_wrong 14 = .ok (.aload_n 0, 1) := by decide +kernel
theorem dX12_wrong_15 : decode cX12_wrong 15 = .ok (.getfield 126, 3) := by decide +kernel
theorem dX12_wrong_18 : decode cX12_wrong 18 = .ok (.putfield 159, 3) := by decide +kernel
theorem dX12_wrong_21 : decode cX12_wrong 21 = .ok (.return_, 1) := by decide +kernel
theorem dX12_isSign_0 : decode cX12_isSign 0 = .ok (.aload_n 0, 1) := by decide +kernel
theorem dX12_isSign_1 : decode cX12_isSign 1 = .ok (.getfield 129, 3) := by decide +kernel
theorem dX12_isSign_4 : decode cX12_isSign 4 = .ok (.iconst 2, 1) := by decide +kernel
theorem dX12_isSign_5 : decode cX12_isSign 5 = .ok (.if_icmp .ne 15, 3) := by decide +kernel
theorem dX12_isSign_8 : decode cX12_isSign 8 = .ok (.aload_n 0, 1) := by decide +kernel
theorem dX12_isSign_9 : decode cX12_isSign 9 = .ok (.getfield 139, 3) := by decide +kernel
theorem dX12_isSign_12 : decode cX12_isSign 12 = .ok (.iload_n 1, 1) := by decide +kernel
theorem dX12_isSign_13 : decode cX12_isSign 13 = .ok (.if_icmp .ne 7, 3) := by decide +kernel
theorem dX12_isSign_16 : decode cX12_isSign 16 = .ok (.iconst 1, 1) := by decide +kernel
theorem dX12_isSign_17 : decode cX12_isSign 17 = .ok (.goto 4, 3) := by decide +kernel
theorem dX12_isSign_20 : decode cX12_isSign 20 = .ok (.iconst 0, 1) := by decide +kernel
theorem dX12_isSign_21 : decode cX12_isSign 21 = .ok (.ireturn, 1) := by decide +kernel
theorem dX12_number_0 : decode cX12_number 0 = .ok (.aload_n 0, 1) := by decide +kernel
theorem dX12_number_1 : decode cX12_number 1 = .ok (.getfield 156, 3) := by decide +kernel
theorem dX12_number_4 : decode cX12_number 4 = .ok (.ifCond .eq 4, 3) := by decide +kernel
theorem dX12_number_7 : decode cX12_number 7 = .ok (.return_, 1) := by decide +kernel
theorem dX12_number_8 : decode cX12_number 8 = .ok (.aload_n 0, 1) := by decide +kernel
theorem dX12_number_9 : decode cX12_number 9 = .ok (.getfield 129, 3) := by decide +kernel
theorem dX12_number_12 : decode cX12_number 12 = .ok (.iconst 1, 1) := by decide +kernel
theorem dX12_number_13 : decode cX12_number 13 = .ok (.if_icmp .eq 11, 3) := by decide +kernel
theorem dX12_number_16 : decode cX12_number 16 = .ok (.aload_n 0, 1) := by decide +kernel
theorem dX12_number_17 : decode cX12_number 17 = .ok (.iconst 1, 1) := by decide +kernel
theorem dX12_number_18 : decode cX12_number 18 = .ok (.invokevirtual 162, 3) := by decide +kernel
theorem dX12_number_21 : decode cX12_number 21 = .ok (.goto 16, 3) := by decide +kernel
theorem dX12_number_24 : decode cX12_number 24 = .ok (.aload_n 0, 1) := by decide +kernel
theorem dX12_number_25 : decode cX12_number 25 = .ok (.getfield 139, 3) := by decide +kernel
theorem dX12_number_28 : decode cX12_number 28 = .ok (.iload_n 2, 1) := by decide +kernel
theorem dX12_number_29 : decode cX12_number 29 = .ok (.if_icmp .le 8, 3) := by decide +kernel
theorem dX12_number_32 : decode cX12_number 32 = .ok (.aload_n 0, 1) := by decide +kernel
theorem dX12_number_33 : decode cX12_number 33 = .ok (.iconst 2, 1) := by decide +kernel
theorem dX12_number_34 : decode cX12_number 34 = .ok (.invokevirtual 162, 3) := by decide +kernel
theorem dX12_number_37 : decode cX12_number 37 = .ok (.aload_n 0, 1) := by decide +kernel
theorem dX12_number_38 : decode cX12_number 38 = .ok (.getfield 156, 3) := by decide +kernel
theorem dX12_number_41 : decode cX12_number 41 = .ok (.ifCond .eq 4, 3) := by decide +kernel
theorem dX12_number_44 : decode cX12_number 44 = .ok (.return_, 1) := by decide +kernel
theorem dX12_number_45 : decode cX12_number 45 = .ok (.aload_n 0, 1) := by decide +kernel
theorem dX12_number_46 : decode cX12_number 46 = .ok (.getfield 19, 3) := by decide +kernel
theorem dX12_number_49 : decode cX12_number 49 = .ok (.bipush 6, 2) := by decide +kernel
theorem dX12_number_51 : decode cX12_number 51 = .ok (.iload_n 1, 1) := by decide +kernel
theorem dX12_number_52 : decode cX12_number 52 = .ok (.iadd, 1) := by decide +kernel
theorem dX12_number_53 : decode cX12_number 53 = .ok (.aload_n 0, 1) := by decide +kernel
theorem dX12_number_54 : decode cX12_number 54 = .ok (.getfield 139, 3) := by decide +kernel
theorem dX12_number_57 : decode cX12_number 57 = .ok (.iastore, 1) := by decide +kernel
theorem dX12_number_58 : decode cX12_number 58 = .ok (.aload_n 0, 1) := by decide +kernel
theorem dX12_number_59 : decode cX12_number 59 = .ok (.invokevirtual 166, 3) := by decide +kernel
theorem dX12_number_62 : decode cX12_number 62 = .ok (.return_, 1) := by decide +kernel
theorem dX12_once_0 : decode cX12_once 0 = .ok (.aload_n 0, 1) := by decide +kernel
theorem dX12_once_1 : decode cX12_once 1 = .ok (.getfield 129, 3) := by decide +kernel
theorem dX12_once_4 : decode cX12_once 4 = .ok (.ifCond .ne 19, 3) := by decide +kernel
theorem dX12_once_7 : decode cX12_once 7 = .ok (.aload_n 0, 1) := by decide +kernel
theorem dX12_once_8 : decode cX12_once 8 = .ok (.getfield 139, 3) := by decide +kernel
theorem dX12_once_11 : decode cX12_once 11 = .ok (.iload_n 1, 1) := by decide +kernel
theorem dX12_once_12 : decode cX12_once 12 = .ok (.if_icmp .lt 11, 3) := by decide +kernel
theorem dX12_once_15 : decode cX12_once 15 = .ok (.aload_n 0, 1) := by decide +kernel
theorem dX12_once_16 : decode cX12_once 16 = .ok (.getfield 139, 3) := by decide +kernel
theorem dX12_once_19 : decode cX12_once 19 = .ok (.iload_n 2, 1) := by decide +kernel
theorem dX12_once_20 : decode cX12_once 20 = .ok (.if_icmp .le 11, 3) := by decide +kernel
theorem dX12_once_23 : decode cX12_once 23 = .ok (.aload_n 0, 1) := by decide +kernel
theorem dX12_once_24 : decode cX12_once 24 = .ok (.iconst 1, 1) := by decide +kernel
theorem dX12_once_25 : decode cX12_once 25 = .ok (.invokevirtual 162, 3) := by decide +kernel
theorem dX12_once_28 : decode cX12_once 28 = .ok (.goto 23, 3) := by decide +kernel
theorem dX12_once_31 : decode cX12_once 31 = .ok (.aload_n 0, 1) := by decide +kernel
theorem dX12_once_32 : decode cX12_once 32 = .ok (.getfield 169, 3) := by decide +kernel
theorem dX12_once_35 : decode cX12_once 35 = .ok (.aload_n 0, 1) := by decide +kernel
theorem dX12_once_36 : decode cX12_once 36 = .ok (.getfield 139, 3) := by decide +kernel
theorem dX12_once_39 : decode cX12_once 39 = .ok (.ishr, 1) := by decide +kernel
theorem dX12_once_40 : decode cX12_once 40 = .ok (.iconst 1, 1) := by decide +kernel
theorem dX12_once_41 : decode cX12_once 41 = .ok (.iand, 1) := by decide +kernel
theorem dX12_once_42 : decode cX12_once 42 = .ok (.iconst 1, 1) := by decide +kernel
theorem dX12_once_43 : decode cX12_once 43 = .ok (.if_icmp .ne 8, 3) := by decide +kernel
theorem dX12_once_46 : decode cX12_once 46 = .ok (.aload_n 0, 1) := by decide +kernel
theorem dX12_once_47 : decode cX12_once 47 = .ok (.iconst 3, 1) := by decide +kernel
theorem dX12_once_48 : decode cX12_once 48 = .ok (.invokevirtual 162, 3) := by decide +kernel
theorem dX12_once_51 : decode cX12_once 51 = .ok (.aload_n 0, 1) := by decide +kernel
theorem dX12_once_52 : decode cX12_once 52 = .ok (.getfield 156, 3) := by decide +kernel
theorem dX12_once_55 : decode cX12_once 55 = .ok (.ifCond .eq 5, 3) := by decide +kernel
theorem dX12_once_58 : decode cX12_once 58 = .ok (.iconst 0, 1) := by decide +kernel
theorem dX12_once_59 : decode cX12_once 59 = .ok (.ireturn, 1) := by decide +kernel
theorem dX12_once_60 : decode cX12_once 60 = .ok (.aload_n 0, 1) := by decide +kernel
theorem dX12_once_61 : decode cX12_once 61 = .ok (.dup, 1) := by decide +kernel
theorem dX12_once_62 : decode cX12_once 62 = .ok (.getfield 169, 3) := by decide +kernel
theorem dX12_once_65 : decode cX12_once 65 = .ok (.iconst 1, 1) := by decide +kernel
theorem dX12_once_66 : decode cX12_once 66 = .ok (.aload_n 0, 1) := by decide +kernel
theorem dX12_once_67 : decode cX12_once 67 = .ok (.getfield 139, 3) := by decide +kernel
theorem dX12_once_70 : decode cX12_once 70 = .ok (.ishl, 1) := by decide +kernel
theorem dX12_once_71 : decode cX12_once 71 = .ok (.ior, 1) := by decide +kernel
theorem dX12_once_72 : decode cX12_once 72 = .ok (.putfield 169, 3) := by decide +kernel
theorem dX12_once_75 : decode cX12_once 75 = .ok (.iconst 1, 1) := by decide +kernel
theorem dX12_once_76 : decode cX12_once 76 = .ok (.ireturn, 1) := by decide +kernel
theorem dX12_line_0 : decode cX12_line 0 = .ok (.aload_n 0, 1) := by decide +kernel
theorem dX12_line_1 : decode cX12_line 1 = .ok (.getfield 129, 3) := by decide +kernel
theorem dX12_line_4 : decode cX12_line 4 = .ok (.ifCond .ne 11, 3) := by decide +kernel
theorem dX12_line_7 : decode cX12_line 7 = .ok (.aload_n 0, 1) := by decide +kernel
theorem dX12_line_8 : decode cX12_line 8 = .ok (.getfield 139, 3) := by decide +kernel
theorem dX12_line_11 : decode cX12_line 11 = .ok (.iconst 4, 1) := by decide +kernel
theorem dX12_line_12 : decode cX12_line 12 = .ok (.if_icmp .le 9, 3) := by decide +kernel
theorem dX12_line_15 : decode cX12_line 15 = .ok (.aload_n 0, 1) := by decide +kernel
theorem dX12_line_16 : decode cX12_line 16 = .ok (.iconst 1, 1) := by decide +kernel
theorem dX12_line_17 : decode cX12_line 17 = .ok (.invokevirtual 162, 3) := by decide +kernel
theorem dX12_line_20 : decode cX12_line 20 = .ok (.return_, 1) := by decide +kernel
theorem dX12_line_21 : decode cX12_line 21 = .ok (.aload_n 0, 1) := by decide +kernel
theorem dX12_line_22 : decode cX12_line 22 = .ok (.getfield 139, 3) := by decide +kernel
theorem dX12_line_25 : decode cX12_line 25 = .ok (.istore_n 1, 1) := by decide +kernel
theorem dX12_line_26 : decode cX12_line 26 = .ok (.iload_n 1, 1) := by decide +kernel
theorem dX12_line_27 : decode cX12_line 27 = .ok (.iconst 2, 1) := by decide +kernel
theorem dX12_line_28 : decode cX12_line 28 = .ok (.if_icmp .ne 44, 3) := by decide +kernel
theorem dX12_line_31 : decode cX12_line 31 = .ok (.aload_n 0, 1) := by decide +kernel
theorem dX12_line_32 : decode cX12_line 32 = .ok (.invokevirtual 166, 3) := by decide +kernel
theorem dX12_line_35 : decode cX12_line 35 = .ok (.aload_n 0, 1) := by decide +kernel
theorem dX12_line_36 : decode cX12_line 36 = .ok (.bipush 8, 2) := by decide +kernel
theorem dX12_line_38 : decode cX12_line 38 = .ok (.bipush 10, 2) := by decide +kernel
theorem dX12_line_40 : decode cX12_line 40 = .ok (.invokevirtual 172, 3) := by decide +kernel
theorem dX12_line_43 : decode cX12_line 43 = .ok (.ifCond .ne 4, 3) := by decide +kernel
theorem dX12_line_46 : decode cX12_line 46 = .ok (.return_, 1) := by decide +kernel
theorem dX12_line_47 : decode cX12_line 47 = .ok (.iconst 1, 1) := by decide +kernel
theorem dX12_line_48 : decode cX12_line 48 = .ok (.aload_n 0, 1) := by decide +kernel
theorem dX12_line_49 : decode cX12_line 49 = .ok (.getfield 139, 3) := by decide +kernel
theorem dX12_line_52 : decode cX12_line 52 = .ok (.iadd, 1) := by decide +kernel
theorem dX12_line_53 : decode cX12_line 53 = .ok (.bipush 8, 2) := by decide +kernel
theorem dX12_line_55 : decode cX12_line 55 = .ok (.isub, 1) := by decide +kernel
theorem dX12_line_56 : decode cX12_line 56 = .ok (.istore_n 2, 1) := by decide +kernel
theorem dX12_line_57 : decode cX12_line 57 = .ok (.aload_n 0, 1) := by decide +kernel
theorem dX12_line_58 : decode cX12_line 58 = .ok (.invokevirtual 166, 3) := by decide +kernel
theorem dX12_line_61 : decode cX12_line 61 = .ok (.aload_n 0, 1) := by decide +kernel
theorem dX12_line_62 : decode cX12_line 62 = .ok (.iload_n 2, 1) := by decide +kernel
theorem dX12_line_63 : decode cX12_line 63 = .ok (.sipush 999, 3) := by decide +kernel
theorem dX12_line_66 : decode cX12_line 66 = .ok (.invokevirtual 176, 3) := by decide +kernel
theorem dX12_line_69 : decode cX12_line 69 = .ok (.goto 56, 3) := by decide +kernel
theorem dX12_line_72 : decode cX12_line 72 = .ok (.aload_n 0, 1) := by decide +kernel
theorem dX12_line_73 : decode cX12_line 73 = .ok (.iload_n 1, 1) := by decide +kernel
theorem dX12_line_74 : decode cX12_line 74 = .ok (.iload_n 1, 1) := by decide +kernel
theorem dX12_line_75 : decode cX12_line 75 = .ok (.invokevirtual 172, 3) := by decide +kernel
theorem dX12_line_78 : decode cX12_line 78 = .ok (.ifCond .ne 4, 3) := by decide +kernel
theorem dX12_line_81 : decode cX12_line 81 = .ok (.return_, 1) := by decide +kernel
theorem dX12_line_82 : decode cX12_line 82 = .ok (.aload_n 0, 1) := by decide +kernel
theorem dX12_line_83 : decode cX12_line 83 = .ok (.invokevirtual 166, 3) := by decide +kernel
theorem dX12_line_86 : decode cX12_line 86 = .ok (.iload_n 1, 1) := by decide +kernel
theorem dX12_line_87 : decode cX12_line 87 = .ok (.ifCond .ne 10, 3) := by decide +kernel
theorem dX12_line_90 : decode cX12_line 90 = .ok (.aload_n 0, 1) := by decide +kernel
theorem dX12_line_91 : decode cX12_line 91 = .ok (.invokevirtual 179, 3) := by decide +kernel
theorem dX12_line_94 : decode cX12_line 94 = .ok (.goto 31, 3) := by decide +kernel
theorem dX12_line_97 : decode cX12_line 97 = .ok (.iload_n 1, 1) := by decide +kernel
theorem dX12_line_98 : decode cX12_line 98 = .ok (.iconst 1, 1) := by decide +kernel
theorem dX12_line_99 : decode cX12_line 99 = .ok (.if_icmp .ne 10, 3) := by decide +kernel
theorem dX12_line_102 : decode cX12_line 102 = .ok (.aload_n 0, 1) := by decide +kernel
theorem dX12_line_103 : decode cX12_line 103 = .ok (.invokevirtual 182, 3) := by decide +kernel
theorem dX12_line_106 : decode cX12_line 106 = .ok (.goto 19, 3) := by decide +kernel
theorem dX12_line_109 : decode cX12_line 109 = .ok (.aload_n 0, 1) := by decide +kernel
theorem dX12_line_110 : decode cX12_line 110 = .ok (.iload_n 1, 1) := by decide +kernel
theorem dX12_line_111 : decode cX12_line 111 = .ok (.iconst 3, 1) := by decide +kernel
theorem dX12_line_112 : decode cX12_line 112 = .ok (.if_icmp .ne 7, 3) := by decide +kernel
theorem dX12_line_115 : decode cX12_line 115 = .ok (.iconst 4, 1) := by decide +kernel
theorem dX12_line_116 : decode cX12_line 116 = .ok (.goto 4, 3) := by decide +kernel
theorem dX12_line_119 : decode cX12_line 119 = .ok (.iconst 5, 1) := by decide +kernel
theorem dX12_line_120 : decode cX12_line 120 = .ok (.bipush 100, 2) := by decide +kernel
theorem dX12_line_122 : decode cX12_line 122 = .ok (.invokevirtual 176, 3) := by decide +kernel
theorem dX12_line_125 : decode cX12_line 125 = .ok (.aload_n 0, 1) := by decide +kernel
theorem dX12_line_126 : decode cX12_line 126 = .ok (.getfield 156, 3) := by decide +kernel
theorem dX12_line_129 : decode cX12_line 129 = .ok (.ifCond .eq 4, 3) := by decide +kernel
theorem dX12_line_132 : decode cX12_line 132 = .ok (.return_, 1) := by decide +kernel
theorem dX12_line_133 : decode cX12_line 133 = .ok (.aload_n 0, 1) := by decide +kernel
theorem dX12_line_134 : decode cX12_line 134 = .ok (.bipush 59, 2) := by decide +kernel
theorem dX12_line_136 : decode cX12_line 136 = .ok (.invokevirtual 185, 3) := by decide +kernel
theorem dX12_line_139 : decode cX12_line 139 = .ok (.ifCond .ne 11, 3) := by decide +kernel
theorem dX12_line_142 : decode cX12_line 142 = .ok (.aload_n 0, 1) := by decide +kernel
theorem dX12_line_143 : decode cX12_line 143 = .ok (.iconst 1, 1) := by decide +kernel
theorem dX12_line_144 : decode cX12_line 144 = .ok (.invokevirtual 162, 3) := by decide +kernel
theorem dX12_line_147 : decode cX12_line 147 = .ok (.goto 7, 3) := by decide +kernel
theorem dX12_line_150 : decode cX12_line 150 = .ok (.aload_n 0, 1) := by decide +kernel
theorem dX12_line_151 : decode cX12_line 151 = .ok (.invokevirtual 166, 3) := by decide +kernel
theorem dX12_line_154 : decode cX12_line 154 = .ok (.aload_n 0, 1) := by decide +kernel
theorem dX12_line_155 : decode cX12_line 155 = .ok (.dup, 1) := by decide +kernel
theorem dX12_line_156 : decode cX12_line 156 = .ok (.getfield 188, 3) := by decide +kernel
theorem dX12_line_159 : decode cX12_line 159 = .ok (.iconst 1, 1) := by decide +kernel
theorem dX12_line_160 : decode cX12_line 160 = .ok (.iadd, 1) := by decide +kernel
theorem dX12_line_161 : decode cX12_line 161 = .ok (.putfield 188, 3) := by decide +kernel
theorem dX12_line_164 : decode cX12_line 164 = .ok (.return_, 1) := by decide +kernel
theorem dX12_unit_0 : decode cX12_unit 0 = .ok (.aload_n 0, 1) := by decide +kernel
theorem dX12_unit_1 : decode cX12_unit 1 = .ok (.getfield 129, 3) := by decide +kernel
theorem dX12_unit_4 : decode cX12_unit 4 = .ok (.ifCond .ne 20, 3) := by decide +kernel
theorem dX12_unit_7 : decode cX12_unit 7 = .ok (.aload_n 0, 1) := by decide +kernel
theorem dX12_unit_8 : decode cX12_unit 8 = .ok (.getfield 139, 3) := by decide +kernel
theorem dX12_unit_11 : decode cX12_unit 11 = .ok (.iconst 5, 1) := by decide +kernel
theorem dX12_unit_12 : decode cX12_unit 12 = .ok (.if_icmp .lt 12, 3) := by decide +kernel
theorem dX12_unit_15 : decode cX12_unit 15 = .ok (.aload_n 0, 1) := by decide +kernel
theorem dX12_unit_16 : decode cX12_unit 16 = .ok (.getfield 139, 3) := by decide +kernel
theorem dX12_unit_19 : decode cX12_unit 19 = .ok (.bipush 7, 2) := by decide +kernel
theorem dX12_unit_21 : decode cX12_unit 21 = .ok (.if_icmp .le 9, 3) := by decide +kernel
theorem dX12_unit_24 : decode cX12_unit 24 = .ok (.aload_n 0, 1) := by decide +kernel
theorem dX12_unit_25 : decode cX12_unit 25 = .ok (.iconst 1, 1) := by decide +kernel
theorem dX12_unit_26 : decode cX12_unit 26 = .ok (.invokevirtual 162, 3) := by decide +kernel
theorem dX12_unit_29 : decode cX12_unit 29 = .ok (.return_, 1) := by decide +kernel
theorem dX12_unit_30 : decode cX12_unit 30 = .ok (.aload_n 0, 1) := by decide +kernel
theorem dX12_unit_31 : decode cX12_unit 31 = .ok (.getfield 19, 3) := by decide +kernel
theorem dX12_unit_34 : decode cX12_unit 34 = .ok (.bipush 6, 2) := by decide +kernel
theorem dX12_unit_36 : decode cX12_unit 36 = .ok (.aload_n 0, 1) := by decide +kernel
theorem dX12_unit_37 : decode cX12_unit 37 = .ok (.getfield 139, 3) := by decide +kernel
theorem dX12_unit_40 : decode cX12_unit 40 = .ok (.iconst 5, 1) := by decide +kernel
theorem dX12_unit_41 : decode cX12_unit 41 = .ok (.isub, 1) := by decide +kernel
theorem dX12_unit_42 : decode cX12_unit 42 = .ok (.iastore, 1) := by decide +kernel
theorem dX12_unit_43 : decode cX12_unit 43 = .ok (.aload_n 0, 1) := by decide +kernel
theorem dX12_unit_44 : decode cX12_unit 44 = .ok (.invokevirtual 166, 3) := by decide +kernel
theorem dX12_unit_47 : decode cX12_unit 47 = .ok (.return_, 1) := by decide +kernel
theorem dX12_bind_0 : decode cX12_bind 0 = .ok (.iload_n 0, 1) := by decide +kernel
theorem dX12_bind_1 : decode cX12_bind 1 = .ok (.lookupswitch 128 #[(42, 125), (43, 123), (45, 123), (47, 125), (60, 121), (61, 121), (62, 121), (256, 121), (257, 121), (258, 121), (260, 119), (261, 117), (262, 115)], 115) := by decide +kernel
theorem dX12_bind_116 : decode cX12_bind 116 = .ok (.iconst 1, 1) := by decide +kernel
theorem dX12_bind_117 : decode cX12_bind 117 = .ok (.ireturn, 1) := by decide +kernel
theorem dX12_bind_118 : decode cX12_bind 118 = .ok (.iconst 2, 1) := by decide +kernel
theorem dX12_bind_119 : decode cX12_bind 119 = .ok (.ireturn, 1) := by decide +kernel
theorem dX12_bind_120 : decode cX12_bind 120 = .ok (.iconst 3, 1) := by decide +kernel
theorem dX12_bind_121 : decode cX12_bind 121 = .ok (.ireturn, 1) := by decide +kernel
theorem dX12_bind_122 : decode cX12_bind 122 = .ok (.iconst 4, 1) := by decide +kernel
theorem dX12_bind_123 : decode cX12_bind 123 = .ok (.ireturn, 1) := by decide +kernel
theorem dX12_bind_124 : decode cX12_bind 124 = .ok (.iconst 5, 1) := by decide +kernel
theorem dX12_bind_125 : decode cX12_bind 125 = .ok (.ireturn, 1) := by decide +kernel
theorem dX12_bind_126 : decode cX12_bind 126 = .ok (.bipush 6, 2) := by decide +kernel
theorem dX12_bind_128 : decode cX12_bind 128 = .ok (.ireturn, 1) := by decide +kernel
theorem dX12_bind_129 : decode cX12_bind 129 = .ok (.iconst 0, 1) := by decide +kernel
theorem dX12_bind_130 : decode cX12_bind 130 = .ok (.ireturn, 1) := by decide +kernel
theorem dX12_knot_0 : decode cX12_knot 0 = .ok (.aload_n 0, 1) := by decide +kernel
theorem dX12_knot_1 : decode cX12_knot 1 = .ok (.getfield 191, 3) := by decide +kernel
theorem dX12_knot_4 : decode cX12_knot 4 = .ok (.bipush 64, 2) := by decide +kernel
theorem dX12_knot_6 : decode cX12_knot 6 = .ok (.if_icmp .ne 11, 3) := by decide +kernel
theorem dX12_knot_9 : decode cX12_knot 9 = .ok (.aload_n 0, 1) := by decide +kernel
theorem dX12_knot_10 : decode cX12_knot 10 = .ok (.iconst 2, 1) := by decide +kernel
theorem dX12_knot_11 : decode cX12_knot 11 = .ok (.invokevirtual 162, 3) := by decide +kernel
theorem dX12_knot_14 : decode cX12_knot 14 = .ok (.goto 13, 3) := by decide +kernel
theorem dX12_knot_17 : decode cX12_knot 17 = .ok (.aload_n 0, 1) := by decide +kernel
theorem dX12_knot_18 : decode cX12_knot 18 = .ok (.dup, 1) := by decide +kernel
theorem dX12_knot_19 : decode cX12_knot 19 = .ok (.getfield 191, 3) := by decide +kernel
theorem dX12_knot_22 : decode cX12_knot 22 = .ok (.iconst 1, 1) := by decide +kernel
theorem dX12_knot_23 : decode cX12_knot 23 = .ok (.iadd, 1) := by decide +kernel
theorem dX12_knot_24 : decode cX12_knot 24 = .ok (.putfield 191, 3) := by decide +kernel
theorem dX12_knot_27 : decode cX12_knot 27 = .ok (.return_, 1) := by decide +kernel
theorem dX12_out_0 : decode cX12_out 0 = .ok (.aload_n 0, 1) := by decide +kernel
theorem dX12_out_1 : decode cX12_out 1 = .ok (.getfield 13, 3) := by decide +kernel
theorem dX12_out_4 : decode cX12_out 4 = .ok (.bipush 64, 2) := by decide +kernel
theorem dX12_out_6 : decode cX12_out 6 = .ok (.aload_n 0, 1) := by decide +kernel
theorem dX12_out_7 : decode cX12_out 7 = .ok (.getfield 194, 3) := by decide +kernel
theorem dX12_out_10 : decode cX12_out 10 = .ok (.iadd, 1) := by decide +kernel
theorem dX12_out_11 : decode cX12_out 11 = .ok (.iload_n 1, 1) := by decide +kernel
theorem dX12_out_12 : decode cX12_out 12 = .ok (.iastore, 1) := by decide +kernel
theorem dX12_out_13 : decode cX12_out 13 = .ok (.aload_n 0, 1) := by decide +kernel
theorem dX12_out_14 : decode cX12_out 14 = .ok (.getfield 16, 3) := by decide +kernel
theorem dX12_out_17 : decode cX12_out 17 = .ok (.bipush 64, 2) := by decide +kernel
theorem dX12_out_19 : decode cX12_out 19 = .ok (.aload_n 0, 1) := by decide +kernel
theorem dX12_out_20 : decode cX12_out 20 = .ok (.getfield 194, 3) := by decide +kernel
theorem dX12_out_23 : decode cX12_out 23 = .ok (.iadd, 1) := by decide +kernel
theorem dX12_out_24 : decode cX12_out 24 = .ok (.iload_n 2, 1) := by decide +kernel
theorem dX12_out_25 : decode cX12_out 25 = .ok (.iastore, 1) := by decide +kernel
theorem dX12_out_26 : decode cX12_out 26 = .ok (.aload_n 0, 1) := by decide +kernel
theorem dX12_out_27 : decode cX12_out 27 = .ok (.dup, 1) := by decide +kernel
theorem dX12_out_28 : decode cX12_out 28 = .ok (.getfield 194, 3) := by decide +kernel
theorem dX12_out_31 : decode cX12_out 31 = .ok (.iconst 1, 1) := by decide +kernel
theorem dX12_out_32 : decode cX12_out 32 = .ok (.iadd, 1) := by decide +kernel
theorem dX12_out_33 : decode cX12_out 33 = .ok (.putfield 194, 3) := by decide +kernel
theorem dX12_out_36 : decode cX12_out 36 = .ok (.return_, 1) := by decide +kernel
theorem dX12_pour_0 : decode cX12_pour 0 = .ok (.aload_n 0, 1) := by decide +kernel
theorem dX12_pour_1 : decode cX12_pour 1 = .ok (.getfield 197, 3) := by decide +kernel
theorem dX12_pour_4 : decode cX12_pour 4 = .ok (.ifCond .le 48, 3) := by decide +kernel
theorem dX12_pour_7 : decode cX12_pour 7 = .ok (.aload_n 0, 1) := by decide +kernel
theorem dX12_pour_8 : decode cX12_pour 8 = .ok (.getfield 26, 3) := by decide +kernel
theorem dX12_pour_11 : decode cX12_pour 11 = .ok (.aload_n 0, 1) := by decide +kernel
theorem dX12_pour_12 : decode cX12_pour 12 = .ok (.getfield 197, 3) := by decide +kernel
theorem dX12_pour_15 : decode cX12_pour 15 = .ok (.iconst 1, 1) := by decide +kernel
theorem dX12_pour_16 : decode cX12_pour 16 = .ok (.isub, 1) := by decide +kernel
theorem dX12_pour_17 : decode cX12_pour 17 = .ok (.iaload, 1) := by decide +kernel
theorem dX12_pour_18 : decode cX12_pour 18 = .ok (.invokestatic 200, 3) := by decide +kernel
theorem dX12_pour_21 : decode cX12_pour 21 = .ok (.iload_n 1, 1) := by decide +kernel
theorem dX12_pour_22 : decode cX12_pour 22 = .ok (.if_icmp .lt 30, 3) := by decide +kernel
theorem dX12_pour_25 : decode cX12_pour 25 = .ok (.aload_n 0, 1) := by decide +kernel
theorem dX12_pour_26 : decode cX12_pour 26 = .ok (.dup, 1) := by decide +kernel
theorem dX12_pour_27 : decode cX12_pour 27 = .ok (.getfield 197, 3) := by decide +kernel
theorem dX12_pour_30 : decode cX12_pour 30 = .ok (.iconst 1, 1) := by decide +kernel
theorem dX12_pour_31 : decode cX12_pour 31 = .ok (.isub, 1) := by decide +kernel
theorem dX12_pour_32 : decode cX12_pour 32 = .ok (.putfield 197, 3) := by decide +kernel
theorem dX12_pour_35 : decode cX12_pour 35 = .ok (.aload_n 0, 1) := by decide +kernel
theorem dX12_pour_36 : decode cX12_pour 36 = .ok (.iconst 2, 1) := by decide +kernel
theorem dX12_pour_37 : decode cX12_pour 37 = .ok (.aload_n 0, 1) := by decide +kernel
theorem dX12_pour_38 : decode cX12_pour 38 = .ok (.getfield 26, 3) := by decide +kernel
theorem dX12_pour_41 : decode cX12_pour 41 = .ok (.aload_n 0, 1) := by decide +kernel
theorem dX12_pour_42 : decode cX12_pour 42 = .ok (.getfield 197, 3) := by decide +kernel
theorem dX12_pour_45 : decode cX12_pour 45 = .ok (.iaload, 1) := by decide +kernel
theorem dX12_pour_46 : decode cX12_pour 46 = .ok (.invokevirtual 204, 3) := by decide +kernel
theorem dX12_pour_49 : decode cX12_pour 49 = .ok (.goto (-49), 3) := by decide +kernel
theorem dX12_pour_52 : decode cX12_pour 52 = .ok (.return_, 1) := by decide +kernel
theorem dX12_waits_0 : decode cX12_waits 0 = .ok (.aload_n 0, 1) := by decide +kernel
theorem dX12_waits_1 : decode cX12_waits 1 = .ok (.getfield 26, 3) := by decide +kernel
theorem dX12_waits_4 : decode cX12_waits 4 = .ok (.aload_n 0, 1) := by decide +kernel
theorem dX12_waits_5 : decode cX12_waits 5 = .ok (.getfield 197, 3) := by decide +kernel
theorem dX12_waits_8 : decode cX12_waits 8 = .ok (.iload_n 1, 1) := by decide +kernel
theorem dX12_waits_9 : decode cX12_waits 9 = .ok (.iastore, 1) := by decide +kernel
theorem dX12_waits_10 : decode cX12_waits 10 = .ok (.aload_n 0, 1) := by decide +kernel
theorem dX12_waits_11 : decode cX12_waits 11 = .ok (.dup, 1) := by decide +kernel
theorem dX12_waits_12 : decode cX12_waits 12 = .ok (.getfield 197, 3) := by decide +kernel
theorem dX12_waits_15 : decode cX12_waits 15 = .ok (.iconst 1, 1) := by decide +kernel
theorem dX12_waits_16 : decode cX12_waits 16 = .ok (.iadd, 1) := by decide +kernel
theorem dX12_waits_17 : decode cX12_waits 17 = .ok (.putfield 197, 3) := by decide +kernel
theorem dX12_waits_20 : decode cX12_waits 20 = .ok (.aload_n 0, 1) := by decide +kernel
theorem dX12_waits_21 : decode cX12_waits 21 = .ok (.invokevirtual 166, 3) := by decide +kernel
theorem dX12_waits_24 : decode cX12_waits 24 = .ok (.return_, 1) := by decide +kernel
theorem dX12_between_0 : decode cX12_between 0 = .ok (.aload_n 0, 1) := by decide +kernel
theorem dX12_between_1 : decode cX12_between 1 = .ok (.getfield 129, 3) := by decide +kernel
theorem dX12_between_4 : decode cX12_between 4 = .ok (.ifCond .ne 35, 3) := by decide +kernel
theorem dX12_between_7 : decode cX12_between 7 = .ok (.aload_n 0, 1) := by decide +kernel
theorem dX12_between_8 : decode cX12_between 8 = .ok (.getfield 139, 3) := by decide +kernel
theorem dX12_between_11 : decode cX12_between 11 = .ok (.bipush 11, 2) := by decide +kernel
theorem dX12_between_13 : decode cX12_between 13 = .ok (.if_icmp .ne 9, 3) := by decide +kernel
theorem dX12_between_16 : decode cX12_between 16 = .ok (.sipush 262, 3) := by decide +kernel
theorem dX12_between_19 : decode cX12_between 19 = .ok (.goto 19, 3) := by decide +kernel
theorem dX12_between_22 : decode cX12_between 22 = .ok (.aload_n 0, 1) := by decide +kernel
theorem dX12_between_23 : decode cX12_between 23 = .ok (.getfield 139, 3) := by decide +kernel
theorem dX12_between_26 : decode cX12_between 26 = .ok (.bipush 12, 2) := by decide +kernel
theorem dX12_between_28 : decode cX12_between 28 = .ok (.if_icmp .ne 9, 3) := by decide +kernel
theorem dX12_between_31 : decode cX12_between 31 = .ok (.sipush 261, 3) := by decide +kernel
theorem dX12_between_34 : decode cX12_between 34 = .ok (.goto 4, 3) := by decide +kernel
theorem dX12_between_37 : decode cX12_between 37 = .ok (.iconst 0, 1) := by decide +kernel
theorem dX12_between_38 : decode cX12_between 38 = .ok (.ireturn, 1) := by decide +kernel
theorem dX12_between_39 : decode cX12_between 39 = .ok (.aload_n 0, 1) := by decide +kernel
theorem dX12_between_40 : decode cX12_between 40 = .ok (.getfield 129, 3) := by decide +kernel
theorem dX12_between_43 : decode cX12_between 43 = .ok (.iconst 2, 1) := by decide +kernel
theorem dX12_between_44 : decode cX12_between 44 = .ok (.if_icmp .ne 38, 3) := by decide +kernel
theorem dX12_between_47 : decode cX12_between 47 = .ok (.aload_n 0, 1) := by decide +kernel
theorem dX12_between_48 : decode cX12_between 48 = .ok (.getfield 139, 3) := by decide +kernel
theorem dX12_between_51 : decode cX12_between 51 = .ok (.bipush 40, 2) := by decide +kernel
theorem dX12_between_53 : decode cX12_between 53 = .ok (.if_icmp .eq 29, 3) := by decide +kernel
theorem dX12_between_56 : decode cX12_between 56 = .ok (.aload_n 0, 1) := by decide +kernel
theorem dX12_between_57 : decode cX12_between 57 = .ok (.getfield 139, 3) := by decide +kernel
theorem dX12_between_60 : decode cX12_between 60 = .ok (.bipush 41, 2) := by decide +kernel
theorem dX12_between_62 : decode cX12_between 62 = .ok (.if_icmp .eq 20, 3) := by decide +kernel
theorem dX12_between_65 : decode cX12_between 65 = .ok (.aload_n 0, 1) := by decide +kernel
theorem dX12_between_66 : decode cX12_between 66 = .ok (.getfield 139, 3) := by decide +kernel
theorem dX12_between_69 : decode cX12_between 69 = .ok (.invokestatic 200, 3) := by decide +kernel
theorem dX12_between_72 : decode cX12_between 72 = .ok (.ifCond .le 10, 3) := by decide +kernel
theorem dX12_between_75 : decode cX12_between 75 = .ok (.aload_n 0, 1) := by decide +kernel
theorem dX12_between_76 : decode cX12_between 76 = .ok (.getfield 139, 3) := by decide +kernel
theorem dX12_between_79 : decode cX12_between 79 = .ok (.goto 4, 3) := by decide +kernel
theorem dX12_between_82 : decode cX12_between 82 = .ok (.iconst 0, 1) := by decide +kernel
theorem dX12_between_83 : decode cX12_between 83 = .ok (.ireturn, 1) := by decide +kernel
theorem dX12_expression_0 : decode cX12_expression 0 = .ok (.aload_n 0, 1) := by decide +kernel
theorem dX12_expression_1 : decode cX12_expression 1 = .ok (.iconst 0, 1) := by decide +kernel
theorem dX12_expression_2 : decode cX12_expression 2 = .ok (.putfield 197, 3) := by decide +kernel
theorem dX12_expression_5 : decode cX12_expression 5 = .ok (.aload_n 0, 1) := by decide +kernel
theorem dX12_expression_6 : decode cX12_expression 6 = .ok (.iconst 0, 1) := by decide +kernel
theorem dX12_expression_7 : decode cX12_expression 7 = .ok (.putfield 207, 3) := by decide +kernel
theorem dX12_expression_10 : decode cX12_expression 10 = .ok (.iconst 0, 1) := by decide +kernel
theorem dX12_expression_11 : decode cX12_expression 11 = .ok (.istore_n 1, 1) := by decide +kernel
theorem dX12_expression_12 : decode cX12_expression 12 = .ok (.iconst 1, 1) := by decide +kernel
theorem dX12_expression_13 : decode cX12_expression 13 = .ok (.istore_n 2, 1) := by decide +kernel
theorem dX12_expression_14 : decode cX12_expression 14 = .ok (.aload_n 0, 1) := by decide +kernel
theorem dX12_expression_15 : decode cX12_expression 15 = .ok (.getfield 156, 3) := by decide +kernel
theorem dX12_expression_18 : decode cX12_expression 18 = .ok (.ifCond .ne 91, 3) := by decide +kernel
theorem dX12_expression_21 : decode cX12_expression 21 = .ok (.iload_n 2, 1) := by decide +kernel
theorem dX12_expression_22 : decode cX12_expression 22 = .ok (.ifCond .eq 87, 3) := by decide +kernel
theorem dX12_expression_25 : decode cX12_expression 25 = .ok (.iload_n 1, 1) := by decide +kernel
theorem dX12_expression_26 : decode cX12_expression 26 = .ok (.ifCond .ne 11, 3) := by decide +kernel
theorem dX12_expression_29 : decode cX12_expression 29 = .ok (.aload_n 0, 1) := by decide +kernel
theorem dX12_expression_30 : decode cX12_expression 30 = .ok (.invokevirtual 210, 3) := by decide +kernel
theorem dX12_expression_33 : decode cX12_expression 33 = .ok (.istore_n 1, 1) := by decide +kernel
theorem dX12_expression_34 : decode cX12_expression 34 = .ok (.goto (-20), 3) := by decide +kernel
theorem dX12_expression_37 : decode cX12_expression 37 = .ok (.aload_n 0, 1) := by decide +kernel
theorem dX12_expression_38 : decode cX12_expression 38 = .ok (.invokevirtual 214, 3) := by decide +kernel
theorem dX12_expression_41 : decode cX12_expression 41 = .ok (.istore_n 3, 1) := by decide +kernel
theorem dX12_expression_42 : decode cX12_expression 42 = .ok (.iload_n 3, 1) := by decide +kernel
theorem dX12_expression_43 : decode cX12_expression 43 = .ok (.ifCond .eq 13, 3) := by decide +kernel
theorem dX12_expression_46 : decode cX12_expression 46 = .ok (.aload_n 0, 1) := by decide +kernel
theorem dX12_expression_47 : decode cX12_expression 47 = .ok (.iload_n 3, 1) := by decide +kernel
theorem dX12_expression_48 : decode cX12_expression 48 = .ok (.invokevirtual 217, 3) := by decide +kernel
theorem dX12_expression_51 : decode cX12_expression 51 = .ok (.iconst 0, 1) := by decide +kernel
theorem dX12_expression_52 : decode cX12_expression 52 = .ok (.istore_n 1, 1) := by decide +kernel
theorem dX12_expression_53 : decode cX12_expression 53 = .ok (.goto 53, 3) := by decide +kernel
theorem dX12_expression_56 : decode cX12_expression 56 = .ok (.aload_n 0, 1) := by decide +kernel
theorem dX12_expression_57 : decode cX12_expression 57 = .ok (.bipush 41, 2) := by decide +kernel
theorem dX12_expression_59 : decode cX12_expression 59 = .ok (.invokevirtual 185, 3) := by decide +kernel
theorem dX12_expression_62 : decode cX12_expression 62 = .ok (.ifCond .eq 42, 3) := by decide +kernel
theorem dX12_expression_65 : decode cX12_expression 65 = .ok (.aload_n 0, 1) := by decide +kernel
theorem dX12_expression_66 : decode cX12_expression 66 = .ok (.getfield 207, 3) := by decide +kernel
theorem dX12_expression_69 : decode cX12_expression 69 = .ok (.ifCond .le 35, 3) := by decide +kernel
theorem dX12_expression_72 : decode cX12_expression 72 = .ok (.aload_n 0, 1) := by decide +kernel
theorem dX12_expression_73 : decode cX12_expression 73 = .ok (.iconst 1, 1) := by decide +kernel
theorem dX12_expression_74 : decode cX12_expression 74 = .ok (.invokevirtual 220, 3) := by decide +kernel
theorem dX12_expression_77 : decode cX12_expression 77 = .ok (.aload_n 0, 1) := by decide +kernel
theorem dX12_expression_78 : decode cX12_expression 78 = .ok (.dup, 1) := by decide +kernel
theorem dX12_expression_79 : decode cX12_expression 79 = .ok (.getfield 197, 3) := by decide +kernel
theorem dX12_expression_82 : decode cX12_expression 82 = .ok (.iconst 1, 1) := by decide +kernel
theorem dX12_expression_83 : decode cX12_expression 83 = .ok (.isub, 1) := by decide +kernel
theorem dX12_expression_84 : decode cX12_expression 84 = .ok (.putfield 197, 3) := by decide +kernel
theorem dX12_expression_87 : decode cX12_expression 87 = .ok (.aload_n 0, 1) := by decide +kernel
theorem dX12_expression_88 : decode cX12_expression 88 = .ok (.dup, 1) := by decide +kernel
theorem dX12_expression_89 : decode cX12_expression 89 = .ok (.getfield 207, 3) := by decide +kernel
theorem dX12_expression_92 : decode cX12_expression 92 = .ok (.iconst 1, 1) := by decide +kernel
theorem dX12_expression_93 : decode cX12_expression 93 = .ok (.isub, 1) := by decide +kernel
theorem dX12_expression_94 : decode cX12_expression 94 = .ok (.putfield 207, 3) := by decide +kernel
theorem dX12_expression_97 : decode cX12_expression 97 = .ok (.aload_n 0, 1) := by decide +kernel
theorem dX12_expression_98 : decode cX12_expression 98 = .ok (.invokevirtual 166, 3) := by decide +kernel
theorem dX12_expression_101 : decode cX12_expression 101 = .ok (.goto 5, 3) := by decide +kernel
theorem dX12_expression_104 : decode cX12_expression 104 = .ok (.iconst 0, 1) := by decide +kernel
theorem dX12_expression_105 : decode cX12_expression 105 = .ok (.istore_n 2, 1) := by decide +kernel
theorem dX12_expression_106 : decode cX12_expression 106 = .ok (.goto (-92), 3) := by decide +kernel
theorem dX12_expression_109 : decode cX12_expression 109 = .ok (.aload_n 0, 1) := by decide +kernel
theorem dX12_expression_110 : decode cX12_expression 110 = .ok (.getfield 156, 3) := by decide +kernel
theorem dX12_expression_113 : decode cX12_expression 113 = .ok (.ifCond .eq 4, 3) := by decide +kernel
theorem dX12_expression_116 : decode cX12_expression 116 = .ok (.return_, 1) := by decide +kernel
theorem dX12_expression_117 : decode cX12_expression 117 = .ok (.aload_n 0, 1) := by decide +kernel
theorem dX12_expression_118 : decode cX12_expression 118 = .ok (.getfield 207, 3) := by decide +kernel
theorem dX12_expression_121 : decode cX12_expression 121 = .ok (.ifCond .le 8, 3) := by decide +kernel
theorem dX12_expression_124 : decode cX12_expression 124 = .ok (.aload_n 0, 1) := by decide +kernel
theorem dX12_expression_125 : decode cX12_expression 125 = .ok (.iconst 1, 1) := by decide +kernel
theorem dX12_expression_126 : decode cX12_expression 126 = .ok (.invokevirtual 162, 3) := by decide +kernel
theorem dX12_expression_129 : decode cX12_expression 129 = .ok (.aload_n 0, 1) := by decide +kernel
theorem dX12_expression_130 : decode cX12_expression 130 = .ok (.getfield 156, 3) := by decide +kernel
theorem dX12_expression_133 : decode cX12_expression 133 = .ok (.ifCond .ne 8, 3) := by decide +kernel
theorem dX12_expression_136 : decode cX12_expression 136 = .ok (.aload_n 0, 1) := by decide +kernel
theorem dX12_expression_137 : decode cX12_expression 137 = .ok (.iconst 1, 1) := by decide +kernel
theorem dX12_expression_138 : decode cX12_expression 138 = .ok (.invokevirtual 220, 3) := by decide +kernel
theorem dX12_expression_141 : decode cX12_expression 141 = .ok (.return_, 1) := by decide +kernel
theorem dX12_sign_0 : decode cX12_sign 0 = .ok (.iload_n 1, 1) := by decide +kernel
theorem dX12_sign_1 : decode cX12_sign 1 = .ok (.invokestatic 200, 3) := by decide +kernel
theorem dX12_sign_4 : decode cX12_sign 4 = .ok (.iconst 4, 1) := by decide +kernel
theorem dX12_sign_5 : decode cX12_sign 5 = .ok (.if_icmp .ne 41, 3) := by decide +kernel
theorem dX12_sign_8 : decode cX12_sign 8 = .ok (.aload_n 0, 1) := by decide +kernel
theorem dX12_sign_9 : decode cX12_sign 9 = .ok (.iconst 5, 1) := by decide +kernel
theorem dX12_sign_10 : decode cX12_sign 10 = .ok (.invokevirtual 220, 3) := by decide +kernel
theorem dX12_sign_13 : decode cX12_sign 13 = .ok (.aload_n 0, 1) := by decide +kernel
theorem dX12_sign_14 : decode cX12_sign 14 = .ok (.getfield 197, 3) := by decide +kernel
theorem dX12_sign_17 : decode cX12_sign 17 = .ok (.ifCond .le 37, 3) := by decide +kernel
theorem dX12_sign_20 : decode cX12_sign 20 = .ok (.aload_n 0, 1) := by decide +kernel
theorem dX12_sign_21 : decode cX12_sign 21 = .ok (.getfield 26, 3) := by decide +kernel
theorem dX12_sign_24 : decode cX12_sign 24 = .ok (.aload_n 0, 1) := by decide +kernel
theorem dX12_sign_25 : decode cX12_sign 25 = .ok (.getfield 197, 3) := by decide +kernel
theorem dX12_sign_28 : decode cX12_sign 28 = .ok (.iconst 1, 1) := by decide +kernel
theorem dX12_sign_29 : decode cX12_sign 29 = .ok (.isub, 1) := by decide +kernel
theorem dX12_sign_30 : decode cX12_sign 30 = .ok (.iaload, 1) := by decide +kernel
theorem dX12_sign_31 : decode cX12_sign 31 = .ok (.invokestatic 200, 3) := by decide +kernel
theorem dX12_sign_34 : decode cX12_sign 34 = .ok (.iconst 4, 1) := by decide +kernel
theorem dX12_sign_35 : decode cX12_sign 35 = .ok (.if_icmp .ne 19, 3) := by decide +kernel
theorem dX12_sign_38 : decode cX12_sign 38 = .ok (.aload_n 0, 1) := by decide +kernel
theorem dX12_sign_39 : decode cX12_sign 39 = .ok (.iconst 1, 1) := by decide +kernel
theorem dX12_sign_40 : decode cX12_sign 40 = .ok (.invokevirtual 162, 3) := by decide +kernel
theorem dX12_sign_43 : decode cX12_sign 43 = .ok (.goto 11, 3) := by decide +kernel
theorem dX12_sign_46 : decode cX12_sign 46 = .ok (.aload_n 0, 1) := by decide +kernel
theorem dX12_sign_47 : decode cX12_sign 47 = .ok (.iload_n 1, 1) := by decide +kernel
theorem dX12_sign_48 : decode cX12_sign 48 = .ok (.invokestatic 200, 3) := by decide +kernel
theorem dX12_sign_51 : decode cX12_sign 51 = .ok (.invokevirtual 220, 3) := by decide +kernel
theorem dX12_sign_54 : decode cX12_sign 54 = .ok (.aload_n 0, 1) := by decide +kernel
theorem dX12_sign_55 : decode cX12_sign 55 = .ok (.getfield 156, 3) := by decide +kernel
theorem dX12_sign_58 : decode cX12_sign 58 = .ok (.ifCond .ne 7, 3) := by decide +kernel
theorem dX12_sign_61 : decode cX12_sign 61 = .ok (.aload_n 0, 1) := by decide +kernel
theorem dX12_sign_62 : decode cX12_sign 62 = .ok (.invokevirtual 223, 3) := by decide +kernel
theorem dX12_sign_65 : decode cX12_sign 65 = .ok (.aload_n 0, 1) := by decide +kernel
theorem dX12_sign_66 : decode cX12_sign 66 = .ok (.getfield 156, 3) := by decide +kernel
theorem dX12_sign_69 : decode cX12_sign 69 = .ok (.ifCond .ne 8, 3) := by decide +kernel
theorem dX12_sign_72 : decode cX12_sign 72 = .ok (.aload_n 0, 1) := by decide +kernel
theorem dX12_sign_73 : decode cX12_sign 73 = .ok (.iload_n 1, 1) := by decide +kernel
theorem dX12_sign_74 : decode cX12_sign 74 = .ok (.invokevirtual 226, 3) := by decide +kernel
theorem dX12_sign_77 : decode cX12_sign 77 = .ok (.return_, 1) := by decide +kernel
theorem dX12_operand_0 : decode cX12_operand 0 = .ok (.aload_n 0, 1) := by decide +kernel
theorem dX12_operand_1 : decode cX12_operand 1 = .ok (.getfield 129, 3) := by decide +kernel
theorem dX12_operand_4 : decode cX12_operand 4 = .ok (.iconst 1, 1) := by decide +kernel
theorem dX12_operand_5 : decode cX12_operand 5 = .ok (.if_icmp .ne 53, 3) := by decide +kernel
theorem dX12_operand_8 : decode cX12_operand 8 = .ok (.aload_n 0, 1) := by decide +kernel
theorem dX12_operand_9 : decode cX12_operand 9 = .ok (.getfield 139, 3) := by decide +kernel
theorem dX12_operand_12 : decode cX12_operand 12 = .ok (.sipush 9999, 3) := by decide +kernel
theorem dX12_operand_15 : decode cX12_operand 15 = .ok (.if_icmp .le 8, 3) := by decide +kernel
theorem dX12_operand_18 : decode cX12_operand 18 = .ok (.aload_n 0, 1) := by decide +kernel
theorem dX12_operand_19 : decode cX12_operand 19 = .ok (.iconst 2, 1) := by decide +kernel
theorem dX12_operand_20 : decode cX12_operand 20 = .ok (.invokevirtual 162, 3) := by decide +kernel
theorem dX12_operand_23 : decode cX12_operand 23 = .ok (.aload_n 0, 1) := by decide +kernel
theorem dX12_operand_24 : decode cX12_operand 24 = .ok (.getfield 156, 3) := by decide +kernel
theorem dX12_operand_27 : decode cX12_operand 27 = .ok (.ifCond .ne 7, 3) := by decide +kernel
theorem dX12_operand_30 : decode cX12_operand 30 = .ok (.aload_n 0, 1) := by decide +kernel
theorem dX12_operand_31 : decode cX12_operand 31 = .ok (.invokevirtual 223, 3) := by decide +kernel
theorem dX12_operand_34 : decode cX12_operand 34 = .ok (.aload_n 0, 1) := by decide +kernel
theorem dX12_operand_35 : decode cX12_operand 35 = .ok (.getfield 156, 3) := by decide +kernel
theorem dX12_operand_38 : decode cX12_operand 38 = .ok (.ifCond .eq 5, 3) := by decide +kernel
theorem dX12_operand_41 : decode cX12_operand 41 = .ok (.iconst 0, 1) := by decide +kernel
theorem dX12_operand_42 : decode cX12_operand 42 = .ok (.ireturn, 1) := by decide +kernel
theorem dX12_operand_43 : decode cX12_operand 43 = .ok (.aload_n 0, 1) := by decide +kernel
theorem dX12_operand_44 : decode cX12_operand 44 = .ok (.iconst 0, 1) := by decide +kernel
theorem dX12_operand_45 : decode cX12_operand 45 = .ok (.aload_n 0, 1) := by decide +kernel
theorem dX12_operand_46 : decode cX12_operand 46 = .ok (.getfield 139, 3) := by decide +kernel
theorem dX12_operand_49 : decode cX12_operand 49 = .ok (.invokevirtual 204, 3) := by decide +kernel
theorem dX12_operand_52 : decode cX12_operand 52 = .ok (.aload_n 0, 1) := by decide +kernel
theorem dX12_operand_53 : decode cX12_operand 53 = .ok (.invokevirtual 166, 3) := by decide +kernel
theorem dX12_operand_56 : decode cX12_operand 56 = .ok (.iconst 1, 1) := by decide +kernel
theorem dX12_operand_57 : decode cX12_operand 57 = .ok (.ireturn, 1) := by decide +kernel
theorem dX12_operand_58 : decode cX12_operand 58 = .ok (.aload_n 0, 1) := by decide +kernel
theorem dX12_operand_59 : decode cX12_operand 59 = .ok (.getfield 129, 3) := by decide +kernel
theorem dX12_operand_62 : decode cX12_operand 62 = .ok (.ifCond .ne 43, 3) := by decide +kernel
theorem dX12_operand_65 : decode cX12_operand 65 = .ok (.aload_n 0, 1) := by decide +kernel
theorem dX12_operand_66 : decode cX12_operand 66 = .ok (.getfield 139, 3) := by decide +kernel
theorem dX12_operand_69 : decode cX12_operand 69 = .ok (.bipush 14, 2) := by decide +kernel
theorem dX12_operand_71 : decode cX12_operand 71 = .ok (.if_icmp .lt 34, 3) := by decide +kernel
theorem dX12_operand_74 : decode cX12_operand 74 = .ok (.aload_n 0, 1) := by decide +kernel
theorem dX12_operand_75 : decode cX12_operand 75 = .ok (.invokevirtual 223, 3) := by decide +kernel
theorem dX12_operand_78 : decode cX12_operand 78 = .ok (.aload_n 0, 1) := by decide +kernel
theorem dX12_operand_79 : decode cX12_operand 79 = .ok (.getfield 156, 3) := by decide +kernel
theorem dX12_operand_82 : decode cX12_operand 82 = .ok (.ifCond .eq 5, 3) := by decide +kernel
theorem dX12_operand_85 : decode cX12_operand 85 = .ok (.iconst 0, 1) := by decide +kernel
theorem dX12_operand_86 : decode cX12_operand 86 = .ok (.ireturn, 1) := by decide +kernel
theorem dX12_operand_87 : decode cX12_operand 87 = .ok (.aload_n 0, 1) := by decide +kernel
theorem dX12_operand_88 : decode cX12_operand 88 = .ok (.iconst 1, 1) := by decide +kernel
theorem dX12_operand_89 : decode cX12_operand 89 = .ok (.aload_n 0, 1) := by decide +kernel
theorem dX12_operand_90 : decode cX12_operand 90 = .ok (.getfield 139, 3) := by decide +kernel
theorem dX12_operand_93 : decode cX12_operand 93 = .ok (.bipush 14, 2) := by decide +kernel
theorem dX12_operand_95 : decode cX12_operand 95 = .ok (.isub, 1) := by decide +kernel
theorem dX12_operand_96 : decode cX12_operand 96 = .ok (.invokevirtual 204, 3) := by decide +kernel
theorem dX12_operand_99 : decode cX12_operand 99 = .ok (.aload_n 0, 1) := by decide +kernel
theorem dX12_operand_100 : decode cX12_operand 100 = .ok (.invokevirtual 166, 3) := by decide +kernel
theorem dX12_operand_103 : decode cX12_operand 103 = .ok (.iconst 1, 1) := by decide +kernel
theorem dX12_operand_104 : decode cX12_operand 104 = .ok (.ireturn, 1) := by decide +kernel
theorem dX12_operand_105 : decode cX12_operand 105 = .ok (.aload_n 0, 1) := by decide +kernel
theorem dX12_operand_106 : decode cX12_operand 106 = .ok (.bipush 40, 2) := by decide +kernel
theorem dX12_operand_108 : decode cX12_operand 108 = .ok (.invokevirtual 185, 3) := by decide +kernel
theorem dX12_operand_111 : decode cX12_operand 111 = .ok (.ifCond .eq 44, 3) := by decide +kernel
theorem dX12_operand_114 : decode cX12_operand 114 = .ok (.aload_n 0, 1) := by decide +kernel
theorem dX12_operand_115 : decode cX12_operand 115 = .ok (.getfield 207, 3) := by decide +kernel
theorem dX12_operand_118 : decode cX12_operand 118 = .ok (.bipush 8, 2) := by decide +kernel
theorem dX12_operand_120 : decode cX12_operand 120 = .ok (.if_icmp .ne 8, 3) := by decide +kernel
theorem dX12_operand_123 : decode cX12_operand 123 = .ok (.aload_n 0, 1) := by decide +kernel
theorem dX12_operand_124 : decode cX12_operand 124 = .ok (.iconst 2, 1) := by decide +kernel
theorem dX12_operand_125 : decode cX12_operand 125 = .ok (.invokevirtual 162, 3) := by decide +kernel
theorem dX12_operand_128 : decode cX12_operand 128 = .ok (.aload_n 0, 1) := by decide +kernel
theorem dX12_operand_129 : decode cX12_operand 129 = .ok (.getfield 156, 3) := by decide +kernel
theorem dX12_operand_132 : decode cX12_operand 132 = .ok (.ifCond .eq 5, 3) := by decide +kernel
theorem dX12_operand_135 : decode cX12_operand 135 = .ok (.iconst 0, 1) := by decide +kernel
theorem dX12_operand_136 : decode cX12_operand 136 = .ok (.ireturn, 1) := by decide +kernel
theorem dX12_operand_137 : decode cX12_operand 137 = .ok (.aload_n 0, 1) := by decide +kernel
theorem dX12_operand_138 : decode cX12_operand 138 = .ok (.dup, 1) := by decide +kernel
theorem dX12_operand_139 : decode cX12_operand 139 = .ok (.getfield 207, 3) := by decide +kernel
theorem dX12_operand_142 : decode cX12_operand 142 = .ok (.iconst 1, 1) := by decide +kernel
theorem dX12_operand_143 : decode cX12_operand 143 = .ok (.iadd, 1) := by decide +kernel
theorem dX12_operand_144 : decode cX12_operand 144 = .ok (.putfield 207, 3) := by decide +kernel
theorem dX12_operand_147 : decode cX12_operand 147 = .ok (.aload_n 0, 1) := by decide +kernel
theorem dX12_operand_148 : decode cX12_operand 148 = .ok (.bipush 40, 2) := by decide +kernel
theorem dX12_operand_150 : decode cX12_operand 150 = .ok (.invokevirtual 226, 3) := by decide +kernel
theorem dX12_operand_153 : decode cX12_operand 153 = .ok (.iconst 0, 1) := by decide +kernel
theorem dX12_operand_154 : decode cX12_operand 154 = .ok (.ireturn, 1) := by decide +kernel
theorem dX12_operand_155 : decode cX12_operand 155 = .ok (.aload_n 0, 1) := by decide +kernel
theorem dX12_operand_156 : decode cX12_operand 156 = .ok (.getfield 197, 3) := by decide +kernel
theorem dX12_operand_159 : decode cX12_operand 159 = .ok (.ifCond .eq 21, 3) := by decide +kernel
theorem dX12_operand_162 : decode cX12_operand 162 = .ok (.aload_n 0, 1) := by decide +kernel
theorem dX12_operand_163 : decode cX12_operand 163 = .ok (.getfield 26, 3) := by decide +kernel
theorem dX12_operand_166 : decode cX12_operand 166 = .ok (.aload_n 0, 1) := by decide +kernel
theorem dX12_operand_167 : decode cX12_operand 167 = .ok (.getfield 197, 3) := by decide +kernel
theorem dX12_operand_170 : decode cX12_operand 170 = .ok (.iconst 1, 1) := by decide +kernel
theorem dX12_operand_171 : decode cX12_operand 171 = .ok (.isub, 1) := by decide +kernel
theorem dX12_operand_172 : decode cX12_operand 172 = .ok (.iaload, 1) := by decide +kernel
theorem dX12_operand_173 : decode cX12_operand 173 = .ok (.invokestatic 200, 3) := by decide +kernel
theorem dX12_operand_176 : decode cX12_operand 176 = .ok (.iconst 4, 1) := by decide +kernel
theorem dX12_operand_177 : decode cX12_operand 177 = .ok (.if_icmp .ge 7, 3) := by decide +kernel
theorem dX12_operand_180 : decode cX12_operand 180 = .ok (.iconst 1, 1) := by decide +kernel
theorem dX12_operand_181 : decode cX12_operand 181 = .ok (.goto 4, 3) := by decide +kernel
theorem dX12_operand_184 : decode cX12_operand 184 = .ok (.iconst 0, 1) := by decide +kernel
theorem dX12_operand_185 : decode cX12_operand 185 = .ok (.istore_n 1, 1) := by decide +kernel
theorem dX12_operand_186 : decode cX12_operand 186 = .ok (.aload_n 0, 1) := by decide +kernel
theorem dX12_operand_187 : decode cX12_operand 187 = .ok (.getfield 129, 3) := by decide +kernel
theorem dX12_operand_190 : decode cX12_operand 190 = .ok (.ifCond .ne 16, 3) := by decide +kernel
theorem dX12_operand_193 : decode cX12_operand 193 = .ok (.aload_n 0, 1) := by decide +kernel
theorem dX12_operand_194 : decode cX12_operand 194 = .ok (.getfield 139, 3) := by decide +kernel
theorem dX12_operand_197 : decode cX12_operand 197 = .ok (.bipush 13, 2) := by decide +kernel
theorem dX12_operand_199 : decode cX12_operand 199 = .ok (.if_icmp .ne 7, 3) := by decide +kernel
theorem dX12_operand_202 : decode cX12_operand 202 = .ok (.iload_n 1, 1) := by decide +kernel
theorem dX12_operand_203 : decode cX12_operand 203 = .ok (.ifCond .ne 10, 3) := by decide +kernel
theorem dX12_operand_206 : decode cX12_operand 206 = .ok (.aload_n 0, 1) := by decide +kernel
theorem dX12_operand_207 : decode cX12_operand 207 = .ok (.iconst 1, 1) := by decide +kernel
theorem dX12_operand_208 : decode cX12_operand 208 = .ok (.invokevirtual 162, 3) := by decide +kernel
theorem dX12_operand_211 : decode cX12_operand 211 = .ok (.iconst 0, 1) := by decide +kernel
theorem dX12_operand_212 : decode cX12_operand 212 = .ok (.ireturn, 1) := by decide +kernel
theorem dX12_operand_213 : decode cX12_operand 213 = .ok (.aload_n 0, 1) := by decide +kernel
theorem dX12_operand_214 : decode cX12_operand 214 = .ok (.invokevirtual 223, 3) := by decide +kernel
theorem dX12_operand_217 : decode cX12_operand 217 = .ok (.aload_n 0, 1) := by decide +kernel
theorem dX12_operand_218 : decode cX12_operand 218 = .ok (.getfield 156, 3) := by decide +kernel
theorem dX12_operand_221 : decode cX12_operand 221 = .ok (.ifCond .ne 10, 3) := by decide +kernel
theorem dX12_operand_224 : decode cX12_operand 224 = .ok (.aload_n 0, 1) := by decide +kernel
theorem dX12_operand_225 : decode cX12_operand 225 = .ok (.sipush 260, 3) := by decide +kernel
theorem dX12_operand_228 : decode cX12_operand 228 = .ok (.invokevirtual 226, 3) := by decide +kernel
theorem dX12_operand_231 : decode cX12_operand 231 = .ok (.iconst 0, 1) := by decide +kernel
theorem dX12_operand_232 : decode cX12_operand 232 = .ok (.ireturn, 1) := by decide +kernel
theorem dX12_terms_0 : decode cX12_terms 0 = .ok (.aload_n 0, 1) := by decide +kernel
theorem dX12_terms_1 : decode cX12_terms 1 = .ok (.iconst 0, 1) := by decide +kernel
theorem dX12_terms_2 : decode cX12_terms 2 = .ok (.putfield 110, 3) := by decide +kernel
theorem dX12_terms_5 : decode cX12_terms 5 = .ok (.iload_n 1, 1) := by decide +kernel
theorem dX12_terms_6 : decode cX12_terms 6 = .ok (.ifCond .lt 11, 3) := by decide +kernel
theorem dX12_terms_9 : decode cX12_terms 9 = .ok (.iload_n 1, 1) := by decide +kernel
theorem dX12_terms_10 : decode cX12_terms 10 = .ok (.aload_n 0, 1) := by decide +kernel
theorem dX12_terms_11 : decode cX12_terms 11 = .ok (.getfield 113, 3) := by decide +kernel
theorem dX12_terms_14 : decode cX12_terms 14 = .ok (.if_icmp .le 6, 3) := by decide +kernel
theorem dX12_terms_17 : decode cX12_terms 17 = .ok (.bipush (-2), 2) := by decide +kernel
theorem dX12_terms_19 : decode cX12_terms 19 = .ok (.ireturn, 1) := by decide +kernel
theorem dX12_terms_20 : decode cX12_terms 20 = .ok (.aload_n 0, 1) := by decide +kernel
theorem dX12_terms_21 : decode cX12_terms 21 = .ok (.iload_n 1, 1) := by decide +kernel
theorem dX12_terms_22 : decode cX12_terms 22 = .ok (.putfield 119, 3) := by decide +kernel
theorem dX12_terms_25 : decode cX12_terms 25 = .ok (.aload_n 0, 1) := by decide +kernel
theorem dX12_terms_26 : decode cX12_terms 26 = .ok (.iconst 0, 1) := by decide +kernel
theorem dX12_terms_27 : decode cX12_terms 27 = .ok (.putfield 113, 3) := by decide +kernel
theorem dX12_terms_30 : decode cX12_terms 30 = .ok (.aload_n 0, 1) := by decide +kernel
theorem dX12_terms_31 : decode cX12_terms 31 = .ok (.iconst 0, 1) := by decide +kernel
theorem dX12_terms_32 : decode cX12_terms 32 = .ok (.putfield 116, 3) := by decide +kernel
theorem dX12_terms_35 : decode cX12_terms 35 = .ok (.aload_n 0, 1) := by decide +kernel
theorem dX12_terms_36 : decode cX12_terms 36 = .ok (.iconst 0, 1) := by decide +kernel
theorem dX12_terms_37 : decode cX12_terms 37 = .ok (.putfield 156, 3) := by decide +kernel
theorem dX12_terms_40 : decode cX12_terms 40 = .ok (.aload_n 0, 1) := by decide +kernel
theorem dX12_terms_41 : decode cX12_terms 41 = .ok (.iconst (-1), 1) := by decide +kernel
theorem dX12_terms_42 : decode cX12_terms 42 = .ok (.putfield 159, 3) := by decide +kernel
theorem dX12_terms_45 : decode cX12_terms 45 = .ok (.aload_n 0, 1) := by decide +kernel
theorem dX12_terms_46 : decode cX12_terms 46 = .ok (.iconst 0, 1) := by decide +kernel
theorem dX12_terms_47 : decode cX12_terms 47 = .ok (.putfield 191, 3) := by decide +kernel
theorem dX12_terms_50 : decode cX12_terms 50 = .ok (.aload_n 0, 1) := by decide +kernel
theorem dX12_terms_51 : decode cX12_terms 51 = .ok (.iconst 0, 1) := by decide +kernel
theorem dX12_terms_52 : decode cX12_terms 52 = .ok (.putfield 194, 3) := by decide +kernel
theorem dX12_terms_55 : decode cX12_terms 55 = .ok (.aload_n 0, 1) := by decide +kernel
theorem dX12_terms_56 : decode cX12_terms 56 = .ok (.iconst 0, 1) := by decide +kernel
theorem dX12_terms_57 : decode cX12_terms 57 = .ok (.putfield 188, 3) := by decide +kernel
theorem dX12_terms_60 : decode cX12_terms 60 = .ok (.aload_n 0, 1) := by decide +kernel
theorem dX12_terms_61 : decode cX12_terms 61 = .ok (.iconst 0, 1) := by decide +kernel
theorem dX12_terms_62 : decode cX12_terms 62 = .ok (.putfield 169, 3) := by decide +kernel
theorem dX12_terms_65 : decode cX12_terms 65 = .ok (.bipush 6, 2) := by decide +kernel
theorem dX12_terms_67 : decode cX12_terms 67 = .ok (.istore_n 2, 1) := by decide +kernel
theorem dX12_terms_68 : decode cX12_terms 68 = .ok (.iload_n 2, 1) := by decide +kernel
theorem dX12_terms_69 : decode cX12_terms 69 = .ok (.bipush 12, 2) := by decide +kernel
theorem dX12_terms_71 : decode cX12_terms 71 = .ok (.if_icmp .ge 37, 3) := by decide +kernel
theorem dX12_terms_74 : decode cX12_terms 74 = .ok (.aload_n 0, 1) := by decide +kernel
theorem dX12_terms_75 : decode cX12_terms 75 = .ok (.getfield 19, 3) := by decide +kernel
theorem dX12_terms_78 : decode cX12_terms 78 = .ok (.iload_n 2, 1) := by decide +kernel
theorem dX12_terms_79 : decode cX12_terms 79 = .ok (.iload_n 2, 1) := by decide +kernel
theorem dX12_terms_80 : decode cX12_terms 80 = .ok (.bipush 10, 2) := by decide +kernel
theorem dX12_terms_82 : decode cX12_terms 82 = .ok (.if_icmp .ne 8, 3) := by decide +kernel
theorem dX12_terms_85 : decode cX12_terms 85 = .ok (.bipush 10, 2) := by decide +kernel
theorem dX12_terms_87 : decode cX12_terms 87 = .ok (.goto 14, 3) := by decide +kernel
theorem dX12_terms_90 : decode cX12_terms 90 = .ok (.iload_n 2, 1) := by decide +kernel
theorem dX12_terms_91 : decode cX12_terms 91 = .ok (.bipush 11, 2) := by decide +kernel
theorem dX12_terms_93 : decode cX12_terms 93 = .ok (.if_icmp .ne 7, 3) := by decide +kernel
theorem dX12_terms_96 : decode cX12_terms 96 = .ok (.iconst 5, 1) := by decide +kernel
theorem dX12_terms_97 : decode cX12_terms 97 = .ok (.goto 4, 3) := by decide +kernel
theorem dX12_terms_100 : decode cX12_terms 100 = .ok (.iconst 0, 1) := by decide +kernel
theorem dX12_terms_101 : decode cX12_terms 101 = .ok (.iastore, 1) := by decide +kernel
theorem dX12_terms_102 : decode cX12_terms 102 = .ok (.iinc 2 1, 3) := by decide +kernel
theorem dX12_terms_105 : decode cX12_terms 105 = .ok (.goto (-37), 3) := by decide +kernel
theorem dX12_terms_108 : decode cX12_terms 108 = .ok (.aload_n 0, 1) := by decide +kernel
theorem dX12_terms_109 : decode cX12_terms 109 = .ok (.invokevirtual 166, 3) := by decide +kernel
theorem dX12_terms_112 : decode cX12_terms 112 = .ok (.aload_n 0, 1) := by decide +kernel
theorem dX12_terms_113 : decode cX12_terms 113 = .ok (.getfield 156, 3) := by decide +kernel
theorem dX12_terms_116 : decode cX12_terms 116 = .ok (.ifCond .ne 18, 3) := by decide +kernel
theorem dX12_terms_119 : decode cX12_terms 119 = .ok (.aload_n 0, 1) := by decide +kernel
theorem dX12_terms_120 : decode cX12_terms 120 = .ok (.getfield 129, 3) := by decide +kernel
theorem dX12_terms_123 : decode cX12_terms 123 = .ok (.iconst 3, 1) := by decide +kernel
theorem dX12_terms_124 : decode cX12_terms 124 = .ok (.if_icmp .eq 10, 3) := by decide +kernel
theorem dX12_terms_127 : decode cX12_terms 127 = .ok (.aload_n 0, 1) := by decide +kernel
theorem dX12_terms_128 : decode cX12_terms 128 = .ok (.invokevirtual 229, 3) := by decide +kernel
theorem dX12_terms_131 : decode cX12_terms 131 = .ok (.goto (-19), 3) := by decide +kernel
theorem dX12_terms_134 : decode cX12_terms 134 = .ok (.aload_n 0, 1) := by decide +kernel
theorem dX12_terms_135 : decode cX12_terms 135 = .ok (.aload_n 0, 1) := by decide +kernel
theorem dX12_terms_136 : decode cX12_terms 136 = .ok (.getfield 156, 3) := by decide +kernel
theorem dX12_terms_139 : decode cX12_terms 139 = .ok (.putfield 232, 3) := by decide +kernel
theorem dX12_terms_142 : decode cX12_terms 142 = .ok (.aload_n 0, 1) := by decide +kernel
theorem dX12_terms_143 : decode cX12_terms 143 = .ok (.aload_n 0, 1) := by decide +kernel
theorem dX12_terms_144 : decode cX12_terms 144 = .ok (.getfield 159, 3) := by decide +kernel
theorem dX12_terms_147 : decode cX12_terms 147 = .ok (.putfield 22, 3) := by decide +kernel
theorem dX12_terms_150 : decode cX12_terms 150 = .ok (.aload_n 0, 1) := by decide +kernel
theorem dX12_terms_151 : decode cX12_terms 151 = .ok (.getfield 156, 3) := by decide +kernel
theorem dX12_terms_154 : decode cX12_terms 154 = .ok (.ifCond .eq 5, 3) := by decide +kernel
theorem dX12_terms_157 : decode cX12_terms 157 = .ok (.iconst (-1), 1) := by decide +kernel
theorem dX12_terms_158 : decode cX12_terms 158 = .ok (.ireturn, 1) := by decide +kernel
theorem dX12_terms_159 : decode cX12_terms 159 = .ok (.iconst 0, 1) := by decide +kernel
theorem dX12_terms_160 : decode cX12_terms 160 = .ok (.istore_n 2, 1) := by decide +kernel
theorem dX12_terms_161 : decode cX12_terms 161 = .ok (.iload_n 2, 1) := by decide +kernel
theorem dX12_terms_162 : decode cX12_terms 162 = .ok (.bipush 64, 2) := by decide +kernel
theorem dX12_terms_164 : decode cX12_terms 164 = .ok (.if_icmp .ge 39, 3) := by decide +kernel
theorem dX12_terms_167 : decode cX12_terms 167 = .ok (.aload_n 0, 1) := by decide +kernel
theorem dX12_terms_168 : decode cX12_terms 168 = .ok (.getfield 13, 3) := by decide +kernel
theorem dX12_terms_171 : decode cX12_terms 171 = .ok (.iload_n 2, 1) := by decide +kernel
theorem dX12_terms_172 : decode cX12_terms 172 = .ok (.aload_n 0, 1) := by decide +kernel
theorem dX12_terms_173 : decode cX12_terms 173 = .ok (.getfield 13, 3) := by decide +kernel
theorem dX12_terms_176 : decode cX12_terms 176 = .ok (.bipush 64, 2) := by decide +kernel
theorem dX12_terms_178 : decode cX12_terms 178 = .ok (.iload_n 2, 1) := by decide +kernel
theorem dX12_terms_179 : decode cX12_terms 179 = .ok (.iadd, 1) := by decide +kernel
theorem dX12_terms_180 : decode cX12_terms 180 = .ok (.iaload, 1) := by decide +kernel
theorem dX12_terms_181 : decode cX12_terms 181 = .ok (.iastore, 1) := by decide +kernel
theorem dX12_terms_182 : decode cX12_terms 182 = .ok (.aload_n 0, 1) := by decide +kernel
theorem dX12_terms_183 : decode cX12_terms 183 = .ok (.getfield 16, 3) := by decide +kernel
theorem dX12_terms_186 : decode cX12_terms 186 = .ok (.iload_n 2, 1) := by decide +kernel
theorem dX12_terms_187 : decode cX12_terms 187 = .ok (.aload_n 0, 1) := by decide +kernel
theorem dX12_terms_188 : decode cX12_terms 188 = .ok (.getfield 16, 3) := by decide +kernel
theorem dX12_terms_191 : decode cX12_terms 191 = .ok (.bipush 64, 2) := by decide +kernel
theorem dX12_terms_193 : decode cX12_terms 193 = .ok (.iload_n 2, 1) := by decide +kernel
theorem dX12_terms_194 : decode cX12_terms 194 = .ok (.iadd, 1) := by decide +kernel
theorem dX12_terms_195 : decode cX12_terms 195 = .ok (.iaload, 1) := by decide +kernel
theorem dX12_terms_196 : decode cX12_terms 196 = .ok (.iastore, 1) := by decide +kernel
theorem dX12_terms_197 : decode cX12_terms 197 = .ok (.iinc 2 1, 3) := by decide +kernel
theorem dX12_terms_200 : decode cX12_terms 200 = .ok (.goto (-39), 3) := by decide +kernel
theorem dX12_terms_203 : decode cX12_terms 203 = .ok (.iconst 0, 1) := by decide +kernel
theorem dX12_terms_204 : decode cX12_terms 204 = .ok (.istore_n 2, 1) := by decide +kernel
theorem dX12_terms_205 : decode cX12_terms 205 = .ok (.iload_n 2, 1) := by decide +kernel
theorem dX12_terms_206 : decode cX12_terms 206 = .ok (.bipush 6, 2) := by decide +kernel
theorem dX12_terms_208 : decode cX12_terms 208 = .ok (.if_icmp .ge 24, 3) := by decide +kernel
theorem dX12_terms_211 : decode cX12_terms 211 = .ok (.aload_n 0, 1) := by decide +kernel
theorem dX12_terms_212 : decode cX12_terms 212 = .ok (.getfield 19, 3) := by decide +kernel
theorem dX12_terms_215 : decode cX12_terms 215 = .ok (.iload_n 2, 1) := by decide +kernel
theorem dX12_terms_216 : decode cX12_terms 216 = .ok (.aload_n 0, 1) := by decide +kernel
theorem dX12_terms_217 : decode cX12_terms 217 = .ok (.getfield 19, 3) := by decide +kernel
theorem dX12_terms_220 : decode cX12_terms 220 = .ok (.bipush 6, 2) := by decide +kernel
theorem dX12_terms_222 : decode cX12_terms 222 = .ok (.iload_n 2, 1) := by decide +kernel
theorem dX12_terms_223 : decode cX12_terms 223 = .ok (.iadd, 1) := by decide +kernel
theorem dX12_terms_224 : decode cX12_terms 224 = .ok (.iaload, 1) := by decide +kernel
theorem dX12_terms_225 : decode cX12_terms 225 = .ok (.iastore, 1) := by decide +kernel
theorem dX12_terms_226 : decode cX12_terms 226 = .ok (.iinc 2 1, 3) := by decide +kernel
theorem dX12_terms_229 : decode cX12_terms 229 = .ok (.goto (-24), 3) := by decide +kernel
theorem dX12_terms_232 : decode cX12_terms 232 = .ok (.aload_n 0, 1) := by decide +kernel
theorem dX12_terms_233 : decode cX12_terms 233 = .ok (.aload_n 0, 1) := by decide +kernel
theorem dX12_terms_234 : decode cX12_terms 234 = .ok (.getfield 194, 3) := by decide +kernel
theorem dX12_terms_237 : decode cX12_terms 237 = .ok (.putfield 235, 3) := by decide +kernel
theorem dX12_terms_240 : decode cX12_terms 240 = .ok (.aload_n 0, 1) := by decide +kernel
theorem dX12_terms_241 : decode cX12_terms 241 = .ok (.aload_n 0, 1) := by decide +kernel
theorem dX12_terms_242 : decode cX12_terms 242 = .ok (.getfield 169, 3) := by decide +kernel
theorem dX12_terms_245 : decode cX12_terms 245 = .ok (.iconst 1, 1) := by decide +kernel
theorem dX12_terms_246 : decode cX12_terms 246 = .ok (.ishr, 1) := by decide +kernel
theorem dX12_terms_247 : decode cX12_terms 247 = .ok (.iconst 1, 1) := by decide +kernel
theorem dX12_terms_248 : decode cX12_terms 248 = .ok (.iand, 1) := by decide +kernel
theorem dX12_terms_249 : decode cX12_terms 249 = .ok (.iconst 1, 1) := by decide +kernel
theorem dX12_terms_250 : decode cX12_terms 250 = .ok (.if_icmp .ne 7, 3) := by decide +kernel
theorem dX12_terms_253 : decode cX12_terms 253 = .ok (.iconst 1, 1) := by decide +kernel
theorem dX12_terms_254 : decode cX12_terms 254 = .ok (.goto 4, 3) := by decide +kernel
theorem dX12_terms_257 : decode cX12_terms 257 = .ok (.iconst 0, 1) := by decide +kernel
theorem dX12_terms_258 : decode cX12_terms 258 = .ok (.putfield 238, 3) := by decide +kernel
theorem dX12_terms_261 : decode cX12_terms 261 = .ok (.aload_n 0, 1) := by decide +kernel
theorem dX12_terms_262 : decode cX12_terms 262 = .ok (.aload_n 0, 1) := by decide +kernel
theorem dX12_terms_263 : decode cX12_terms 263 = .ok (.getfield 191, 3) := by decide +kernel
theorem dX12_terms_266 : decode cX12_terms 266 = .ok (.putfield 242, 3) := by decide +kernel
theorem dX12_terms_269 : decode cX12_terms 269 = .ok (.aload_n 0, 1) := by decide +kernel
theorem dX12_terms_270 : decode cX12_terms 270 = .ok (.getfield 188, 3) := by decide +kernel
theorem dX12_terms_273 : decode cX12_terms 273 = .ok (.ireturn, 1) := by decide +kernel
theorem dX12_fault_0 : decode cX12_fault 0 = .ok (.aload_n 0, 1) := by decide +kernel
theorem dX12_fault_1 : decode cX12_fault 1 = .ok (.iconst 0, 1) := by decide +kernel
theorem dX12_fault_2 : decode cX12_fault 2 = .ok (.putfield 110, 3) := by decide +kernel
theorem dX12_fault_5 : decode cX12_fault 5 = .ok (.iload_n 1, 1) := by decide +kernel
theorem dX12_fault_6 : decode cX12_fault 6 = .ok (.ifCond .ne 10, 3) := by decide +kernel
theorem dX12_fault_9 : decode cX12_fault 9 = .ok (.aload_n 0, 1) := by decide +kernel
theorem dX12_fault_10 : decode cX12_fault 10 = .ok (.getfield 232, 3) := by decide +kernel
theorem dX12_fault_13 : decode cX12_fault 13 = .ok (.goto 16, 3) := by decide +kernel
theorem dX12_fault_16 : decode cX12_fault 16 = .ok (.iload_n 1, 1) := by decide +kernel
theorem dX12_fault_17 : decode cX12_fault 17 = .ok (.iconst 1, 1) := by decide +kernel
theorem dX12_fault_18 : decode cX12_fault 18 = .ok (.if_icmp .ne 10, 3) := by decide +kernel
theorem dX12_fault_21 : decode cX12_fault 21 = .ok (.aload_n 0, 1) := by decide +kernel
theorem dX12_fault_22 : decode cX12_fault 22 = .ok (.getfield 22, 3) := by decide +kernel
theorem dX12_fault_25 : decode cX12_fault 25 = .ok (.goto 4, 3) := by decide +kernel
theorem dX12_fault_28 : decode cX12_fault 28 = .ok (.iconst (-1), 1) := by decide +kernel
theorem dX12_fault_29 : decode cX12_fault 29 = .ok (.ireturn, 1) := by decide +kernel
theorem dX12_puts_0 : decode cX12_puts 0 = .ok (.aload_n 0, 1) := by decide +kernel
theorem dX12_puts_1 : decode cX12_puts 1 = .ok (.getfield 33, 3) := by decide +kernel
theorem dX12_puts_4 : decode cX12_puts 4 = .ok (.aload_n 0, 1) := by decide +kernel
theorem dX12_puts_5 : decode cX12_puts 5 = .ok (.getfield 245, 3) := by decide +kernel
theorem dX12_puts_8 : decode cX12_puts 8 = .ok (.lload_n 1, 1) := by decide +kernel
theorem dX12_puts_9 : decode cX12_puts 9 = .ok (.lastore, 1) := by decide +kernel
theorem dX12_puts_10 : decode cX12_puts 10 = .ok (.aload_n 0, 1) := by decide +kernel
theorem dX12_puts_11 : decode cX12_puts 11 = .ok (.dup, 1) := by decide +kernel
theorem dX12_puts_12 : decode cX12_puts 12 = .ok (.getfield 245, 3) := by decide +kernel
theorem dX12_puts_15 : decode cX12_puts 15 = .ok (.iconst 1, 1) := by decide +kernel
theorem dX12_puts_16 : decode cX12_puts 16 = .ok (.iadd, 1) := by decide +kernel
theorem dX12_puts_17 : decode cX12_puts 17 = .ok (.putfield 245, 3) := by decide +kernel
theorem dX12_puts_20 : decode cX12_puts 20 = .ok (.lload_n 1, 1) := by decide +kernel
theorem dX12_puts_21 : decode cX12_puts 21 = .ok (.ldc2_w 248, 3) := by decide +kernel
theorem dX12_puts_24 : decode cX12_puts 24 = .ok (.lcmp, 1) := by decide +kernel
theorem dX12_puts_25 : decode cX12_puts 25 = .ok (.ifCond .gt 15, 3) := by decide +kernel
theorem dX12_puts_28 : decode cX12_puts 28 = .ok (.lload_n 1, 1) := by decide +kernel
theorem dX12_puts_29 : decode cX12_puts 29 = .ok (.ldc2_w 250, 3) := by decide +kernel
theorem dX12_puts_32 : decode cX12_puts 32 = .ok (.lcmp, 1) := by decide +kernel
theorem dX12_puts_33 : decode cX12_puts 33 = .ok (.ifCond .lt 7, 3) := by decide +kernel
theorem dX12_puts_36 : decode cX12_puts 36 = .ok (.iconst 1, 1) := by decide +kernel
theorem dX12_puts_37 : decode cX12_puts 37 = .ok (.goto 4, 3) := by decide +kernel
theorem dX12_puts_40 : decode cX12_puts 40 = .ok (.iconst 0, 1) := by decide +kernel
theorem dX12_puts_41 : decode cX12_puts 41 = .ok (.ireturn, 1) := by decide +kernel
theorem dX12_is_0 : decode cX12_is 0 = .ok (.iload_n 0, 1) := by decide +kernel
theorem dX12_is_1 : decode cX12_is 1 = .ok (.ifCond .eq 7, 3) := by decide +kernel
theorem dX12_is_4 : decode cX12_is 4 = .ok (.lconst 1, 1) := by decide +kernel
theorem dX12_is_5 : decode cX12_is 5 = .ok (.goto 4, 3) := by decide +kernel
theorem dX12_is_8 : decode cX12_is 8 = .ok (.lconst 0, 1) := by decide +kernel
theorem dX12_is_9 : decode cX12_is 9 = .ok (.lreturn, 1) := by decide +kernel
theorem dX12_does_0 : decode cX12_does 0 = .ok (.iload_n 1, 1) := by decide +kernel
theorem dX12_does_1 : decode cX12_does 1 = .ok (.sipush 260, 3) := by decide +kernel
theorem dX12_does_4 : decode cX12_does 4 = .ok (.if_icmp .ne 40, 3) := by decide +kernel
theorem dX12_does_7 : decode cX12_does 7 = .ok (.aload_n 0, 1) := by decide +kernel
theorem dX12_does_8 : decode cX12_does 8 = .ok (.getfield 33, 3) := by decide +kernel
theorem dX12_does_11 : decode cX12_does 11 = .ok (.aload_n 0, 1) := by decide +kernel
theorem dX12_does_12 : decode cX12_does 12 = .ok (.getfield 245, 3) := by decide +kernel
theorem dX12_does_15 : decode cX12_does 15 = .ok (.iconst 1, 1) := by decide +kernel
theorem dX12_does_16 : decode cX12_does 16 = .ok (.isub, 1) := by decide +kernel
theorem dX12_does_17 : decode cX12_does 17 = .ok (.aload_n 0, 1) := by decide +kernel
theorem dX12_does_18 : decode cX12_does 18 = .ok (.getfield 33, 3) := by decide +kernel
theorem dX12_does_21 : decode cX12_does 21 = .ok (.aload_n 0, 1) := by decide +kernel
theorem dX12_does_22 : decode cX12_does 22 = .ok (.getfield 245, 3) := by decide +kernel
theorem dX12_does_25 : decode cX12_does 25 = .ok (.iconst 1, 1) := by decide +kernel
theorem dX12_does_26 : decode cX12_does 26 = .ok (.isub, 1) := by decide +kernel
theorem dX12_does_27 : decode cX12_does 27 = .ok (.laload, 1) := by decide +kernel
theorem dX12_does_28 : decode cX12_does 28 = .ok (.lconst 0, 1) := by decide +kernel
theorem dX12_does_29 : decode cX12_does 29 = .ok (.lcmp, 1) := by decide +kernel
theorem dX12_does_30 : decode cX12_does 30 = .ok (.ifCond .ne 7, 3) := by decide +kernel
theorem dX12_does_33 : decode cX12_does 33 = .ok (.iconst 1, 1) := by decide +kernel
theorem dX12_does_34 : decode cX12_does 34 = .ok (.goto 4, 3) := by decide +kernel
theorem dX12_does_37 : decode cX12_does 37 = .ok (.iconst 0, 1) := by decide +kernel
theorem dX12_does_38 : decode cX12_does 38 = .ok (.invokestatic 252, 3) := by decide +kernel
theorem dX12_does_41 : decode cX12_does 41 = .ok (.lastore, 1) := by decide +kernel
theorem dX12_does_42 : decode cX12_does 42 = .ok (.iconst 1, 1) := by decide +kernel
theorem dX12_does_43 : decode cX12_does 43 = .ok (.ireturn, 1) := by decide +kernel
theorem dX12_does_44 : decode cX12_does 44 = .ok (.aload_n 0, 1) := by decide +kernel
theorem dX12_does_45 : decode cX12_does 45 = .ok (.dup, 1) := by decide +kernel
theorem dX12_does_46 : decode cX12_does 46 = .ok (.getfield 245, 3) := by decide +kernel
theorem dX12_does_49 : decode cX12_does 49 = .ok (.iconst 2, 1) := by decide +kernel
theorem dX12_does_50 : decode cX12_does 50 = .ok (.isub, 1) := by decide +kernel
theorem dX12_does_51 : decode cX12_does 51 = .ok (.putfield 245, 3) := by decide +kernel
theorem dX12_does_54 : decode cX12_does 54 = .ok (.aload_n 0, 1) := by decide +kernel
theorem dX12_does_55 : decode cX12_does 55 = .ok (.getfield 33, 3) := by decide +kernel
theorem dX12_does_58 : decode cX12_does 58 = .ok (.aload_n 0, 1) := by decide +kernel
theorem dX12_does_59 : decode cX12_does 59 = .ok (.getfield 245, 3) := by decide +kernel
theorem dX12_does_62 : decode cX12_does 62 = .ok (.laload, 1) := by decide +kernel
theorem dX12_does_63 : decode cX12_does 63 = .ok (.lstore_n 2, 1) := by decide +kernel
theorem dX12_does_64 : decode cX12_does 64 = .ok (.aload_n 0, 1) := by decide +kernel
theorem dX12_does_65 : decode cX12_does 65 = .ok (.getfield 33, 3) := by decide +kernel
theorem dX12_does_68 : decode cX12_does 68 = .ok (.aload_n 0, 1) := by decide +kernel
theorem dX12_does_69 : decode cX12_does 69 = .ok (.getfield 245, 3) := by decide +kernel
theorem dX12_does_72 : decode cX12_does 72 = .ok (.iconst 1, 1) := by decide +kernel
theorem dX12_does_73 : decode cX12_does 73 = .ok (.iadd, 1) := by decide +kernel
theorem dX12_does_74 : decode cX12_does 74 = .ok (.laload, 1) := by decide +kernel
theorem dX12_does_75 : decode cX12_does 75 = .ok (.lstore 4, 2) := by decide +kernel
theorem dX12_does_77 : decode cX12_does 77 = .ok (.iload_n 1, 1) := by decide +kernel
theorem dX12_does_78 : decode cX12_does 78 = .ok (.lookupswitch 328 #[(42, 288), (43, 270), (45, 279), (60, 150), (61, 190), (62, 250), (256, 170), (257, 210), (258, 230), (261, 124), (262, 98)], 98) := by decide +kernel
theorem dX12_does_176 : decode cX12_does 176 = .ok (.aload_n 0, 1) := by decide +kernel
theorem dX12_does_177 : decode cX12_does 177 = .ok (.lload_n 2, 1) := by decide +kernel
theorem dX12_does_178 : decode cX12_does 178 = .ok (.lconst 0, 1) := by decide +kernel
theorem dX12_does_179 : decode cX12_does 179 = .ok (.lcmp, 1) := by decide +kernel
theorem dX12_does_180 : decode cX12_does 180 = .ok (.ifCond .ne 10, 3) := by decide +kernel
theorem dX12_does_183 : decode cX12_does 183 = .ok (.lload 4, 2) := by decide +kernel
theorem dX12_does_185 : decode cX12_does 185 = .ok (.lconst 0, 1) := by decide +kernel
theorem dX12_does_186 : decode cX12_does 186 = .ok (.lcmp, 1) := by decide +kernel
theorem dX12_does_187 : decode cX12_does 187 = .ok (.ifCond .eq 7, 3) := by decide +kernel
theorem dX12_does_190 : decode cX12_does 190 = .ok (.iconst 1, 1) := by decide +kernel
theorem dX12_does_191 : decode cX12_does 191 = .ok (.goto 4, 3) := by decide +kernel
theorem dX12_does_194 : decode cX12_does 194 = .ok (.iconst 0, 1) := by decide +kernel
theorem dX12_does_195 : decode cX12_does 195 = .ok (.invokestatic 252, 3) := by decide +kernel
theorem dX12_does_198 : decode cX12_does 198 = .ok (.invokevirtual 256, 3) := by decide +kernel
theorem dX12_does_201 : decode cX12_does 201 = .ok (.ireturn, 1) := by decide +kernel
theorem dX12_does_202 : decode cX12_does 202 = .ok (.aload_n 0, 1) := by decide +kernel
theorem dX12_does_203 : decode cX12_does 203 = .ok (.lload_n 2, 1) := by decide +kernel
theorem dX12_does_204 : decode cX12_does 204 = .ok (.lconst 0, 1) := by decide +kernel
theorem dX12_does_205 : decode cX12_does 205 = .ok (.lcmp, 1) := by decide +kernel
theorem dX12_does_206 : decode cX12_does 206 = .ok (.ifCond .eq 14, 3) := by decide +kernel
theorem dX12_does_209 : decode cX12_does 209 = .ok (.lload 4, 2) := by decide +kernel
theorem dX12_does_211 : decode cX12_does 211 = .ok (.lconst 0, 1) := by decide +kernel
theorem dX12_does_212 : decode cX12_does 212 = .ok (.lcmp, 1) := by decide +kernel
theorem dX12_does_213 : decode cX12_does 213 = .ok (.ifCond .eq 7, 3) := by decide +kernel
theorem dX12_does_216 : decode cX12_does 216 = .ok (.iconst 1, 1) := by decide +kernel
theorem dX12_does_217 : decode cX12_does 217 = .ok (.goto 4, 3) := by decide +kernel
theorem dX12_does_220 : decode cX12_does 220 = .ok (.iconst 0, 1) := by decide +kernel
theorem dX12_does_221 : decode cX12_does 221 = .ok (.invokestatic 252, 3) := by decide +kernel
theorem dX12_does_224 : decode cX12_does 224 = .ok (.invokevirtual 256, 3) := by decide +kernel
theorem dX12_does_227 : decode cX12_does 227 = .ok (.ireturn, 1) := by decide +kernel
theorem dX12_does_228 : decode cX12_does 228 = .ok (.aload_n 0, 1) := by decide +kernel
theorem dX12_does_229 : decode cX12_does 229 = .ok (.lload_n 2, 1) := by decide +kernel
theorem dX12_does_230 : decode cX12_does 230 = .ok (.lload 4, 2) := by decide +kernel
theorem dX12_does_232 : decode cX12_does 232 = .ok (.lcmp, 1) := by decide +kernel
theorem dX12_does_233 : decode cX12_does 233 = .ok (.ifCond .ge 7, 3) := by decide +kernel
theorem dX12_does_236 : decode cX12_does 236 = .ok (.iconst 1, 1) := by decide +kernel
theorem dX12_does_237 : decode cX12_does 237 = .ok (.goto 4, 3) := by decide +kernel
theorem dX12_does_240 : decode cX12_does 240 = .ok (.iconst 0, 1) := by decide +kernel
theorem dX12_does_241 : decode cX12_does 241 = .ok (.invokestatic 252, 3) := by decide +kernel
theorem dX12_does_244 : decode cX12_does 244 = .ok (.invokevirtual 256, 3) := by decide +kernel
theorem dX12_does_247 : decode cX12_does 247 = .ok (.ireturn, 1) := by decide +kernel
theorem dX12_does_248 : decode cX12_does 248 = .ok (.aload_n 0, 1) := by decide +kernel
theorem dX12_does_249 : decode cX12_does 249 = .ok (.lload_n 2, 1) := by decide +kernel
theorem dX12_does_250 : decode cX12_does 250 = .ok (.lload 4, 2) := by decide +kernel
theorem dX12_does_252 : decode cX12_does 252 = .ok (.lcmp, 1) := by decide +kernel
theorem dX12_does_253 : decode cX12_does 253 = .ok (.ifCond .gt 7, 3) := by decide +kernel
theorem dX12_does_256 : decode cX12_does 256 = .ok (.iconst 1, 1) := by decide +kernel
theorem dX12_does_257 : decode cX12_does 257 = .ok (.goto 4, 3) := by decide +kernel
theorem dX12_does_260 : decode cX12_does 260 = .ok (.iconst 0, 1) := by decide +kernel
theorem dX12_does_261 : decode cX12_does 261 = .ok (.invokestatic 252, 3) := by decide +kernel
theorem dX12_does_264 : decode cX12_does 264 = .ok (.invokevirtual 256, 3) := by decide +kernel
theorem dX12_does_267 : decode cX12_does 267 = .ok (.ireturn, 1) := by decide +kernel
theorem dX12_does_268 : decode cX12_does 268 = .ok (.aload_n 0, 1) := by decide +kernel
theorem dX12_does_269 : decode cX12_does 269 = .ok (.lload_n 2, 1) := by decide +kernel
theorem dX12_does_270 : decode cX12_does 270 = .ok (.lload 4, 2) := by decide +kernel
theorem dX12_does_272 : decode cX12_does 272 = .ok (.lcmp, 1) := by decide +kernel
theorem dX12_does_273 : decode cX12_does 273 = .ok (.ifCond .ne 7, 3) := by decide +kernel
theorem dX12_does_276 : decode cX12_does 276 = .ok (.iconst 1, 1) := by decide +kernel
theorem dX12_does_277 : decode cX12_does 277 = .ok (.goto 4, 3) := by decide +kernel
theorem dX12_does_280 : decode cX12_does 280 = .ok (.iconst 0, 1) := by decide +kernel
theorem dX12_does_281 : decode cX12_does 281 = .ok (.invokestatic 252, 3) := by decide +kernel
theorem dX12_does_284 : decode cX12_does 284 = .ok (.invokevirtual 256, 3) := by decide +kernel
theorem dX12_does_287 : decode cX12_does 287 = .ok (.ireturn, 1) := by decide +kernel
theorem dX12_does_288 : decode cX12_does 288 = .ok (.aload_n 0, 1) := by decide +kernel
theorem dX12_does_289 : decode cX12_does 289 = .ok (.lload_n 2, 1) := by decide +kernel
theorem dX12_does_290 : decode cX12_does 290 = .ok (.lload 4, 2) := by decide +kernel
theorem dX12_does_292 : decode cX12_does 292 = .ok (.lcmp, 1) := by decide +kernel
theorem dX12_does_293 : decode cX12_does 293 = .ok (.ifCond .eq 7, 3) := by decide +kernel
theorem dX12_does_296 : decode cX12_does 296 = .ok (.iconst 1, 1) := by decide +kernel
theorem dX12_does_297 : decode cX12_does 297 = .ok (.goto 4, 3) := by decide +kernel
theorem dX12_does_300 : decode cX12_does 300 = .ok (.iconst 0, 1) := by decide +kernel
theorem dX12_does_301 : decode cX12_does 301 = .ok (.invokestatic 252, 3) := by decide +kernel
theorem dX12_does_304 : decode cX12_does 304 = .ok (.invokevirtual 256, 3) := by decide +kernel
theorem dX12_does_307 : decode cX12_does 307 = .ok (.ireturn, 1) := by decide +kernel
theorem dX12_does_308 : decode cX12_does 308 = .ok (.aload_n 0, 1) := by decide +kernel
theorem dX12_does_309 : decode cX12_does 309 = .ok (.lload_n 2, 1) := by decide +kernel
theorem dX12_does_310 : decode cX12_does 310 = .ok (.lload 4, 2) := by decide +kernel
theorem dX12_does_312 : decode cX12_does 312 = .ok (.lcmp, 1) := by decide +kernel
theorem dX12_does_313 : decode cX12_does 313 = .ok (.ifCond .lt 7, 3) := by decide +kernel
theorem dX12_does_316 : decode cX12_does 316 = .ok (.iconst 1, 1) := by decide +kernel
theorem dX12_does_317 : decode cX12_does 317 = .ok (.goto 4, 3) := by decide +kernel
theorem dX12_does_320 : decode cX12_does 320 = .ok (.iconst 0, 1) := by decide +kernel
theorem dX12_does_321 : decode cX12_does 321 = .ok (.invokestatic 252, 3) := by decide +kernel
theorem dX12_does_324 : decode cX12_does 324 = .ok (.invokevirtual 256, 3) := by decide +kernel
theorem dX12_does_327 : decode cX12_does 327 = .ok (.ireturn, 1) := by decide +kernel
theorem dX12_does_328 : decode cX12_does 328 = .ok (.aload_n 0, 1) := by decide +kernel
theorem dX12_does_329 : decode cX12_does 329 = .ok (.lload_n 2, 1) := by decide +kernel
theorem dX12_does_330 : decode cX12_does 330 = .ok (.lload 4, 2) := by decide +kernel
theorem dX12_does_332 : decode cX12_does 332 = .ok (.lcmp, 1) := by decide +kernel
theorem dX12_does_333 : decode cX12_does 333 = .ok (.ifCond .le 7, 3) := by decide +kernel
theorem dX12_does_336 : decode cX12_does 336 = .ok (.iconst 1, 1) := by decide +kernel
theorem dX12_does_337 : decode cX12_does 337 = .ok (.goto 4, 3) := by decide +kernel
theorem dX12_does_340 : decode cX12_does 340 = .ok (.iconst 0, 1) := by decide +kernel
theorem dX12_does_341 : decode cX12_does 341 = .ok (.invokestatic 252, 3) := by decide +kernel
theorem dX12_does_344 : decode cX12_does 344 = .ok (.invokevirtual 256, 3) := by decide +kernel
theorem dX12_does_347 : decode cX12_does 347 = .ok (.ireturn, 1) := by decide +kernel
theorem dX12_does_348 : decode cX12_does 348 = .ok (.aload_n 0, 1) := by decide +kernel
theorem dX12_does_349 : decode cX12_does 349 = .ok (.lload_n 2, 1) := by decide +kernel
theorem dX12_does_350 : decode cX12_does 350 = .ok (.lload 4, 2) := by decide +kernel
theorem dX12_does_352 : decode cX12_does 352 = .ok (.ladd, 1) := by decide +kernel
theorem dX12_does_353 : decode cX12_does 353 = .ok (.invokevirtual 256, 3) := by decide +kernel
theorem dX12_does_356 : decode cX12_does 356 = .ok (.ireturn, 1) := by decide +kernel
theorem dX12_does_357 : decode cX12_does 357 = .ok (.aload_n 0, 1) := by decide +kernel
theorem dX12_does_358 : decode cX12_does 358 = .ok (.lload_n 2, 1) := by decide +kernel
theorem dX12_does_359 : decode cX12_does 359 = .ok (.lload 4, 2) := by decide +kernel
theorem dX12_does_361 : decode cX12_does 361 = .ok (.lsub, 1) := by decide +kernel
theorem dX12_does_362 : decode cX12_does 362 = .ok (.invokevirtual 256, 3) := by decide +kernel
theorem dX12_does_365 : decode cX12_does 365 = .ok (.ireturn, 1) := by decide +kernel
theorem dX12_does_366 : decode cX12_does 366 = .ok (.lload_n 2, 1) := by decide +kernel
theorem dX12_does_367 : decode cX12_does 367 = .ok (.lconst 0, 1) := by decide +kernel
theorem dX12_does_368 : decode cX12_does 368 = .ok (.lcmp, 1) := by decide +kernel
theorem dX12_does_369 : decode cX12_does 369 = .ok (.ifCond .eq 20, 3) := by decide +kernel
theorem dX12_does_372 : decode cX12_does 372 = .ok (.lload 4, 2) := by decide +kernel
theorem dX12_does_374 : decode cX12_does 374 = .ok (.invokestatic 260, 3) := by decide +kernel
theorem dX12_does_377 : decode cX12_does 377 = .ok (.ldc2_w 248, 3) := by decide +kernel
theorem dX12_does_380 : decode cX12_does 380 = .ok (.lload_n 2, 1) := by decide +kernel
theorem dX12_does_381 : decode cX12_does 381 = .ok (.invokestatic 260, 3) := by decide +kernel
theorem dX12_does_384 : decode cX12_does 384 = .ok (.ldiv, 1) := by decide +kernel
theorem dX12_does_385 : decode cX12_does 385 = .ok (.lcmp, 1) := by decide +kernel
theorem dX12_does_386 : decode cX12_does 386 = .ok (.ifCond .gt 18, 3) := by decide +kernel
theorem dX12_does_389 : decode cX12_does 389 = .ok (.aload_n 0, 1) := by decide +kernel
theorem dX12_does_390 : decode cX12_does 390 = .ok (.lload_n 2, 1) := by decide +kernel
theorem dX12_does_391 : decode cX12_does 391 = .ok (.lload 4, 2) := by decide +kernel
theorem dX12_does_393 : decode cX12_does 393 = .ok (.lmul, 1) := by decide +kernel
theorem dX12_does_394 : decode cX12_does 394 = .ok (.invokevirtual 256, 3) := by decide +kernel
theorem dX12_does_397 : decode cX12_does 397 = .ok (.ifCond .eq 7, 3) := by decide +kernel
theorem dX12_does_400 : decode cX12_does 400 = .ok (.iconst 1, 1) := by decide +kernel
theorem dX12_does_401 : decode cX12_does 401 = .ok (.goto 4, 3) := by decide +kernel
theorem dX12_does_404 : decode cX12_does 404 = .ok (.iconst 0, 1) := by decide +kernel
theorem dX12_does_405 : decode cX12_does 405 = .ok (.ireturn, 1) := by decide +kernel
theorem dX12_does_406 : decode cX12_does 406 = .ok (.lload 4, 2) := by decide +kernel
theorem dX12_does_408 : decode cX12_does 408 = .ok (.lconst 0, 1) := by decide +kernel
theorem dX12_does_409 : decode cX12_does 409 = .ok (.lcmp, 1) := by decide +kernel
theorem dX12_does_410 : decode cX12_does 410 = .ok (.ifCond .eq 18, 3) := by decide +kernel
theorem dX12_does_413 : decode cX12_does 413 = .ok (.aload_n 0, 1) := by decide +kernel
theorem dX12_does_414 : decode cX12_does 414 = .ok (.lload_n 2, 1) := by decide +kernel
theorem dX12_does_415 : decode cX12_does 415 = .ok (.lload 4, 2) := by decide +kernel
theorem dX12_does_417 : decode cX12_does 417 = .ok (.ldiv, 1) := by decide +kernel
theorem dX12_does_418 : decode cX12_does 418 = .ok (.invokevirtual 256, 3) := by decide +kernel
theorem dX12_does_421 : decode cX12_does 421 = .ok (.ifCond .eq 7, 3) := by decide +kernel
theorem dX12_does_424 : decode cX12_does 424 = .ok (.iconst 1, 1) := by decide +kernel
theorem dX12_does_425 : decode cX12_does 425 = .ok (.goto 4, 3) := by decide +kernel
theorem dX12_does_428 : decode cX12_does 428 = .ok (.iconst 0, 1) := by decide +kernel
theorem dX12_does_429 : decode cX12_does 429 = .ok (.ireturn, 1) := by decide +kernel
theorem dX12_isFirst_0 : decode cX12_isFirst 0 = .ok (.aload_n 0, 1) := by decide +kernel
theorem dX12_isFirst_1 : decode cX12_isFirst 1 = .ok (.getfield 238, 3) := by decide +kernel
theorem dX12_isFirst_4 : decode cX12_isFirst 4 = .ok (.ifCond .ne 25, 3) := by decide +kernel
theorem dX12_isFirst_7 : decode cX12_isFirst 7 = .ok (.aload_n 0, 1) := by decide +kernel
theorem dX12_isFirst_8 : decode cX12_isFirst 8 = .ok (.getfield 29, 3) := by decide +kernel
theorem dX12_isFirst_11 : decode cX12_isFirst 11 = .ok (.iconst 0, 1) := by decide +kernel
theorem dX12_isFirst_12 : decode cX12_isFirst 12 = .ok (.laload, 1) := by decide +kernel
theorem dX12_isFirst_13 : decode cX12_isFirst 13 = .ok (.aload_n 0, 1) := by decide +kernel
theorem dX12_isFirst_14 : decode cX12_isFirst 14 = .ok (.getfield 29, 3) := by decide +kernel
theorem dX12_isFirst_17 : decode cX12_isFirst 17 = .ok (.iconst 1, 1) := by decide +kernel
theorem dX12_isFirst_18 : decode cX12_isFirst 18 = .ok (.laload, 1) := by decide +kernel
theorem dX12_isFirst_19 : decode cX12_isFirst 19 = .ok (.lcmp, 1) := by decide +kernel
theorem dX12_isFirst_20 : decode cX12_isFirst 20 = .ok (.ifCond .le 7, 3) := by decide +kernel
theorem dX12_isFirst_23 : decode cX12_isFirst 23 = .ok (.iconst 1, 1) := by decide +kernel
theorem dX12_isFirst_24 : decode cX12_isFirst 24 = .ok (.goto 4, 3) := by decide +kernel
theorem dX12_isFirst_27 : decode cX12_isFirst 27 = .ok (.iconst 0, 1) := by decide +kernel
theorem dX12_isFirst_28 : decode cX12_isFirst 28 = .ok (.ireturn, 1) := by decide +kernel
theorem dX12_isFirst_29 : decode cX12_isFirst 29 = .ok (.aload_n 0, 1) := by decide +kernel
theorem dX12_isFirst_30 : decode cX12_isFirst 30 = .ok (.iconst 0, 1) := by decide +kernel
theorem dX12_isFirst_31 : decode cX12_isFirst 31 = .ok (.putfield 245, 3) := by decide +kernel
theorem dX12_isFirst_34 : decode cX12_isFirst 34 = .ok (.iconst 0, 1) := by decide +kernel
theorem dX12_isFirst_35 : decode cX12_isFirst 35 = .ok (.istore_n 1, 1) := by decide +kernel
theorem dX12_isFirst_36 : decode cX12_isFirst 36 = .ok (.iload_n 1, 1) := by decide +kernel
theorem dX12_isFirst_37 : decode cX12_isFirst 37 = .ok (.aload_n 0, 1) := by decide +kernel
theorem dX12_isFirst_38 : decode cX12_isFirst 38 = .ok (.getfield 235, 3) := by decide +kernel
theorem dX12_isFirst_41 : decode cX12_isFirst 41 = .ok (.if_icmp .ge 73, 3) := by decide +kernel
theorem dX12_isFirst_44 : decode cX12_isFirst 44 = .ok (.aload_n 0, 1) := by decide +kernel
theorem dX12_isFirst_45 : decode cX12_isFirst 45 = .ok (.getfield 13, 3) := by decide +kernel
theorem dX12_isFirst_48 : decode cX12_isFirst 48 = .ok (.iload_n 1, 1) := by decide +kernel
theorem dX12_isFirst_49 : decode cX12_isFirst 49 = .ok (.iaload, 1) := by decide +kernel
theorem dX12_isFirst_50 : decode cX12_isFirst 50 = .ok (.iconst 2, 1) := by decide +kernel
theorem dX12_isFirst_51 : decode cX12_isFirst 51 = .ok (.if_icmp .ne 16, 3) := by decide +kernel
theorem dX12_isFirst_54 : decode cX12_isFirst 54 = .ok (.aload_n 0, 1) := by decide +kernel
theorem dX12_isFirst_55 : decode cX12_isFirst 55 = .ok (.aload_n 0, 1) := by decide +kernel
theorem dX12_isFirst_56 : decode cX12_isFirst 56 = .ok (.getfield 16, 3) := by decide +kernel
theorem dX12_isFirst_59 : decode cX12_isFirst 59 = .ok (.iload_n 1, 1) := by decide +kernel
theorem dX12_isFirst_60 : decode cX12_isFirst 60 = .ok (.iaload, 1) := by decide +kernel
theorem dX12_isFirst_61 : decode cX12_isFirst 61 = .ok (.invokevirtual 266, 3) := by decide +kernel
theorem dX12_isFirst_64 : decode cX12_isFirst 64 = .ok (.goto 37, 3) := by decide +kernel
theorem dX12_isFirst_67 : decode cX12_isFirst 67 = .ok (.aload_n 0, 1) := by decide +kernel
theorem dX12_isFirst_68 : decode cX12_isFirst 68 = .ok (.aload_n 0, 1) := by decide +kernel
theorem dX12_isFirst_69 : decode cX12_isFirst 69 = .ok (.getfield 13, 3) := by decide +kernel
theorem dX12_isFirst_72 : decode cX12_isFirst 72 = .ok (.iload_n 1, 1) := by decide +kernel
theorem dX12_isFirst_73 : decode cX12_isFirst 73 = .ok (.iaload, 1) := by decide +kernel
theorem dX12_isFirst_74 : decode cX12_isFirst 74 = .ok (.ifCond .ne 13, 3) := by decide +kernel
theorem dX12_isFirst_77 : decode cX12_isFirst 77 = .ok (.aload_n 0, 1) := by decide +kernel
theorem dX12_isFirst_78 : decode cX12_isFirst 78 = .ok (.getfield 16, 3) := by decide +kernel
theorem dX12_isFirst_81 : decode cX12_isFirst 81 = .ok (.iload_n 1, 1) := by decide +kernel
theorem dX12_isFirst_82 : decode cX12_isFirst 82 = .ok (.iaload, 1) := by decide +kernel
theorem dX12_isFirst_83 : decode cX12_isFirst 83 = .ok (.i2l, 1) := by decide +kernel
theorem dX12_isFirst_84 : decode cX12_isFirst 84 = .ok (.goto 14, 3) := by decide +kernel
theorem dX12_isFirst_87 : decode cX12_isFirst 87 = .ok (.aload_n 0, 1) := by decide +kernel
theorem dX12_isFirst_88 : decode cX12_isFirst 88 = .ok (.getfield 29, 3) := by decide +kernel
theorem dX12_isFirst_91 : decode cX12_isFirst 91 = .ok (.aload_n 0, 1) := by decide +kernel
theorem dX12_isFirst_92 : decode cX12_isFirst 92 = .ok (.getfield 16, 3) := by decide +kernel
theorem dX12_isFirst_95 : decode cX12_isFirst 95 = .ok (.iload_n 1, 1) := by decide +kernel
theorem dX12_isFirst_96 : decode cX12_isFirst 96 = .ok (.iaload, 1) := by decide +kernel
theorem dX12_isFirst_97 : decode cX12_isFirst 97 = .ok (.laload, 1) := by decide +kernel
theorem dX12_isFirst_98 : decode cX12_isFirst 98 = .ok (.invokevirtual 256, 3) := by decide +kernel
theorem dX12_isFirst_101 : decode cX12_isFirst 101 = .ok (.istore_n 2, 1) := by decide +kernel
theorem dX12_isFirst_102 : decode cX12_isFirst 102 = .ok (.iload_n 2, 1) := by decide +kernel
theorem dX12_isFirst_103 : decode cX12_isFirst 103 = .ok (.ifCond .ne 5, 3) := by decide +kernel
theorem dX12_isFirst_106 : decode cX12_isFirst 106 = .ok (.iconst 0, 1) := by decide +kernel
theorem dX12_isFirst_107 : decode cX12_isFirst 107 = .ok (.ireturn, 1) := by decide +kernel
theorem dX12_isFirst_108 : decode cX12_isFirst 108 = .ok (.iinc 1 1, 3) := by decide +kernel
theorem dX12_isFirst_111 : decode cX12_isFirst 111 = .ok (.goto (-75), 3) := by decide +kernel
theorem dX12_isFirst_114 : decode cX12_isFirst 114 = .ok (.aload_n 0, 1) := by decide +kernel
theorem dX12_isFirst_115 : decode cX12_isFirst 115 = .ok (.getfield 33, 3) := by decide +kernel
theorem dX12_isFirst_118 : decode cX12_isFirst 118 = .ok (.iconst 0, 1) := by decide +kernel
theorem dX12_isFirst_119 : decode cX12_isFirst 119 = .ok (.laload, 1) := by decide +kernel
theorem dX12_isFirst_120 : decode cX12_isFirst 120 = .ok (.lconst 0, 1) := by decide +kernel
theorem dX12_isFirst_121 : decode cX12_isFirst 121 = .ok (.lcmp, 1) := by decide +kernel
theorem dX12_isFirst_122 : decode cX12_isFirst 122 = .ok (.ifCond .eq 7, 3) := by decide +kernel
theorem dX12_isFirst_125 : decode cX12_isFirst 125 = .ok (.iconst 1, 1) := by decide +kernel
theorem dX12_isFirst_126 : decode cX12_isFirst 126 = .ok (.goto 4, 3) := by decide +kernel
theorem dX12_isFirst_129 : decode cX12_isFirst 129 = .ok (.iconst 0, 1) := by decide +kernel
theorem dX12_isFirst_130 : decode cX12_isFirst 130 = .ok (.ireturn, 1) := by decide +kernel
theorem dX12_lays_0 : decode cX12_lays 0 = .ok (.aload_n 0, 1) := by decide +kernel
theorem dX12_lays_1 : decode cX12_lays 1 = .ok (.iload_n 1, 1) := by decide +kernel
theorem dX12_lays_2 : decode cX12_lays 2 = .ok (.putfield 269, 3) := by decide +kernel
theorem dX12_lays_5 : decode cX12_lays 5 = .ok (.aload_n 0, 1) := by decide +kernel
theorem dX12_lays_6 : decode cX12_lays 6 = .ok (.iload_n 2, 1) := by decide +kernel
theorem dX12_lays_7 : decode cX12_lays 7 = .ok (.putfield 272, 3) := by decide +kernel
theorem dX12_lays_10 : decode cX12_lays 10 = .ok (.aload_n 0, 1) := by decide +kernel
theorem dX12_lays_11 : decode cX12_lays 11 = .ok (.iconst 0, 1) := by decide +kernel
theorem dX12_lays_12 : decode cX12_lays 12 = .ok (.putfield 275, 3) := by decide +kernel
theorem dX12_lays_15 : decode cX12_lays 15 = .ok (.aload_n 0, 1) := by decide +kernel
theorem dX12_lays_16 : decode cX12_lays 16 = .ok (.iconst 0, 1) := by decide +kernel
theorem dX12_lays_17 : decode cX12_lays 17 = .ok (.putfield 278, 3) := by decide +kernel
theorem dX12_lays_20 : decode cX12_lays 20 = .ok (.aload_n 0, 1) := by decide +kernel
theorem dX12_lays_21 : decode cX12_lays 21 = .ok (.iconst 0, 1) := by decide +kernel
theorem dX12_lays_22 : decode cX12_lays 22 = .ok (.putfield 281, 3) := by decide +kernel
theorem dX12_lays_25 : decode cX12_lays 25 = .ok (.aload_n 0, 1) := by decide +kernel
theorem dX12_lays_26 : decode cX12_lays 26 = .ok (.iconst 0, 1) := by decide +kernel
theorem dX12_lays_27 : decode cX12_lays 27 = .ok (.putfield 284, 3) := by decide +kernel
theorem dX12_lays_30 : decode cX12_lays 30 = .ok (.iconst 0, 1) := by decide +kernel
theorem dX12_lays_31 : decode cX12_lays 31 = .ok (.istore_n 3, 1) := by decide +kernel
theorem dX12_lays_32 : decode cX12_lays 32 = .ok (.iload_n 3, 1) := by decide +kernel
theorem dX12_lays_33 : decode cX12_lays 33 = .ok (.bipush 25, 2) := by decide +kernel
theorem dX12_lays_35 : decode cX12_lays 35 = .ok (.if_icmp .ge 30, 3) := by decide +kernel
theorem dX12_lays_38 : decode cX12_lays 38 = .ok (.aload_n 0, 1) := by decide +kernel
theorem dX12_lays_39 : decode cX12_lays 39 = .ok (.getfield 36, 3) := by decide +kernel
theorem dX12_lays_42 : decode cX12_lays 42 = .ok (.iload_n 3, 1) := by decide +kernel
theorem dX12_lays_43 : decode cX12_lays 43 = .ok (.iconst 0, 1) := by decide +kernel
theorem dX12_lays_44 : decode cX12_lays 44 = .ok (.iastore, 1) := by decide +kernel
theorem dX12_lays_45 : decode cX12_lays 45 = .ok (.aload_n 0, 1) := by decide +kernel
theorem dX12_lays_46 : decode cX12_lays 46 = .ok (.getfield 39, 3) := by decide +kernel
theorem dX12_lays_49 : decode cX12_lays 49 = .ok (.iload_n 3, 1) := by decide +kernel
theorem dX12_lays_50 : decode cX12_lays 50 = .ok (.iconst (-1), 1) := by decide +kernel
theorem dX12_lays_51 : decode cX12_lays 51 = .ok (.iastore, 1) := by decide +kernel
theorem dX12_lays_52 : decode cX12_lays 52 = .ok (.aload_n 0, 1) := by decide +kernel
theorem dX12_lays_53 : decode cX12_lays 53 = .ok (.getfield 42, 3) := by decide +kernel
theorem dX12_lays_56 : decode cX12_lays 56 = .ok (.iload_n 3, 1) := by decide +kernel
theorem dX12_lays_57 : decode cX12_lays 57 = .ok (.iconst 0, 1) := by decide +kernel
theorem dX12_lays_58 : decode cX12_lays 58 = .ok (.bastore, 1) := by decide +kernel
theorem dX12_lays_59 : decode cX12_lays 59 = .ok (.iinc 3 1, 3) := by decide +kernel
theorem dX12_lays_62 : decode cX12_lays 62 = .ok (.goto (-30), 3) := by decide +kernel
theorem dX12_lays_65 : decode cX12_lays 65 = .ok (.return_, 1) := by decide +kernel
theorem dX12_land_0 : decode cX12_land 0 = .ok (.aload_n 0, 1) := by decide +kernel
theorem dX12_land_1 : decode cX12_land 1 = .ok (.iconst 0, 1) := by decide +kernel
theorem dX12_land_2 : decode cX12_land 2 = .ok (.putfield 110, 3) := by decide +kernel
theorem dX12_land_5 : decode cX12_land 5 = .ok (.iload_n 1, 1) := by decide +kernel
theorem dX12_land_6 : decode cX12_land 6 = .ok (.iconst 2, 1) := by decide +kernel
theorem dX12_land_7 : decode cX12_land 7 = .ok (.if_icmp .lt 18, 3) := by decide +kernel
theorem dX12_land_10 : decode cX12_land 10 = .ok (.iload_n 1, 1) := by decide +kernel
theorem dX12_land_11 : decode cX12_land 11 = .ok (.iconst 5, 1) := by decide +kernel
theorem dX12_land_12 : decode cX12_land 12 = .ok (.if_icmp .gt 13, 3) := by decide +kernel
theorem dX12_land_15 : decode cX12_land 15 = .ok (.iload_n 2, 1) := by decide +kernel
theorem dX12_land_16 : decode cX12_land 16 = .ok (.iconst 2, 1) := by decide +kernel
theorem dX12_land_17 : decode cX12_land 17 = .ok (.if_icmp .lt 8, 3) := by decide +kernel
theorem dX12_land_20 : decode cX12_land 20 = .ok (.iload_n 2, 1) := by decide +kernel
theorem dX12_land_21 : decode cX12_land 21 = .ok (.iconst 5, 1) := by decide +kernel
theorem dX12_land_22 : decode cX12_land 22 = .ok (.if_icmp .le 5, 3) := by decide +kernel
theorem dX12_land_25 : decode cX12_land 25 = .ok (.iconst 0, 1) := by decide +kernel
theorem dX12_land_26 : decode cX12_land 26 = .ok (.ireturn, 1) := by decide +kernel
theorem dX12_land_27 : decode cX12_land 27 = .ok (.aload_n 0, 1) := by decide +kernel
theorem dX12_land_28 : decode cX12_land 28 = .ok (.iload_n 1, 1) := by decide +kernel
theorem dX12_land_29 : decode cX12_land 29 = .ok (.iload_n 2, 1) := by decide +kernel
theorem dX12_land_30 : decode cX12_land 30 = .ok (.invokevirtual 106, 3) := by decide +kernel
theorem dX12_land_33 : decode cX12_land 33 = .ok (.iconst 1, 1) := by decide +kernel
theorem dX12_land_34 : decode cX12_land 34 = .ok (.ireturn, 1) := by decide +kernel
theorem dX12_cells_0 : decode cX12_cells 0 = .ok (.aload_n 0, 1) := by decide +kernel
theorem dX12_cells_1 : decode cX12_cells 1 = .ok (.getfield 269, 3) := by decide +kernel
theorem dX12_cells_4 : decode cX12_cells 4 = .ok (.aload_n 0, 1) := by decide +kernel
theorem dX12_cells_5 : decode cX12_cells 5 = .ok (.getfield 272, 3) := by decide +kernel
theorem dX12_cells_8 : decode cX12_cells 8 = .ok (.imul, 1) := by decide +kernel
theorem dX12_cells_9 : decode cX12_cells 9 = .ok (.ireturn, 1) := by decide +kernel
theorem dX12_isVillage_0 : decode cX12_isVillage 0 = .ok (.iload_n 1, 1) := by decide +kernel
theorem dX12_isVillage_1 : decode cX12_isVillage 1 = .ok (.ifCond .lt 15, 3) := by decide +kernel
theorem dX12_isVillage_4 : decode cX12_isVillage 4 = .ok (.iload_n 1, 1) := by decide +kernel
theorem dX12_isVillage_5 : decode cX12_isVillage 5 = .ok (.aload_n 0, 1) := by decide +kernel
theorem dX12_isVillage_6 : decode cX12_isVillage 6 = .ok (.invokevirtual 287, 3) := by decide +kernel
theorem dX12_isVillage_9 : decode cX12_isVillage 9 = .ok (.if_icmp .ge 7, 3) := by decide +kernel
theorem dX12_isVillage_12 : decode cX12_isVillage 12 = .ok (.iconst 1, 1) := by decide +kernel
theorem dX12_isVillage_13 : decode cX12_isVillage 13 = .ok (.goto 4, 3) := by decide +kernel
theorem dX12_isVillage_16 : decode cX12_isVillage 16 = .ok (.iconst 0, 1) := by decide +kernel
theorem dX12_isVillage_17 : decode cX12_isVillage 17 = .ok (.ireturn, 1) := by decide +kernel
theorem dX12_isDay_0 : decode cX12_isDay 0 = .ok (.iload_n 0, 1) := by decide +kernel
theorem dX12_isDay_1 : decode cX12_isDay 1 = .ok (.ifCond .lt 14, 3) := by decide +kernel
theorem dX12_isDay_4 : decode cX12_isDay 4 = .ok (.iload_n 0, 1) := by decide +kernel
theorem dX12_isDay_5 : decode cX12_isDay 5 = .ok (.sipush 999, 3) := by decide +kernel
theorem dX12_isDay_8 : decode cX12_isDay 8 = .ok (.if_icmp .gt 7, 3) := by decide +kernel
theorem dX12_isDay_11 : decode cX12_isDay 11 = .ok (.iconst 1, 1) := by decide +kernel
theorem dX12_isDay_12 : decode cX12_isDay 12 = .ok (.goto 4, 3) := by decide +kernel
theorem dX12_isDay_15 : decode cX12_isDay 15 = .ok (.iconst 0, 1) := by decide +kernel
theorem dX12_isDay_16 : decode cX12_isDay 16 = .ok (.ireturn, 1) := by decide +kernel
theorem dX12_does__0 : decode cX12_does_ 0 = .ok (.aload_n 0, 1) := by decide +kernel
theorem dX12_does__1 : decode cX12_does_ 1 = .ok (.iconst 0, 1) := by decide +kernel
theorem dX12_does__2 : decode cX12_does_ 2 = .ok (.putfield 110, 3) := by decide +kernel
theorem dX12_does__5 : decode cX12_does_ 5 = .ok (.aload_n 0, 1) := by decide +kernel
theorem dX12_does__6 : decode cX12_does_ 6 = .ok (.iload_n 1, 1) := by decide +kernel
theorem dX12_does__7 : decode cX12_does_ 7 = .ok (.invokevirtual 349, 3) := by decide +kernel
theorem dX12_does__10 : decode cX12_does_ 10 = .ok (.ifCond .eq 10, 3) := by decide +kernel
theorem dX12_does__13 : decode cX12_does_ 13 = .ok (.iload_n 2, 1) := by decide +kernel
theorem dX12_does__14 : decode cX12_does_ 14 = .ok (.invokestatic 325, 3) := by decide +kernel
theorem dX12_does__17 : decode cX12_does_ 17 = .ok (.ifCond .ne 5, 3) := by decide +kernel
theorem dX12_does__20 : decode cX12_does_ 20 = .ok (.iconst (-1), 1) := by decide +kernel
theorem dX12_does__21 : decode cX12_does_ 21 = .ok (.ireturn, 1) := by decide +kernel
theorem dX12_does__22 : decode cX12_does_ 22 = .ok (.aload_n 0, 1) := by decide +kernel
theorem dX12_does__23 : decode cX12_does_ 23 = .ok (.iload_n 2, 1) := by decide +kernel
theorem dX12_does__24 : decode cX12_does_ 24 = .ok (.invokevirtual 340, 3) := by decide +kernel
theorem dX12_does__27 : decode cX12_does_ 27 = .ok (.iload_n 3, 1) := by decide +kernel
theorem dX12_does__28 : decode cX12_does_ 28 = .ok (.tableswitch 93 0 6 #[44, 50, 56, 69, 75, 81, 87], 44) := by decide +kernel
theorem dX12_does__72 : decode cX12_does_ 72 = .ok (.aload_n 0, 1) := by decide +kernel
theorem dX12_does__73 : decode cX12_does_ 73 = .ok (.iload_n 1, 1) := by decide +kernel
theorem dX12_does__74 : decode cX12_does_ 74 = .ok (.invokevirtual 360, 3) := by decide +kernel
theorem dX12_does__77 : decode cX12_does_ 77 = .ok (.ireturn, 1) := by decide +kernel
theorem dX12_does__78 : decode cX12_does_ 78 = .ok (.aload_n 0, 1) := by decide +kernel
theorem dX12_does__79 : decode cX12_does_ 79 = .ok (.iload_n 1, 1) := by decide +kernel
theorem dX12_does__80 : decode cX12_does_ 80 = .ok (.invokevirtual 372, 3) := by decide +kernel
theorem dX12_does__83 : decode cX12_does_ 83 = .ok (.ireturn, 1) := by decide +kernel
theorem dX12_does__84 : decode cX12_does_ 84 = .ok (.aload_n 0, 1) := by decide +kernel
theorem dX12_does__85 : decode cX12_does_ 85 = .ok (.aload_n 0, 1) := by decide +kernel
theorem dX12_does__86 : decode cX12_does_ 86 = .ok (.invokevirtual 375, 3) := by decide +kernel
theorem dX12_does__89 : decode cX12_does_ 89 = .ok (.iload_n 1, 1) := by decide +kernel
theorem dX12_does__90 : decode cX12_does_ 90 = .ok (.iconst (-1), 1) := by decide +kernel
theorem dX12_does__91 : decode cX12_does_ 91 = .ok (.ixor, 1) := by decide +kernel
theorem dX12_does__92 : decode cX12_does_ 92 = .ok (.iand, 1) := by decide +kernel
theorem dX12_does__93 : decode cX12_does_ 93 = .ok (.invokevirtual 372, 3) := by decide +kernel
theorem dX12_does__96 : decode cX12_does_ 96 = .ok (.ireturn, 1) := by decide +kernel
theorem dX12_does__97 : decode cX12_does_ 97 = .ok (.aload_n 0, 1) := by decide +kernel
theorem dX12_does__98 : decode cX12_does_ 98 = .ok (.iload_n 1, 1) := by decide +kernel
theorem dX12_does__99 : decode cX12_does_ 99 = .ok (.invokevirtual 369, 3) := by decide +kernel
theorem dX12_does__102 : decode cX12_does_ 102 = .ok (.ireturn, 1) := by decide +kernel
theorem dX12_does__103 : decode cX12_does_ 103 = .ok (.aload_n 0, 1) := by decide +kernel
theorem dX12_does__104 : decode cX12_does_ 104 = .ok (.iload_n 1, 1) := by decide +kernel
theorem dX12_does__105 : decode cX12_does_ 105 = .ok (.invokevirtual 366, 3) := by decide +kernel
theorem dX12_does__108 : decode cX12_does_ 108 = .ok (.ireturn, 1) := by decide +kernel
theorem dX12_does__109 : decode cX12_does_ 109 = .ok (.aload_n 0, 1) := by decide +kernel
theorem dX12_does__110 : decode cX12_does_ 110 = .ok (.iload_n 1, 1) := by decide +kernel
theorem dX12_does__111 : decode cX12_does_ 111 = .ok (.invokevirtual 363, 3) := by decide +kernel
theorem dX12_does__114 : decode cX12_does_ 114 = .ok (.ireturn, 1) := by decide +kernel
theorem dX12_does__115 : decode cX12_does_ 115 = .ok (.aload_n 0, 1) := by decide +kernel
theorem dX12_does__116 : decode cX12_does_ 116 = .ok (.iload_n 1, 1) := by decide +kernel
theorem dX12_does__117 : decode cX12_does_ 117 = .ok (.invokevirtual 378, 3) := by decide +kernel
theorem dX12_does__120 : decode cX12_does_ 120 = .ok (.ireturn, 1) := by decide +kernel
theorem dX12_does__121 : decode cX12_does_ 121 = .ok (.iconst (-1), 1) := by decide +kernel
theorem dX12_does__122 : decode cX12_does_ 122 = .ok (.ireturn, 1) := by decide +kernel
