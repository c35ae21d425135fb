theorem dX3_init_0 : decode cX3_init 0 = .ok (.aload_n 0, 1) := by decide +kernel
theorem dX3_init_1 : decode cX3_init 1 = .ok (.invokespecial 3, 3) := by decide +kernel
theorem dX3_init_4 : decode cX3_init 4 = .ok (.aload_n 0, 1) := by decide +kernel
theorem dX3_init_5 : decode cX3_init 5 = .ok (.bipush 64, 2) := by decide +kernel
theorem dX3_init_7 : decode cX3_init 7 = .ok (.newarray .long, 2) := by decide +kernel
theorem dX3_init_9 : decode cX3_init 9 = .ok (.putfield 9, 3) := by decide +kernel
theorem dX3_init_12 : decode cX3_init 12 = .ok (.aload_n 0, 1) := by decide +kernel
theorem dX3_init_13 : decode cX3_init 13 = .ok (.aload_n 1, 1) := by decide +kernel
theorem dX3_init_14 : decode cX3_init 14 = .ok (.putfield 15, 3) := by decide +kernel
theorem dX3_init_17 : decode cX3_init 17 = .ok (.aload_n 0, 1) := by decide +kernel
theorem dX3_init_18 : decode cX3_init 18 = .ok (.aload_n 2, 1) := by decide +kernel
theorem dX3_init_19 : decode cX3_init 19 = .ok (.putfield 19, 3) := by decide +kernel
theorem dX3_init_22 : decode cX3_init 22 = .ok (.return_, 1) := by decide +kernel
theorem dX3_award_0 : decode cX3_award 0 = .ok (.iload_n 2, 1) := by decide +kernel
theorem dX3_award_1 : decode cX3_award 1 = .ok (.iconst 2, 1) := by decide +kernel
theorem dX3_award_2 : decode cX3_award 2 = .ok (.if_icmp .ne 30, 3) := by decide +kernel
theorem dX3_award_5 : decode cX3_award 5 = .ok (.aload_n 0, 1) := by decide +kernel
theorem dX3_award_6 : decode cX3_award 6 = .ok (.aload_n 1, 1) := by decide +kernel
theorem dX3_award_7 : decode cX3_award 7 = .ok (.aload_n 0, 1) := by decide +kernel
theorem dX3_award_8 : decode cX3_award 8 = .ok (.getfield 15, 3) := by decide +kernel
theorem dX3_award_11 : decode cX3_award 11 = .ok (.getfield 25, 3) := by decide +kernel
theorem dX3_award_14 : decode cX3_award 14 = .ok (.invokevirtual 31, 3) := by decide +kernel
theorem dX3_award_17 : decode cX3_award 17 = .ok (.ifCond .eq 13, 3) := by decide +kernel
theorem dX3_award_20 : decode cX3_award 20 = .ok (.aload_n 0, 1) := by decide +kernel
theorem dX3_award_21 : decode cX3_award 21 = .ok (.getfield 15, 3) := by decide +kernel
theorem dX3_award_24 : decode cX3_award 24 = .ok (.getfield 25, 3) := by decide +kernel
theorem dX3_award_27 : decode cX3_award 27 = .ok (.goto 4, 3) := by decide +kernel
theorem dX3_award_30 : decode cX3_award 30 = .ok (.iconst 0, 1) := by decide +kernel
theorem dX3_award_31 : decode cX3_award 31 = .ok (.ireturn, 1) := by decide +kernel
theorem dX3_award_32 : decode cX3_award 32 = .ok (.iconst 0, 1) := by decide +kernel
theorem dX3_award_33 : decode cX3_award 33 = .ok (.istore_n 3, 1) := by decide +kernel
theorem dX3_award_34 : decode cX3_award 34 = .ok (.iload_n 2, 1) := by decide +kernel
theorem dX3_award_35 : decode cX3_award 35 = .ok (.ifCond .ne 13, 3) := by decide +kernel
theorem dX3_award_38 : decode cX3_award 38 = .ok (.aload_n 0, 1) := by decide +kernel
theorem dX3_award_39 : decode cX3_award 39 = .ok (.getfield 15, 3) := by decide +kernel
theorem dX3_award_42 : decode cX3_award 42 = .ok (.getfield 35, 3) := by decide +kernel
theorem dX3_award_45 : decode cX3_award 45 = .ok (.goto 5, 3) := by decide +kernel
theorem dX3_award_48 : decode cX3_award 48 = .ok (.bipush 6, 2) := by decide +kernel
theorem dX3_award_50 : decode cX3_award 50 = .ok (.istore 4, 2) := by decide +kernel
theorem dX3_award_52 : decode cX3_award 52 = .ok (.iconst 0, 1) := by decide +kernel
theorem dX3_award_53 : decode cX3_award 53 = .ok (.istore 5, 2) := by decide +kernel
theorem dX3_award_55 : decode cX3_award 55 = .ok (.iload 5, 2) := by decide +kernel
theorem dX3_award_57 : decode cX3_award 57 = .ok (.iload 4, 2) := by decide +kernel
theorem dX3_award_59 : decode cX3_award 59 = .ok (.if_icmp .ge 52, 3) := by decide +kernel
theorem dX3_award_62 : decode cX3_award 62 = .ok (.iload_n 2, 1) := by decide +kernel
theorem dX3_award_63 : decode cX3_award 63 = .ok (.ifCond .ne 10, 3) := by decide +kernel
theorem dX3_award_66 : decode cX3_award 66 = .ok (.iconst 1, 1) := by decide +kernel
theorem dX3_award_67 : decode cX3_award 67 = .ok (.iload 5, 2) := by decide +kernel
theorem dX3_award_69 : decode cX3_award 69 = .ok (.ishl, 1) := by decide +kernel
theorem dX3_award_70 : decode cX3_award 70 = .ok (.goto 13, 3) := by decide +kernel
theorem dX3_award_73 : decode cX3_award 73 = .ok (.aload_n 0, 1) := by decide +kernel
theorem dX3_award_74 : decode cX3_award 74 = .ok (.getfield 15, 3) := by decide +kernel
theorem dX3_award_77 : decode cX3_award 77 = .ok (.getfield 38, 3) := by decide +kernel
theorem dX3_award_80 : decode cX3_award 80 = .ok (.iload 5, 2) := by decide +kernel
theorem dX3_award_82 : decode cX3_award 82 = .ok (.iaload, 1) := by decide +kernel
theorem dX3_award_83 : decode cX3_award 83 = .ok (.istore 6, 2) := by decide +kernel
theorem dX3_award_85 : decode cX3_award 85 = .ok (.iload 6, 2) := by decide +kernel
theorem dX3_award_87 : decode cX3_award 87 = .ok (.ifCond .eq 18, 3) := by decide +kernel
theorem dX3_award_90 : decode cX3_award 90 = .ok (.aload_n 0, 1) := by decide +kernel
theorem dX3_award_91 : decode cX3_award 91 = .ok (.aload_n 1, 1) := by decide +kernel
theorem dX3_award_92 : decode cX3_award 92 = .ok (.iload 6, 2) := by decide +kernel
theorem dX3_award_94 : decode cX3_award 94 = .ok (.invokevirtual 31, 3) := by decide +kernel
theorem dX3_award_97 : decode cX3_award 97 = .ok (.ifCond .eq 8, 3) := by decide +kernel
theorem dX3_award_100 : decode cX3_award 100 = .ok (.iload_n 3, 1) := by decide +kernel
theorem dX3_award_101 : decode cX3_award 101 = .ok (.iload 6, 2) := by decide +kernel
theorem dX3_award_103 : decode cX3_award 103 = .ok (.ior, 1) := by decide +kernel
theorem dX3_award_104 : decode cX3_award 104 = .ok (.istore_n 3, 1) := by decide +kernel
theorem dX3_award_105 : decode cX3_award 105 = .ok (.iinc 5 1, 3) := by decide +kernel
theorem dX3_award_108 : decode cX3_award 108 = .ok (.goto (-53), 3) := by decide +kernel
theorem dX3_award_111 : decode cX3_award 111 = .ok (.iload_n 3, 1) := by decide +kernel
theorem dX3_award_112 : decode cX3_award 112 = .ok (.ireturn, 1) := by decide +kernel
theorem dX3_holds_0 : decode cX3_holds 0 = .ok (.aload_n 1, 1) := by decide +kernel
theorem dX3_holds_1 : decode cX3_holds 1 = .ok (.getfield 42, 3) := by decide +kernel
theorem dX3_holds_4 : decode cX3_holds 4 = .ok (.ifCond .ne 25, 3) := by decide +kernel
theorem dX3_holds_7 : decode cX3_holds 7 = .ok (.aload_n 0, 1) := by decide +kernel
theorem dX3_holds_8 : decode cX3_holds 8 = .ok (.iconst 0, 1) := by decide +kernel
theorem dX3_holds_9 : decode cX3_holds 9 = .ok (.iload_n 2, 1) := by decide +kernel
theorem dX3_holds_10 : decode cX3_holds 10 = .ok (.invokevirtual 45, 3) := by decide +kernel
theorem dX3_holds_13 : decode cX3_holds 13 = .ok (.aload_n 0, 1) := by decide +kernel
theorem dX3_holds_14 : decode cX3_holds 14 = .ok (.iconst 1, 1) := by decide +kernel
theorem dX3_holds_15 : decode cX3_holds 15 = .ok (.iload_n 2, 1) := by decide +kernel
theorem dX3_holds_16 : decode cX3_holds 16 = .ok (.invokevirtual 45, 3) := by decide +kernel
theorem dX3_holds_19 : decode cX3_holds 19 = .ok (.lcmp, 1) := by decide +kernel
theorem dX3_holds_20 : decode cX3_holds 20 = .ok (.ifCond .le 7, 3) := by decide +kernel
theorem dX3_holds_23 : decode cX3_holds 23 = .ok (.iconst 1, 1) := by decide +kernel
theorem dX3_holds_24 : decode cX3_holds 24 = .ok (.goto 4, 3) := by decide +kernel
theorem dX3_holds_27 : decode cX3_holds 27 = .ok (.iconst 0, 1) := by decide +kernel
theorem dX3_holds_28 : decode cX3_holds 28 = .ok (.ireturn, 1) := by decide +kernel
theorem dX3_holds_29 : decode cX3_holds 29 = .ok (.aload_n 0, 1) := by decide +kernel
theorem dX3_holds_30 : decode cX3_holds 30 = .ok (.iconst 0, 1) := by decide +kernel
theorem dX3_holds_31 : decode cX3_holds 31 = .ok (.putfield 49, 3) := by decide +kernel
theorem dX3_holds_34 : decode cX3_holds 34 = .ok (.iconst 0, 1) := by decide +kernel
theorem dX3_holds_35 : decode cX3_holds 35 = .ok (.istore_n 3, 1) := by decide +kernel
theorem dX3_holds_36 : decode cX3_holds 36 = .ok (.iconst 0, 1) := by decide +kernel
theorem dX3_holds_37 : decode cX3_holds 37 = .ok (.istore 4, 2) := by decide +kernel
theorem dX3_holds_39 : decode cX3_holds 39 = .ok (.iload 4, 2) := by decide +kernel
theorem dX3_holds_41 : decode cX3_holds 41 = .ok (.aload_n 1, 1) := by decide +kernel
theorem dX3_holds_42 : decode cX3_holds 42 = .ok (.getfield 42, 3) := by decide +kernel
theorem dX3_holds_45 : decode cX3_holds 45 = .ok (.if_icmp .ge 158, 3) := by decide +kernel
theorem dX3_holds_48 : decode cX3_holds 48 = .ok (.aload_n 0, 1) := by decide +kernel
theorem dX3_holds_49 : decode cX3_holds 49 = .ok (.getfield 49, 3) := by decide +kernel
theorem dX3_holds_52 : decode cX3_holds 52 = .ok (.ifCond .ne 151, 3) := by decide +kernel
theorem dX3_holds_55 : decode cX3_holds 55 = .ok (.aload_n 1, 1) := by decide +kernel
theorem dX3_holds_56 : decode cX3_holds 56 = .ok (.getfield 53, 3) := by decide +kernel
theorem dX3_holds_59 : decode cX3_holds 59 = .ok (.iload 4, 2) := by decide +kernel
theorem dX3_holds_61 : decode cX3_holds 61 = .ok (.iaload, 1) := by decide +kernel
theorem dX3_holds_62 : decode cX3_holds 62 = .ok (.istore 5, 2) := by decide +kernel
theorem dX3_holds_64 : decode cX3_holds 64 = .ok (.iload 5, 2) := by decide +kernel
theorem dX3_holds_66 : decode cX3_holds 66 = .ok (.bipush 17, 2) := by decide +kernel
theorem dX3_holds_68 : decode cX3_holds 68 = .ok (.if_icmp .ne 40, 3) := by decide +kernel
theorem dX3_holds_71 : decode cX3_holds 71 = .ok (.iload_n 3, 1) := by decide +kernel
theorem dX3_holds_72 : decode cX3_holds 72 = .ok (.iconst 1, 1) := by decide +kernel
theorem dX3_holds_73 : decode cX3_holds 73 = .ok (.if_icmp .lt 35, 3) := by decide +kernel
theorem dX3_holds_76 : decode cX3_holds 76 = .ok (.aload_n 0, 1) := by decide +kernel
theorem dX3_holds_77 : decode cX3_holds 77 = .ok (.getfield 9, 3) := by decide +kernel
theorem dX3_holds_80 : decode cX3_holds 80 = .ok (.iload_n 3, 1) := by decide +kernel
theorem dX3_holds_81 : decode cX3_holds 81 = .ok (.iconst 1, 1) := by decide +kernel
theorem dX3_holds_82 : decode cX3_holds 82 = .ok (.isub, 1) := by decide +kernel
theorem dX3_holds_83 : decode cX3_holds 83 = .ok (.aload_n 0, 1) := by decide +kernel
theorem dX3_holds_84 : decode cX3_holds 84 = .ok (.getfield 9, 3) := by decide +kernel
theorem dX3_holds_87 : decode cX3_holds 87 = .ok (.iload_n 3, 1) := by decide +kernel
theorem dX3_holds_88 : decode cX3_holds 88 = .ok (.iconst 1, 1) := by decide +kernel
theorem dX3_holds_89 : decode cX3_holds 89 = .ok (.isub, 1) := by decide +kernel
theorem dX3_holds_90 : decode cX3_holds 90 = .ok (.laload, 1) := by decide +kernel
theorem dX3_holds_91 : decode cX3_holds 91 = .ok (.lconst 0, 1) := by decide +kernel
theorem dX3_holds_92 : decode cX3_holds 92 = .ok (.lcmp, 1) := by decide +kernel
theorem dX3_holds_93 : decode cX3_holds 93 = .ok (.ifCond .ne 7, 3) := by decide +kernel
theorem dX3_holds_96 : decode cX3_holds 96 = .ok (.iconst 1, 1) := by decide +kernel
theorem dX3_holds_97 : decode cX3_holds 97 = .ok (.goto 4, 3) := by decide +kernel
theorem dX3_holds_100 : decode cX3_holds 100 = .ok (.iconst 0, 1) := by decide +kernel
theorem dX3_holds_101 : decode cX3_holds 101 = .ok (.invokestatic 58, 3) := by decide +kernel
theorem dX3_holds_104 : decode cX3_holds 104 = .ok (.lastore, 1) := by decide +kernel
theorem dX3_holds_105 : decode cX3_holds 105 = .ok (.goto 92, 3) := by decide +kernel
theorem dX3_holds_108 : decode cX3_holds 108 = .ok (.iload 5, 2) := by decide +kernel
theorem dX3_holds_110 : decode cX3_holds 110 = .ok (.invokestatic 62, 3) := by decide +kernel
theorem dX3_holds_113 : decode cX3_holds 113 = .ok (.ifCond .eq 46, 3) := by decide +kernel
theorem dX3_holds_116 : decode cX3_holds 116 = .ok (.iload_n 3, 1) := by decide +kernel
theorem dX3_holds_117 : decode cX3_holds 117 = .ok (.bipush 64, 2) := by decide +kernel
theorem dX3_holds_119 : decode cX3_holds 119 = .ok (.if_icmp .ge 40, 3) := by decide +kernel
theorem dX3_holds_122 : decode cX3_holds 122 = .ok (.aload_n 0, 1) := by decide +kernel
theorem dX3_holds_123 : decode cX3_holds 123 = .ok (.getfield 9, 3) := by decide +kernel
theorem dX3_holds_126 : decode cX3_holds 126 = .ok (.iload_n 3, 1) := by decide +kernel
theorem dX3_holds_127 : decode cX3_holds 127 = .ok (.iload 5, 2) := by decide +kernel
theorem dX3_holds_129 : decode cX3_holds 129 = .ok (.bipush 20, 2) := by decide +kernel
theorem dX3_holds_131 : decode cX3_holds 131 = .ok (.if_icmp .ne 14, 3) := by decide +kernel
theorem dX3_holds_134 : decode cX3_holds 134 = .ok (.aload_n 1, 1) := by decide +kernel
theorem dX3_holds_135 : decode cX3_holds 135 = .ok (.getfield 66, 3) := by decide +kernel
theorem dX3_holds_138 : decode cX3_holds 138 = .ok (.iload 4, 2) := by decide +kernel
theorem dX3_holds_140 : decode cX3_holds 140 = .ok (.iaload, 1) := by decide +kernel
theorem dX3_holds_141 : decode cX3_holds 141 = .ok (.i2l, 1) := by decide +kernel
theorem dX3_holds_142 : decode cX3_holds 142 = .ok (.goto 10, 3) := by decide +kernel
theorem dX3_holds_145 : decode cX3_holds 145 = .ok (.aload_n 0, 1) := by decide +kernel
theorem dX3_holds_146 : decode cX3_holds 146 = .ok (.iload 5, 2) := by decide +kernel
theorem dX3_holds_148 : decode cX3_holds 148 = .ok (.iload_n 2, 1) := by decide +kernel
theorem dX3_holds_149 : decode cX3_holds 149 = .ok (.invokevirtual 69, 3) := by decide +kernel
theorem dX3_holds_152 : decode cX3_holds 152 = .ok (.lastore, 1) := by decide +kernel
theorem dX3_holds_153 : decode cX3_holds 153 = .ok (.iinc 3 1, 3) := by decide +kernel
theorem dX3_holds_156 : decode cX3_holds 156 = .ok (.goto 41, 3) := by decide +kernel
theorem dX3_holds_159 : decode cX3_holds 159 = .ok (.iload_n 3, 1) := by decide +kernel
theorem dX3_holds_160 : decode cX3_holds 160 = .ok (.iconst 2, 1) := by decide +kernel
theorem dX3_holds_161 : decode cX3_holds 161 = .ok (.if_icmp .lt 36, 3) := by decide +kernel
theorem dX3_holds_164 : decode cX3_holds 164 = .ok (.aload_n 0, 1) := by decide +kernel
theorem dX3_holds_165 : decode cX3_holds 165 = .ok (.getfield 9, 3) := by decide +kernel
theorem dX3_holds_168 : decode cX3_holds 168 = .ok (.iload_n 3, 1) := by decide +kernel
theorem dX3_holds_169 : decode cX3_holds 169 = .ok (.iconst 2, 1) := by decide +kernel
theorem dX3_holds_170 : decode cX3_holds 170 = .ok (.isub, 1) := by decide +kernel
theorem dX3_holds_171 : decode cX3_holds 171 = .ok (.aload_n 0, 1) := by decide +kernel
theorem dX3_holds_172 : decode cX3_holds 172 = .ok (.iload 5, 2) := by decide +kernel
theorem dX3_holds_174 : decode cX3_holds 174 = .ok (.aload_n 0, 1) := by decide +kernel
theorem dX3_holds_175 : decode cX3_holds 175 = .ok (.getfield 9, 3) := by decide +kernel
theorem dX3_holds_178 : decode cX3_holds 178 = .ok (.iload_n 3, 1) := by decide +kernel
theorem dX3_holds_179 : decode cX3_holds 179 = .ok (.iconst 2, 1) := by decide +kernel
theorem dX3_holds_180 : decode cX3_holds 180 = .ok (.isub, 1) := by decide +kernel
theorem dX3_holds_181 : decode cX3_holds 181 = .ok (.laload, 1) := by decide +kernel
theorem dX3_holds_182 : decode cX3_holds 182 = .ok (.aload_n 0, 1) := by decide +kernel
theorem dX3_holds_183 : decode cX3_holds 183 = .ok (.getfield 9, 3) := by decide +kernel
theorem dX3_holds_186 : decode cX3_holds 186 = .ok (.iload_n 3, 1) := by decide +kernel
theorem dX3_holds_187 : decode cX3_holds 187 = .ok (.iconst 1, 1) := by decide +kernel
theorem dX3_holds_188 : decode cX3_holds 188 = .ok (.isub, 1) := by decide +kernel
theorem dX3_holds_189 : decode cX3_holds 189 = .ok (.laload, 1) := by decide +kernel
theorem dX3_holds_190 : decode cX3_holds 190 = .ok (.invokevirtual 72, 3) := by decide +kernel
theorem dX3_holds_193 : decode cX3_holds 193 = .ok (.lastore, 1) := by decide +kernel
theorem dX3_holds_194 : decode cX3_holds 194 = .ok (.iinc 3 (-1), 3) := by decide +kernel
theorem dX3_holds_197 : decode cX3_holds 197 = .ok (.iinc 4 1, 3) := by decide +kernel
theorem dX3_holds_200 : decode cX3_holds 200 = .ok (.goto (-161), 3) := by decide +kernel
theorem dX3_holds_203 : decode cX3_holds 203 = .ok (.aload_n 0, 1) := by decide +kernel
theorem dX3_holds_204 : decode cX3_holds 204 = .ok (.getfield 49, 3) := by decide +kernel
theorem dX3_holds_207 : decode cX3_holds 207 = .ok (.ifCond .ne 18, 3) := by decide +kernel
theorem dX3_holds_210 : decode cX3_holds 210 = .ok (.aload_n 0, 1) := by decide +kernel
theorem dX3_holds_211 : decode cX3_holds 211 = .ok (.getfield 9, 3) := by decide +kernel
theorem dX3_holds_214 : decode cX3_holds 214 = .ok (.iconst 0, 1) := by decide +kernel
theorem dX3_holds_215 : decode cX3_holds 215 = .ok (.laload, 1) := by decide +kernel
theorem dX3_holds_216 : decode cX3_holds 216 = .ok (.lconst 0, 1) := by decide +kernel
theorem dX3_holds_217 : decode cX3_holds 217 = .ok (.lcmp, 1) := by decide +kernel
theorem dX3_holds_218 : decode cX3_holds 218 = .ok (.ifCond .eq 7, 3) := by decide +kernel
theorem dX3_holds_221 : decode cX3_holds 221 = .ok (.iconst 1, 1) := by decide +kernel
theorem dX3_holds_222 : decode cX3_holds 222 = .ok (.goto 4, 3) := by decide +kernel
theorem dX3_holds_225 : decode cX3_holds 225 = .ok (.iconst 0, 1) := by decide +kernel
theorem dX3_holds_226 : decode cX3_holds 226 = .ok (.ireturn, 1) := by decide +kernel
theorem dX3_isOperand_0 : decode cX3_isOperand 0 = .ok (.iload_n 0, 1) := by decide +kernel
theorem dX3_isOperand_1 : decode cX3_isOperand 1 = .ok (.bipush 20, 2) := by decide +kernel
theorem dX3_isOperand_3 : decode cX3_isOperand 3 = .ok (.if_icmp .eq 15, 3) := by decide +kernel
theorem dX3_isOperand_6 : decode cX3_isOperand 6 = .ok (.iload_n 0, 1) := by decide +kernel
theorem dX3_isOperand_7 : decode cX3_isOperand 7 = .ok (.bipush 11, 2) := by decide +kernel
theorem dX3_isOperand_9 : decode cX3_isOperand 9 = .ok (.if_icmp .lt 13, 3) := by decide +kernel
theorem dX3_isOperand_12 : decode cX3_isOperand 12 = .ok (.iload_n 0, 1) := by decide +kernel
theorem dX3_isOperand_13 : decode cX3_isOperand 13 = .ok (.bipush 16, 2) := by decide +kernel
theorem dX3_isOperand_15 : decode cX3_isOperand 15 = .ok (.if_icmp .gt 7, 3) := by decide +kernel
theorem dX3_isOperand_18 : decode cX3_isOperand 18 = .ok (.iconst 1, 1) := by decide +kernel
theorem dX3_isOperand_19 : decode cX3_isOperand 19 = .ok (.goto 4, 3) := by decide +kernel
theorem dX3_isOperand_22 : decode cX3_isOperand 22 = .ok (.iconst 0, 1) := by decide +kernel
theorem dX3_isOperand_23 : decode cX3_isOperand 23 = .ok (.ireturn, 1) := by decide +kernel
theorem dX3_truth_0 : decode cX3_truth 0 = .ok (.iload_n 0, 1) := by decide +kernel
theorem dX3_truth_1 : decode cX3_truth 1 = .ok (.ifCond .eq 7, 3) := by decide +kernel
theorem dX3_truth_4 : decode cX3_truth 4 = .ok (.lconst 1, 1) := by decide +kernel
theorem dX3_truth_5 : decode cX3_truth 5 = .ok (.goto 4, 3) := by decide +kernel
theorem dX3_truth_8 : decode cX3_truth 8 = .ok (.lconst 0, 1) := by decide +kernel
theorem dX3_truth_9 : decode cX3_truth 9 = .ok (.lreturn, 1) := by decide +kernel
theorem dX3_peopleIn_0 : decode cX3_peopleIn 0 = .ok (.lconst 0, 1) := by decide +kernel
theorem dX3_peopleIn_1 : decode cX3_peopleIn 1 = .ok (.lstore_n 3, 1) := by decide +kernel
theorem dX3_peopleIn_2 : decode cX3_peopleIn 2 = .ok (.iconst 0, 1) := by decide +kernel
theorem dX3_peopleIn_3 : decode cX3_peopleIn 3 = .ok (.istore 5, 2) := by decide +kernel
theorem dX3_peopleIn_5 : decode cX3_peopleIn 5 = .ok (.iload 5, 2) := by decide +kernel
theorem dX3_peopleIn_7 : decode cX3_peopleIn 7 = .ok (.aload_n 0, 1) := by decide +kernel
theorem dX3_peopleIn_8 : decode cX3_peopleIn 8 = .ok (.getfield 15, 3) := by decide +kernel
theorem dX3_peopleIn_11 : decode cX3_peopleIn 11 = .ok (.getfield 35, 3) := by decide +kernel
theorem dX3_peopleIn_14 : decode cX3_peopleIn 14 = .ok (.if_icmp .ge 34, 3) := by decide +kernel
theorem dX3_peopleIn_17 : decode cX3_peopleIn 17 = .ok (.iload_n 2, 1) := by decide +kernel
theorem dX3_peopleIn_18 : decode cX3_peopleIn 18 = .ok (.iload 5, 2) := by decide +kernel
theorem dX3_peopleIn_20 : decode cX3_peopleIn 20 = .ok (.ishr, 1) := by decide +kernel
theorem dX3_peopleIn_21 : decode cX3_peopleIn 21 = .ok (.iconst 1, 1) := by decide +kernel
theorem dX3_peopleIn_22 : decode cX3_peopleIn 22 = .ok (.iand, 1) := by decide +kernel
theorem dX3_peopleIn_23 : decode cX3_peopleIn 23 = .ok (.ifCond .eq 19, 3) := by decide +kernel
theorem dX3_peopleIn_26 : decode cX3_peopleIn 26 = .ok (.lload_n 3, 1) := by decide +kernel
theorem dX3_peopleIn_27 : decode cX3_peopleIn 27 = .ok (.aload_n 0, 1) := by decide +kernel
theorem dX3_peopleIn_28 : decode cX3_peopleIn 28 = .ok (.getfield 19, 3) := by decide +kernel
theorem dX3_peopleIn_31 : decode cX3_peopleIn 31 = .ok (.getfield 76, 3) := by decide +kernel
theorem dX3_peopleIn_34 : decode cX3_peopleIn 34 = .ok (.iload_n 1, 1) := by decide +kernel
theorem dX3_peopleIn_35 : decode cX3_peopleIn 35 = .ok (.aaload, 1) := by decide +kernel
theorem dX3_peopleIn_36 : decode cX3_peopleIn 36 = .ok (.iload 5, 2) := by decide +kernel
theorem dX3_peopleIn_38 : decode cX3_peopleIn 38 = .ok (.iaload, 1) := by decide +kernel
theorem dX3_peopleIn_39 : decode cX3_peopleIn 39 = .ok (.i2l, 1) := by decide +kernel
theorem dX3_peopleIn_40 : decode cX3_peopleIn 40 = .ok (.ladd, 1) := by decide +kernel
theorem dX3_peopleIn_41 : decode cX3_peopleIn 41 = .ok (.lstore_n 3, 1) := by decide +kernel
theorem dX3_peopleIn_42 : decode cX3_peopleIn 42 = .ok (.iinc 5 1, 3) := by decide +kernel
theorem dX3_peopleIn_45 : decode cX3_peopleIn 45 = .ok (.goto (-40), 3) := by decide +kernel
theorem dX3_peopleIn_48 : decode cX3_peopleIn 48 = .ok (.lload_n 3, 1) := by decide +kernel
theorem dX3_peopleIn_49 : decode cX3_peopleIn 49 = .ok (.lreturn, 1) := by decide +kernel
theorem dX3_named_0 : decode cX3_named 0 = .ok (.iload_n 1, 1) := by decide +kernel
theorem dX3_named_1 : decode cX3_named 1 = .ok (.tableswitch 108 11 15 #[35, 42, 49, 80, 94], 35) := by decide +kernel
theorem dX3_named_36 : decode cX3_named 36 = .ok (.aload_n 0, 1) := by decide +kernel
theorem dX3_named_37 : decode cX3_named 37 = .ok (.iconst 0, 1) := by decide +kernel
theorem dX3_named_38 : decode cX3_named 38 = .ok (.iload_n 2, 1) := by decide +kernel
theorem dX3_named_39 : decode cX3_named 39 = .ok (.invokevirtual 45, 3) := by decide +kernel
theorem dX3_named_42 : decode cX3_named 42 = .ok (.lreturn, 1) := by decide +kernel
theorem dX3_named_43 : decode cX3_named 43 = .ok (.aload_n 0, 1) := by decide +kernel
theorem dX3_named_44 : decode cX3_named 44 = .ok (.iconst 1, 1) := by decide +kernel
theorem dX3_named_45 : decode cX3_named 45 = .ok (.iload_n 2, 1) := by decide +kernel
theorem dX3_named_46 : decode cX3_named 46 = .ok (.invokevirtual 45, 3) := by decide +kernel
theorem dX3_named_49 : decode cX3_named 49 = .ok (.lreturn, 1) := by decide +kernel
theorem dX3_named_50 : decode cX3_named 50 = .ok (.aload_n 0, 1) := by decide +kernel
theorem dX3_named_51 : decode cX3_named 51 = .ok (.getfield 15, 3) := by decide +kernel
theorem dX3_named_54 : decode cX3_named 54 = .ok (.getfield 82, 3) := by decide +kernel
theorem dX3_named_57 : decode cX3_named 57 = .ok (.iconst 0, 1) := by decide +kernel
theorem dX3_named_58 : decode cX3_named 58 = .ok (.iaload, 1) := by decide +kernel
theorem dX3_named_59 : decode cX3_named 59 = .ok (.iload_n 2, 1) := by decide +kernel
theorem dX3_named_60 : decode cX3_named 60 = .ok (.iand, 1) := by decide +kernel
theorem dX3_named_61 : decode cX3_named 61 = .ok (.invokestatic 85, 3) := by decide +kernel
theorem dX3_named_64 : decode cX3_named 64 = .ok (.aload_n 0, 1) := by decide +kernel
theorem dX3_named_65 : decode cX3_named 65 = .ok (.getfield 15, 3) := by decide +kernel
theorem dX3_named_68 : decode cX3_named 68 = .ok (.getfield 82, 3) := by decide +kernel
theorem dX3_named_71 : decode cX3_named 71 = .ok (.iconst 1, 1) := by decide +kernel
theorem dX3_named_72 : decode cX3_named 72 = .ok (.iaload, 1) := by decide +kernel
theorem dX3_named_73 : decode cX3_named 73 = .ok (.iload_n 2, 1) := by decide +kernel
theorem dX3_named_74 : decode cX3_named 74 = .ok (.iand, 1) := by decide +kernel
theorem dX3_named_75 : decode cX3_named 75 = .ok (.invokestatic 85, 3) := by decide +kernel
theorem dX3_named_78 : decode cX3_named 78 = .ok (.isub, 1) := by decide +kernel
theorem dX3_named_79 : decode cX3_named 79 = .ok (.i2l, 1) := by decide +kernel
theorem dX3_named_80 : decode cX3_named 80 = .ok (.lreturn, 1) := by decide +kernel
theorem dX3_named_81 : decode cX3_named 81 = .ok (.aload_n 0, 1) := by decide +kernel
theorem dX3_named_82 : decode cX3_named 82 = .ok (.getfield 15, 3) := by decide +kernel
theorem dX3_named_85 : decode cX3_named 85 = .ok (.getfield 91, 3) := by decide +kernel
theorem dX3_named_88 : decode cX3_named 88 = .ok (.iload_n 2, 1) := by decide +kernel
theorem dX3_named_89 : decode cX3_named 89 = .ok (.iand, 1) := by decide +kernel
theorem dX3_named_90 : decode cX3_named 90 = .ok (.invokestatic 85, 3) := by decide +kernel
theorem dX3_named_93 : decode cX3_named 93 = .ok (.i2l, 1) := by decide +kernel
theorem dX3_named_94 : decode cX3_named 94 = .ok (.lreturn, 1) := by decide +kernel
theorem dX3_named_95 : decode cX3_named 95 = .ok (.aload_n 0, 1) := by decide +kernel
theorem dX3_named_96 : decode cX3_named 96 = .ok (.getfield 15, 3) := by decide +kernel
theorem dX3_named_99 : decode cX3_named 99 = .ok (.getfield 94, 3) := by decide +kernel
theorem dX3_named_102 : decode cX3_named 102 = .ok (.iload_n 2, 1) := by decide +kernel
theorem dX3_named_103 : decode cX3_named 103 = .ok (.iand, 1) := by decide +kernel
theorem dX3_named_104 : decode cX3_named 104 = .ok (.invokestatic 85, 3) := by decide +kernel
theorem dX3_named_107 : decode cX3_named 107 = .ok (.i2l, 1) := by decide +kernel
theorem dX3_named_108 : decode cX3_named 108 = .ok (.lreturn, 1) := by decide +kernel
theorem dX3_named_109 : decode cX3_named 109 = .ok (.iload_n 2, 1) := by decide +kernel
theorem dX3_named_110 : decode cX3_named 110 = .ok (.invokestatic 85, 3) := by decide +kernel
theorem dX3_named_113 : decode cX3_named 113 = .ok (.i2l, 1) := by decide +kernel
theorem dX3_named_114 : decode cX3_named 114 = .ok (.lreturn, 1) := by decide +kernel
theorem dX3_worked_0 : decode cX3_worked 0 = .ok (.iload_n 1, 1) := by decide +kernel
theorem dX3_worked_1 : decode cX3_worked 1 = .ok (.tableswitch 233 18 30 #[89, 67, 233, 207, 216, 225, 233, 111, 127, 143, 159, 175, 191], 67) := by decide +kernel
theorem dX3_worked_68 : decode cX3_worked 68 = .ok (.lload_n 2, 1) := by decide +kernel
theorem dX3_worked_69 : decode cX3_worked 69 = .ok (.lconst 0, 1) := by decide +kernel
theorem dX3_worked_70 : decode cX3_worked 70 = .ok (.lcmp, 1) := by decide +kernel
theorem dX3_worked_71 : decode cX3_worked 71 = .ok (.ifCond .ne 10, 3) := by decide +kernel
theorem dX3_worked_74 : decode cX3_worked 74 = .ok (.lload 4, 2) := by decide +kernel
theorem dX3_worked_76 : decode cX3_worked 76 = .ok (.lconst 0, 1) := by decide +kernel
theorem dX3_worked_77 : decode cX3_worked 77 = .ok (.lcmp, 1) := by decide +kernel
theorem dX3_worked_78 : decode cX3_worked 78 = .ok (.ifCond .eq 7, 3) := by decide +kernel
theorem dX3_worked_81 : decode cX3_worked 81 = .ok (.iconst 1, 1) := by decide +kernel
theorem dX3_worked_82 : decode cX3_worked 82 = .ok (.goto 4, 3) := by decide +kernel
theorem dX3_worked_85 : decode cX3_worked 85 = .ok (.iconst 0, 1) := by decide +kernel
theorem dX3_worked_86 : decode cX3_worked 86 = .ok (.invokestatic 58, 3) := by decide +kernel
theorem dX3_worked_89 : decode cX3_worked 89 = .ok (.lreturn, 1) := by decide +kernel
theorem dX3_worked_90 : decode cX3_worked 90 = .ok (.lload_n 2, 1) := by decide +kernel
theorem dX3_worked_91 : decode cX3_worked 91 = .ok (.lconst 0, 1) := by decide +kernel
theorem dX3_worked_92 : decode cX3_worked 92 = .ok (.lcmp, 1) := by decide +kernel
theorem dX3_worked_93 : decode cX3_worked 93 = .ok (.ifCond .eq 14, 3) := by decide +kernel
theorem dX3_worked_96 : decode cX3_worked 96 = .ok (.lload 4, 2) := by decide +kernel
theorem dX3_worked_98 : decode cX3_worked 98 = .ok (.lconst 0, 1) := by decide +kernel
theorem dX3_worked_99 : decode cX3_worked 99 = .ok (.lcmp, 1) := by decide +kernel
theorem dX3_worked_100 : decode cX3_worked 100 = .ok (.ifCond .eq 7, 3) := by decide +kernel
theorem dX3_worked_103 : decode cX3_worked 103 = .ok (.iconst 1, 1) := by decide +kernel
theorem dX3_worked_104 : decode cX3_worked 104 = .ok (.goto 4, 3) := by decide +kernel
theorem dX3_worked_107 : decode cX3_worked 107 = .ok (.iconst 0, 1) := by decide +kernel
theorem dX3_worked_108 : decode cX3_worked 108 = .ok (.invokestatic 58, 3) := by decide +kernel
theorem dX3_worked_111 : decode cX3_worked 111 = .ok (.lreturn, 1) := by decide +kernel
theorem dX3_worked_112 : decode cX3_worked 112 = .ok (.lload_n 2, 1) := by decide +kernel
theorem dX3_worked_113 : decode cX3_worked 113 = .ok (.lload 4, 2) := by decide +kernel
theorem dX3_worked_115 : decode cX3_worked 115 = .ok (.lcmp, 1) := by decide +kernel
theorem dX3_worked_116 : decode cX3_worked 116 = .ok (.ifCond .ge 7, 3) := by decide +kernel
theorem dX3_worked_119 : decode cX3_worked 119 = .ok (.iconst 1, 1) := by decide +kernel
theorem dX3_worked_120 : decode cX3_worked 120 = .ok (.goto 4, 3) := by decide +kernel
theorem dX3_worked_123 : decode cX3_worked 123 = .ok (.iconst 0, 1) := by decide +kernel
theorem dX3_worked_124 : decode cX3_worked 124 = .ok (.invokestatic 58, 3) := by decide +kernel
theorem dX3_worked_127 : decode cX3_worked 127 = .ok (.lreturn, 1) := by decide +kernel
theorem dX3_worked_128 : decode cX3_worked 128 = .ok (.lload_n 2, 1) := by decide +kernel
theorem dX3_worked_129 : decode cX3_worked 129 = .ok (.lload 4, 2) := by decide +kernel
theorem dX3_worked_131 : decode cX3_worked 131 = .ok (.lcmp, 1) := by decide +kernel
theorem dX3_worked_132 : decode cX3_worked 132 = .ok (.ifCond .gt 7, 3) := by decide +kernel
theorem dX3_worked_135 : decode cX3_worked 135 = .ok (.iconst 1, 1) := by decide +kernel
theorem dX3_worked_136 : decode cX3_worked 136 = .ok (.goto 4, 3) := by decide +kernel
theorem dX3_worked_139 : decode cX3_worked 139 = .ok (.iconst 0, 1) := by decide +kernel
theorem dX3_worked_140 : decode cX3_worked 140 = .ok (.invokestatic 58, 3) := by decide +kernel
theorem dX3_worked_143 : decode cX3_worked 143 = .ok (.lreturn, 1) := by decide +kernel
theorem dX3_worked_144 : decode cX3_worked 144 = .ok (.lload_n 2, 1) := by decide +kernel
theorem dX3_worked_145 : decode cX3_worked 145 = .ok (.lload 4, 2) := by decide +kernel
theorem dX3_worked_147 : decode cX3_worked 147 = .ok (.lcmp, 1) := by decide +kernel
theorem dX3_worked_148 : decode cX3_worked 148 = .ok (.ifCond .ne 7, 3) := by decide +kernel
theorem dX3_worked_151 : decode cX3_worked 151 = .ok (.iconst 1, 1) := by decide +kernel
theorem dX3_worked_152 : decode cX3_worked 152 = .ok (.goto 4, 3) := by decide +kernel
theorem dX3_worked_155 : decode cX3_worked 155 = .ok (.iconst 0, 1) := by decide +kernel
theorem dX3_worked_156 : decode cX3_worked 156 = .ok (.invokestatic 58, 3) := by decide +kernel
theorem dX3_worked_159 : decode cX3_worked 159 = .ok (.lreturn, 1) := by decide +kernel
theorem dX3_worked_160 : decode cX3_worked 160 = .ok (.lload_n 2, 1) := by decide +kernel
theorem dX3_worked_161 : decode cX3_worked 161 = .ok (.lload 4, 2) := by decide +kernel
theorem dX3_worked_163 : decode cX3_worked 163 = .ok (.lcmp, 1) := by decide +kernel
theorem dX3_worked_164 : decode cX3_worked 164 = .ok (.ifCond .eq 7, 3) := by decide +kernel
theorem dX3_worked_167 : decode cX3_worked 167 = .ok (.iconst 1, 1) := by decide +kernel
theorem dX3_worked_168 : decode cX3_worked 168 = .ok (.goto 4, 3) := by decide +kernel
theorem dX3_worked_171 : decode cX3_worked 171 = .ok (.iconst 0, 1) := by decide +kernel
theorem dX3_worked_172 : decode cX3_worked 172 = .ok (.invokestatic 58, 3) := by decide +kernel
theorem dX3_worked_175 : decode cX3_worked 175 = .ok (.lreturn, 1) := by decide +kernel
theorem dX3_worked_176 : decode cX3_worked 176 = .ok (.lload_n 2, 1) := by decide +kernel
theorem dX3_worked_177 : decode cX3_worked 177 = .ok (.lload 4, 2) := by decide +kernel
theorem dX3_worked_179 : decode cX3_worked 179 = .ok (.lcmp, 1) := by decide +kernel
theorem dX3_worked_180 : decode cX3_worked 180 = .ok (.ifCond .lt 7, 3) := by decide +kernel
theorem dX3_worked_183 : decode cX3_worked 183 = .ok (.iconst 1, 1) := by decide +kernel
theorem dX3_worked_184 : decode cX3_worked 184 = .ok (.goto 4, 3) := by decide +kernel
theorem dX3_worked_187 : decode cX3_worked 187 = .ok (.iconst 0, 1) := by decide +kernel
theorem dX3_worked_188 : decode cX3_worked 188 = .ok (.invokestatic 58, 3) := by decide +kernel
theorem dX3_worked_191 : decode cX3_worked 191 = .ok (.lreturn, 1) := by decide +kernel
theorem dX3_worked_192 : decode cX3_worked 192 = .ok (.lload_n 2, 1) := by decide +kernel
theorem dX3_worked_193 : decode cX3_worked 193 = .ok (.lload 4, 2) := by decide +kernel
theorem dX3_worked_195 : decode cX3_worked 195 = .ok (.lcmp, 1) := by decide +kernel
theorem dX3_worked_196 : decode cX3_worked 196 = .ok (.ifCond .le 7, 3) := by decide +kernel
theorem dX3_worked_199 : decode cX3_worked 199 = .ok (.iconst 1, 1) := by decide +kernel
theorem dX3_worked_200 : decode cX3_worked 200 = .ok (.goto 4, 3) := by decide +kernel
theorem dX3_worked_203 : decode cX3_worked 203 = .ok (.iconst 0, 1) := by decide +kernel
theorem dX3_worked_204 : decode cX3_worked 204 = .ok (.invokestatic 58, 3) := by decide +kernel
theorem dX3_worked_207 : decode cX3_worked 207 = .ok (.lreturn, 1) := by decide +kernel
theorem dX3_worked_208 : decode cX3_worked 208 = .ok (.aload_n 0, 1) := by decide +kernel
theorem dX3_worked_209 : decode cX3_worked 209 = .ok (.lload_n 2, 1) := by decide +kernel
theorem dX3_worked_210 : decode cX3_worked 210 = .ok (.lload 4, 2) := by decide +kernel
theorem dX3_worked_212 : decode cX3_worked 212 = .ok (.ladd, 1) := by decide +kernel
theorem dX3_worked_213 : decode cX3_worked 213 = .ok (.invokevirtual 97, 3) := by decide +kernel
theorem dX3_worked_216 : decode cX3_worked 216 = .ok (.lreturn, 1) := by decide +kernel
theorem dX3_worked_217 : decode cX3_worked 217 = .ok (.aload_n 0, 1) := by decide +kernel
theorem dX3_worked_218 : decode cX3_worked 218 = .ok (.lload_n 2, 1) := by decide +kernel
theorem dX3_worked_219 : decode cX3_worked 219 = .ok (.lload 4, 2) := by decide +kernel
theorem dX3_worked_221 : decode cX3_worked 221 = .ok (.lsub, 1) := by decide +kernel
theorem dX3_worked_222 : decode cX3_worked 222 = .ok (.invokevirtual 97, 3) := by decide +kernel
theorem dX3_worked_225 : decode cX3_worked 225 = .ok (.lreturn, 1) := by decide +kernel
theorem dX3_worked_226 : decode cX3_worked 226 = .ok (.aload_n 0, 1) := by decide +kernel
theorem dX3_worked_227 : decode cX3_worked 227 = .ok (.lload_n 2, 1) := by decide +kernel
theorem dX3_worked_228 : decode cX3_worked 228 = .ok (.lload 4, 2) := by decide +kernel
theorem dX3_worked_230 : decode cX3_worked 230 = .ok (.invokevirtual 101, 3) := by decide +kernel
theorem dX3_worked_233 : decode cX3_worked 233 = .ok (.lreturn, 1) := by decide +kernel
theorem dX3_worked_234 : decode cX3_worked 234 = .ok (.aload_n 0, 1) := by decide +kernel
theorem dX3_worked_235 : decode cX3_worked 235 = .ok (.lload_n 2, 1) := by decide +kernel
theorem dX3_worked_236 : decode cX3_worked 236 = .ok (.lload 4, 2) := by decide +kernel
theorem dX3_worked_238 : decode cX3_worked 238 = .ok (.invokevirtual 105, 3) := by decide +kernel
theorem dX3_worked_241 : decode cX3_worked 241 = .ok (.lreturn, 1) := by decide +kernel
theorem dX3_bounded_0 : decode cX3_bounded 0 = .ok (.aload_n 0, 1) := by decide +kernel
theorem dX3_bounded_1 : decode cX3_bounded 1 = .ok (.aload_n 0, 1) := by decide +kernel
theorem dX3_bounded_2 : decode cX3_bounded 2 = .ok (.getfield 49, 3) := by decide +kernel
theorem dX3_bounded_5 : decode cX3_bounded 5 = .ok (.ifCond .ne 19, 3) := by decide +kernel
theorem dX3_bounded_8 : decode cX3_bounded 8 = .ok (.lload_n 1, 1) := by decide +kernel
theorem dX3_bounded_9 : decode cX3_bounded 9 = .ok (.ldc2_w 108, 3) := by decide +kernel
theorem dX3_bounded_12 : decode cX3_bounded 12 = .ok (.lcmp, 1) := by decide +kernel
theorem dX3_bounded_13 : decode cX3_bounded 13 = .ok (.ifCond .gt 11, 3) := by decide +kernel
theorem dX3_bounded_16 : decode cX3_bounded 16 = .ok (.lload_n 1, 1) := by decide +kernel
theorem dX3_bounded_17 : decode cX3_bounded 17 = .ok (.ldc2_w 110, 3) := by decide +kernel
theorem dX3_bounded_20 : decode cX3_bounded 20 = .ok (.lcmp, 1) := by decide +kernel
theorem dX3_bounded_21 : decode cX3_bounded 21 = .ok (.ifCond .ge 7, 3) := by decide +kernel
theorem dX3_bounded_24 : decode cX3_bounded 24 = .ok (.iconst 1, 1) := by decide +kernel
theorem dX3_bounded_25 : decode cX3_bounded 25 = .ok (.goto 4, 3) := by decide +kernel
theorem dX3_bounded_28 : decode cX3_bounded 28 = .ok (.iconst 0, 1) := by decide +kernel
theorem dX3_bounded_29 : decode cX3_bounded 29 = .ok (.putfield 49, 3) := by decide +kernel
theorem dX3_bounded_32 : decode cX3_bounded 32 = .ok (.lload_n 1, 1) := by decide +kernel
theorem dX3_bounded_33 : decode cX3_bounded 33 = .ok (.lreturn, 1) := by decide +kernel
theorem dX3_product_0 : decode cX3_product 0 = .ok (.lload_n 1, 1) := by decide +kernel
theorem dX3_product_1 : decode cX3_product 1 = .ok (.lconst 0, 1) := by decide +kernel
theorem dX3_product_2 : decode cX3_product 2 = .ok (.lcmp, 1) := by decide +kernel
theorem dX3_product_3 : decode cX3_product 3 = .ok (.ifCond .eq 26, 3) := by decide +kernel
theorem dX3_product_6 : decode cX3_product 6 = .ok (.lload_n 3, 1) := by decide +kernel
theorem dX3_product_7 : decode cX3_product 7 = .ok (.invokestatic 112, 3) := by decide +kernel
theorem dX3_product_10 : decode cX3_product 10 = .ok (.ldc2_w 108, 3) := by decide +kernel
theorem dX3_product_13 : decode cX3_product 13 = .ok (.lload_n 1, 1) := by decide +kernel
theorem dX3_product_14 : decode cX3_product 14 = .ok (.invokestatic 112, 3) := by decide +kernel
theorem dX3_product_17 : decode cX3_product 17 = .ok (.ldiv, 1) := by decide +kernel
theorem dX3_product_18 : decode cX3_product 18 = .ok (.lcmp, 1) := by decide +kernel
theorem dX3_product_19 : decode cX3_product 19 = .ok (.ifCond .le 10, 3) := by decide +kernel
theorem dX3_product_22 : decode cX3_product 22 = .ok (.aload_n 0, 1) := by decide +kernel
theorem dX3_product_23 : decode cX3_product 23 = .ok (.iconst 1, 1) := by decide +kernel
theorem dX3_product_24 : decode cX3_product 24 = .ok (.putfield 49, 3) := by decide +kernel
theorem dX3_product_27 : decode cX3_product 27 = .ok (.lconst 0, 1) := by decide +kernel
theorem dX3_product_28 : decode cX3_product 28 = .ok (.lreturn, 1) := by decide +kernel
theorem dX3_product_29 : decode cX3_product 29 = .ok (.lload_n 1, 1) := by decide +kernel
theorem dX3_product_30 : decode cX3_product 30 = .ok (.lload_n 3, 1) := by decide +kernel
theorem dX3_product_31 : decode cX3_product 31 = .ok (.lmul, 1) := by decide +kernel
theorem dX3_product_32 : decode cX3_product 32 = .ok (.lreturn, 1) := by decide +kernel
theorem dX3_quotient_0 : decode cX3_quotient 0 = .ok (.lload_n 3, 1) := by decide +kernel
theorem dX3_quotient_1 : decode cX3_quotient 1 = .ok (.lconst 0, 1) := by decide +kernel
theorem dX3_quotient_2 : decode cX3_quotient 2 = .ok (.lcmp, 1) := by decide +kernel
theorem dX3_quotient_3 : decode cX3_quotient 3 = .ok (.ifCond .ne 10, 3) := by decide +kernel
theorem dX3_quotient_6 : decode cX3_quotient 6 = .ok (.aload_n 0, 1) := by decide +kernel
theorem dX3_quotient_7 : decode cX3_quotient 7 = .ok (.iconst 1, 1) := by decide +kernel
theorem dX3_quotient_8 : decode cX3_quotient 8 = .ok (.putfield 49, 3) := by decide +kernel
theorem dX3_quotient_11 : decode cX3_quotient 11 = .ok (.lconst 0, 1) := by decide +kernel
theorem dX3_quotient_12 : decode cX3_quotient 12 = .ok (.lreturn, 1) := by decide +kernel
theorem dX3_quotient_13 : decode cX3_quotient 13 = .ok (.lload_n 1, 1) := by decide +kernel
theorem dX3_quotient_14 : decode cX3_quotient 14 = .ok (.lload_n 3, 1) := by decide +kernel
theorem dX3_quotient_15 : decode cX3_quotient 15 = .ok (.ldiv, 1) := by decide +kernel
theorem dX3_quotient_16 : decode cX3_quotient 16 = .ok (.lreturn, 1) := by decide +kernel
