theorem dX12_thrown_0 : decode cX12_thrown 0 = .ok (.aload_n 0, 1) := by decide +kernel
theorem dX12_thrown_1 : decode cX12_thrown 1 = .ok (.getfield 110, 3) := by decide +kernel
theorem dX12_thrown_4 : decode cX12_thrown 4 = .ok (.ireturn, 1) := by decide +kernel
theorem dX12_feed_0 : decode cX12_feed 0 = .ok (.aload_n 0, 1) := by decide +kernel
theorem dX12_feed_1 : decode cX12_feed 1 = .ok (.iconst 0, 1) := by decide +kernel
theorem dX12_feed_2 : decode cX12_feed 2 = .ok (.putfield 110, 3) := by decide +kernel
theorem dX12_feed_5 : decode cX12_feed 5 = .ok (.aload_n 0, 1) := by decide +kernel
theorem dX12_feed_6 : decode cX12_feed 6 = .ok (.getfield 113, 3) := by decide +kernel
theorem dX12_feed_9 : decode cX12_feed 9 = .ok (.sipush 380, 3) := by decide +kernel
theorem dX12_feed_12 : decode cX12_feed 12 = .ok (.if_icmp .le 5, 3) := by decide +kernel
theorem dX12_feed_15 : decode cX12_feed 15 = .ok (.iconst (-1), 1) := by decide +kernel
theorem dX12_feed_16 : decode cX12_feed 16 = .ok (.ireturn, 1) := by decide +kernel
theorem dX12_feed_17 : decode cX12_feed 17 = .ok (.iconst 0, 1) := by decide +kernel
theorem dX12_feed_18 : decode cX12_feed 18 = .ok (.istore 6, 2) := by decide +kernel
theorem dX12_feed_20 : decode cX12_feed 20 = .ok (.iload 6, 2) := by decide +kernel
theorem dX12_feed_22 : decode cX12_feed 22 = .ok (.bipush 20, 2) := by decide +kernel
theorem dX12_feed_24 : decode cX12_feed 24 = .ok (.if_icmp .ge 86, 3) := by decide +kernel
theorem dX12_feed_27 : decode cX12_feed 27 = .ok (.iload 6, 2) := by decide +kernel
theorem dX12_feed_29 : decode cX12_feed 29 = .ok (.iconst 4, 1) := by decide +kernel
theorem dX12_feed_30 : decode cX12_feed 30 = .ok (.if_icmp .ge 7, 3) := by decide +kernel
theorem dX12_feed_33 : decode cX12_feed 33 = .ok (.iload_n 1, 1) := by decide +kernel
theorem dX12_feed_34 : decode cX12_feed 34 = .ok (.goto 39, 3) := by decide +kernel
theorem dX12_feed_37 : decode cX12_feed 37 = .ok (.iload 6, 2) := by decide +kernel
theorem dX12_feed_39 : decode cX12_feed 39 = .ok (.bipush 8, 2) := by decide +kernel
theorem dX12_feed_41 : decode cX12_feed 41 = .ok (.if_icmp .ge 7, 3) := by decide +kernel
theorem dX12_feed_44 : decode cX12_feed 44 = .ok (.iload_n 2, 1) := by decide +kernel
theorem dX12_feed_45 : decode cX12_feed 45 = .ok (.goto 28, 3) := by decide +kernel
theorem dX12_feed_48 : decode cX12_feed 48 = .ok (.iload 6, 2) := by decide +kernel
theorem dX12_feed_50 : decode cX12_feed 50 = .ok (.bipush 12, 2) := by decide +kernel
theorem dX12_feed_52 : decode cX12_feed 52 = .ok (.if_icmp .ge 7, 3) := by decide +kernel
theorem dX12_feed_55 : decode cX12_feed 55 = .ok (.iload_n 3, 1) := by decide +kernel
theorem dX12_feed_56 : decode cX12_feed 56 = .ok (.goto 17, 3) := by decide +kernel
theorem dX12_feed_59 : decode cX12_feed 59 = .ok (.iload 6, 2) := by decide +kernel
theorem dX12_feed_61 : decode cX12_feed 61 = .ok (.bipush 16, 2) := by decide +kernel
theorem dX12_feed_63 : decode cX12_feed 63 = .ok (.if_icmp .ge 8, 3) := by decide +kernel
theorem dX12_feed_66 : decode cX12_feed 66 = .ok (.iload 4, 2) := by decide +kernel
theorem dX12_feed_68 : decode cX12_feed 68 = .ok (.goto 5, 3) := by decide +kernel
theorem dX12_feed_71 : decode cX12_feed 71 = .ok (.iload 5, 2) := by decide +kernel
theorem dX12_feed_73 : decode cX12_feed 73 = .ok (.istore 7, 2) := by decide +kernel
theorem dX12_feed_75 : decode cX12_feed 75 = .ok (.aload_n 0, 1) := by decide +kernel
theorem dX12_feed_76 : decode cX12_feed 76 = .ok (.getfield 7, 3) := by decide +kernel
theorem dX12_feed_79 : decode cX12_feed 79 = .ok (.aload_n 0, 1) := by decide +kernel
theorem dX12_feed_80 : decode cX12_feed 80 = .ok (.getfield 113, 3) := by decide +kernel
theorem dX12_feed_83 : decode cX12_feed 83 = .ok (.iload 6, 2) := by decide +kernel
theorem dX12_feed_85 : decode cX12_feed 85 = .ok (.iadd, 1) := by decide +kernel
theorem dX12_feed_86 : decode cX12_feed 86 = .ok (.iload 7, 2) := by decide +kernel
theorem dX12_feed_88 : decode cX12_feed 88 = .ok (.bipush 24, 2) := by decide +kernel
theorem dX12_feed_90 : decode cX12_feed 90 = .ok (.bipush 8, 2) := by decide +kernel
theorem dX12_feed_92 : decode cX12_feed 92 = .ok (.iload 6, 2) := by decide +kernel
theorem dX12_feed_94 : decode cX12_feed 94 = .ok (.iconst 4, 1) := by decide +kernel
theorem dX12_feed_95 : decode cX12_feed 95 = .ok (.irem, 1) := by decide +kernel
theorem dX12_feed_96 : decode cX12_feed 96 = .ok (.imul, 1) := by decide +kernel
theorem dX12_feed_97 : decode cX12_feed 97 = .ok (.isub, 1) := by decide +kernel
theorem dX12_feed_98 : decode cX12_feed 98 = .ok (.ishr, 1) := by decide +kernel
theorem dX12_feed_99 : decode cX12_feed 99 = .ok (.sipush 255, 3) := by decide +kernel
theorem dX12_feed_102 : decode cX12_feed 102 = .ok (.iand, 1) := by decide +kernel
theorem dX12_feed_103 : decode cX12_feed 103 = .ok (.iastore, 1) := by decide +kernel
theorem dX12_feed_104 : decode cX12_feed 104 = .ok (.iinc 6 1, 3) := by decide +kernel
theorem dX12_feed_107 : decode cX12_feed 107 = .ok (.goto (-87), 3) := by decide +kernel
theorem dX12_feed_110 : decode cX12_feed 110 = .ok (.aload_n 0, 1) := by decide +kernel
theorem dX12_feed_111 : decode cX12_feed 111 = .ok (.dup, 1) := by decide +kernel
theorem dX12_feed_112 : decode cX12_feed 112 = .ok (.getfield 113, 3) := by decide +kernel
theorem dX12_feed_115 : decode cX12_feed 115 = .ok (.bipush 20, 2) := by decide +kernel
theorem dX12_feed_117 : decode cX12_feed 117 = .ok (.iadd, 1) := by decide +kernel
theorem dX12_feed_118 : decode cX12_feed 118 = .ok (.putfield 113, 3) := by decide +kernel
theorem dX12_feed_121 : decode cX12_feed 121 = .ok (.aload_n 0, 1) := by decide +kernel
theorem dX12_feed_122 : decode cX12_feed 122 = .ok (.getfield 113, 3) := by decide +kernel
theorem dX12_feed_125 : decode cX12_feed 125 = .ok (.ireturn, 1) := by decide +kernel
theorem dX12_here_0 : decode cX12_here 0 = .ok (.aload_n 0, 1) := by decide +kernel
theorem dX12_here_1 : decode cX12_here 1 = .ok (.getfield 116, 3) := by decide +kernel
theorem dX12_here_4 : decode cX12_here 4 = .ok (.aload_n 0, 1) := by decide +kernel
theorem dX12_here_5 : decode cX12_here 5 = .ok (.getfield 119, 3) := by decide +kernel
theorem dX12_here_8 : decode cX12_here 8 = .ok (.if_icmp .ge 15, 3) := by decide +kernel
theorem dX12_here_11 : decode cX12_here 11 = .ok (.aload_n 0, 1) := by decide +kernel
theorem dX12_here_12 : decode cX12_here 12 = .ok (.getfield 7, 3) := by decide +kernel
theorem dX12_here_15 : decode cX12_here 15 = .ok (.aload_n 0, 1) := by decide +kernel
theorem dX12_here_16 : decode cX12_here 16 = .ok (.getfield 116, 3) := by decide +kernel
theorem dX12_here_19 : decode cX12_here 19 = .ok (.iaload, 1) := by decide +kernel
theorem dX12_here_20 : decode cX12_here 20 = .ok (.goto 4, 3) := by decide +kernel
theorem dX12_here_23 : decode cX12_here 23 = .ok (.iconst (-1), 1) := by decide +kernel
theorem dX12_here_24 : decode cX12_here 24 = .ok (.ireturn, 1) := by decide +kernel
theorem dX12_isSmall_0 : decode cX12_isSmall 0 = .ok (.iload_n 0, 1) := by decide +kernel
theorem dX12_isSmall_1 : decode cX12_isSmall 1 = .ok (.bipush 97, 2) := by decide +kernel
theorem dX12_isSmall_3 : decode cX12_isSmall 3 = .ok (.if_icmp .lt 13, 3) := by decide +kernel
theorem dX12_isSmall_6 : decode cX12_isSmall 6 = .ok (.iload_n 0, 1) := by decide +kernel
theorem dX12_isSmall_7 : decode cX12_isSmall 7 = .ok (.bipush 122, 2) := by decide +kernel
theorem dX12_isSmall_9 : decode cX12_isSmall 9 = .ok (.if_icmp .gt 7, 3) := by decide +kernel
theorem dX12_isSmall_12 : decode cX12_isSmall 12 = .ok (.iconst 1, 1) := by decide +kernel
theorem dX12_isSmall_13 : decode cX12_isSmall 13 = .ok (.goto 4, 3) := by decide +kernel
theorem dX12_isSmall_16 : decode cX12_isSmall 16 = .ok (.iconst 0, 1) := by decide +kernel
theorem dX12_isSmall_17 : decode cX12_isSmall 17 = .ok (.ireturn, 1) := by decide +kernel
theorem dX12_isDigit_0 : decode cX12_isDigit 0 = .ok (.iload_n 0, 1) := by decide +kernel
theorem dX12_isDigit_1 : decode cX12_isDigit 1 = .ok (.bipush 48, 2) := by decide +kernel
theorem dX12_isDigit_3 : decode cX12_isDigit 3 = .ok (.if_icmp .lt 13, 3) := by decide +kernel
theorem dX12_isDigit_6 : decode cX12_isDigit 6 = .ok (.iload_n 0, 1) := by decide +kernel
theorem dX12_isDigit_7 : decode cX12_isDigit 7 = .ok (.bipush 57, 2) := by decide +kernel
theorem dX12_isDigit_9 : decode cX12_isDigit 9 = .ok (.if_icmp .gt 7, 3) := by decide +kernel
theorem dX12_isDigit_12 : decode cX12_isDigit 12 = .ok (.iconst 1, 1) := by decide +kernel
theorem dX12_isDigit_13 : decode cX12_isDigit 13 = .ok (.goto 4, 3) := by decide +kernel
theorem dX12_isDigit_16 : decode cX12_isDigit 16 = .ok (.iconst 0, 1) := by decide +kernel
theorem dX12_isDigit_17 : decode cX12_isDigit 17 = .ok (.ireturn, 1) := by decide +kernel
theorem dX12_wrong_0 : decode cX12_wrong 0 = .ok (.aload_n 0, 1) := by decide +kernel
theorem dX12_wrong_1 : decode cX12_wrong 1 = .ok (.getfield 156, 3) := by decide +kernel
theorem dX12_wrong_4 : decode cX12_wrong 4 = .ok (.ifCond .eq 4, 3) := by decide +kernel
theorem dX12_wrong_7 : decode cX12_wrong 7 = .ok (.return_, 1) := by decide +kernel
theorem dX12_wrong_8 : decode cX12_wrong 8 = .ok (.aload_n 0, 1) := by decide +kernel
theorem dX12_wrong_9 : decode cX12_wrong 9 = .ok (.iload_n 1, 1) := by decide +kernel
theorem dX12_wrong_10 : decode cX12_wrong 10 = .ok (.putfield 156, 3) := by decide +kernel
theorem dX12_wrong_13 : decode cX12_wrong 13 = .ok (.aload_n 0, 1) := by decide +kernel
theorem dX12_wrong_14 : decode cX12_wrong 14 = .ok (.aload_n 0, 1) := by decide +kernel
theorem dX12_wrong_15 : decode cX12_wrong 15 = .ok (.getfield 126, 3) := by decide +kernel
theorem dX12_wrong_18 : decode cX12_wrong 18 = .ok (.putfield 159, 3) := by decide +kernel
theorem dX12_wrong_21 : decode cX12_wrong 21 = .ok (.return_, 1) := by decide +kernel
theorem dX12_isSign_0 : decode cX12_isSign 0 = .ok (.aload_n 0, 1) := by decide +kernel
theorem dX12_isSign_1 : decode cX12_isSign 1 = .ok (.getfield 129, 3) := by decide +kernel
theorem dX12_isSign_4 : decode cX12_isSign 4 = .ok (.iconst 2, 1) := by decide +kernel
theorem dX12_isSign_5 : decode cX12_isSign 5 = .ok (.if_icmp .ne 15, 3) := by decide +kernel
theorem dX12_isSign_8 : decode cX12_isSign 8 = .ok (.aload_n 0, 1) := by decide +kernel
theorem dX12_isSign_9 : decode cX12_isSign 9 = .ok (.getfield 139, 3) := by decide +kernel
theorem dX12_isSign_12 : decode cX12_isSign 12 = .ok (.iload_n 1, 1) := by decide +kernel
theorem dX12_isSign_13 : decode cX12_isSign 13 = .ok (.if_icmp .ne 7, 3) := by decide +kernel
theorem dX12_isSign_16 : decode cX12_isSign 16 = .ok (.iconst 1, 1) := by decide +kernel
theorem dX12_isSign_17 : decode cX12_isSign 17 = .ok (.goto 4, 3) := by decide +kernel
theorem dX12_isSign_20 : decode cX12_isSign 20 = .ok (.iconst 0, 1) := by decide +kernel
theorem dX12_isSign_21 : decode cX12_isSign 21 = .ok (.ireturn, 1) := by decide +kernel
theorem dX12_bind_0 : decode cX12_bind 0 = .ok (.iload_n 0, 1) := by decide +kernel
theorem dX12_bind_1 : decode cX12_bind 1 = .ok (.lookupswitch 128 #[(42, 125), (43, 123), (45, 123), (47, 125), (60, 121), (61, 121), (62, 121), (256, 121), (257, 121), (258, 121), (260, 119), (261, 117), (262, 115)], 115) := by decide +kernel
theorem dX12_bind_116 : decode cX12_bind 116 = .ok (.iconst 1, 1) := by decide +kernel
theorem dX12_bind_117 : decode cX12_bind 117 = .ok (.ireturn, 1) := by decide +kernel
theorem dX12_bind_118 : decode cX12_bind 118 = .ok (.iconst 2, 1) := by decide +kernel
theorem dX12_bind_119 : decode cX12_bind 119 = .ok (.ireturn, 1) := by decide +kernel
theorem dX12_bind_120 : decode cX12_bind 120 = .ok (.iconst 3, 1) := by decide +kernel
theorem dX12_bind_121 : decode cX12_bind 121 = .ok (.ireturn, 1) := by decide +kernel
theorem dX12_bind_122 : decode cX12_bind 122 = .ok (.iconst 4, 1) := by decide +kernel
theorem dX12_bind_123 : decode cX12_bind 123 = .ok (.ireturn, 1) := by decide +kernel
theorem dX12_bind_124 : decode cX12_bind 124 = .ok (.iconst 5, 1) := by decide +kernel
theorem dX12_bind_125 : decode cX12_bind 125 = .ok (.ireturn, 1) := by decide +kernel
theorem dX12_bind_126 : decode cX12_bind 126 = .ok (.bipush 6, 2) := by decide +kernel
theorem dX12_bind_128 : decode cX12_bind 128 = .ok (.ireturn, 1) := by decide +kernel
theorem dX12_bind_129 : decode cX12_bind 129 = .ok (.iconst 0, 1) := by decide +kernel
theorem dX12_bind_130 : decode cX12_bind 130 = .ok (.ireturn, 1) := by decide +kernel
theorem dX12_knot_0 : decode cX12_knot 0 = .ok (.aload_n 0, 1) := by decide +kernel
theorem dX12_knot_1 : decode cX12_knot 1 = .ok (.getfield 191, 3) := by decide +kernel
theorem dX12_knot_4 : decode cX12_knot 4 = .ok (.bipush 64, 2) := by decide +kernel
theorem dX12_knot_6 : decode cX12_knot 6 = .ok (.if_icmp .ne 11, 3) := by decide +kernel
theorem dX12_knot_9 : decode cX12_knot 9 = .ok (.aload_n 0, 1) := by decide +kernel
theorem dX12_knot_10 : decode cX12_knot 10 = .ok (.iconst 2, 1) := by decide +kernel
theorem dX12_knot_11 : decode cX12_knot 11 = .ok (.invokevirtual 162, 3) := by decide +kernel
theorem dX12_knot_14 : decode cX12_knot 14 = .ok (.goto 13, 3) := by decide +kernel
theorem dX12_knot_17 : decode cX12_knot 17 = .ok (.aload_n 0, 1) := by decide +kernel
theorem dX12_knot_18 : decode cX12_knot 18 = .ok (.dup, 1) := by decide +kernel
theorem dX12_knot_19 : decode cX12_knot 19 = .ok (.getfield 191, 3) := by decide +kernel
theorem dX12_knot_22 : decode cX12_knot 22 = .ok (.iconst 1, 1) := by decide +kernel
theorem dX12_knot_23 : decode cX12_knot 23 = .ok (.iadd, 1) := by decide +kernel
theorem dX12_knot_24 : decode cX12_knot 24 = .ok (.putfield 191, 3) := by decide +kernel
theorem dX12_knot_27 : decode cX12_knot 27 = .ok (.return_, 1) := by decide +kernel
theorem dX12_out_0 : decode cX12_out 0 = .ok (.aload_n 0, 1) := by decide +kernel
theorem dX12_out_1 : decode cX12_out 1 = .ok (.getfield 13, 3) := by decide +kernel
theorem dX12_out_4 : decode cX12_out 4 = .ok (.bipush 64, 2) := by decide +kernel
theorem dX12_out_6 : decode cX12_out 6 = .ok (.aload_n 0, 1) := by decide +kernel
theorem dX12_out_7 : decode cX12_out 7 = .ok (.getfield 194, 3) := by decide +kernel
theorem dX12_out_10 : decode cX12_out 10 = .ok (.iadd, 1) := by decide +kernel
theorem dX12_out_11 : decode cX12_out 11 = .ok (.iload_n 1, 1) := by decide +kernel
theorem dX12_out_12 : decode cX12_out 12 = .ok (.iastore, 1) := by decide +kernel
theorem dX12_out_13 : decode cX12_out 13 = .ok (.aload_n 0, 1) := by decide +kernel
theorem dX12_out_14 : decode cX12_out 14 = .ok (.getfield 16, 3) := by decide +kernel
theorem dX12_out_17 : decode cX12_out 17 = .ok (.bipush 64, 2) := by decide +kernel
theorem dX12_out_19 : decode cX12_out 19 = .ok (.aload_n 0, 1) := by decide +kernel
theorem dX12_out_20 : decode cX12_out 20 = .ok (.getfield 194, 3) := by decide +kernel
theorem dX12_out_23 : decode cX12_out 23 = .ok (.iadd, 1) := by decide +kernel
theorem dX12_out_24 : decode cX12_out 24 = .ok (.iload_n 2, 1) := by decide +kernel
theorem dX12_out_25 : decode cX12_out 25 = .ok (.iastore, 1) := by decide +kernel
theorem dX12_out_26 : decode cX12_out 26 = .ok (.aload_n 0, 1) := by decide +kernel
theorem dX12_out_27 : decode cX12_out 27 = .ok (.dup, 1) := by decide +kernel
theorem dX12_out_28 : decode cX12_out 28 = .ok (.getfield 194, 3) := by decide +kernel
theorem dX12_out_31 : decode cX12_out 31 = .ok (.iconst 1, 1) := by decide +kernel
theorem dX12_out_32 : decode cX12_out 32 = .ok (.iadd, 1) := by decide +kernel
theorem dX12_out_33 : decode cX12_out 33 = .ok (.putfield 194, 3) := by decide +kernel
theorem dX12_out_36 : decode cX12_out 36 = .ok (.return_, 1) := by decide +kernel
theorem dX12_pour_0 : decode cX12_pour 0 = .ok (.aload_n 0, 1) := by decide +kernel
theorem dX12_pour_1 : decode cX12_pour 1 = .ok (.getfield 197, 3) := by decide +kernel
theorem dX12_pour_4 : decode cX12_pour 4 = .ok (.ifCond .le 48, 3) := by decide +kernel
theorem dX12_pour_7 : decode cX12_pour 7 = .ok (.aload_n 0, 1) := by decide +kernel
theorem dX12_pour_8 : decode cX12_pour 8 = .ok (.getfield 26, 3) := by decide +kernel
theorem dX12_pour_11 : decode cX12_pour 11 = .ok (.aload_n 0, 1) := by decide +kernel
theorem dX12_pour_12 : decode cX12_pour 12 = .ok (.getfield 197, 3) := by decide +kernel
theorem dX12_pour_15 : decode cX12_pour 15 = .ok (.iconst 1, 1) := by decide +kernel
theorem dX12_pour_16 : decode cX12_pour 16 = .ok (.isub, 1) := by decide +kernel
theorem dX12_pour_17 : decode cX12_pour 17 = .ok (.iaload, 1) := by decide +kernel
theorem dX12_pour_18 : decode cX12_pour 18 = .ok (.invokestatic 200, 3) := by decide +kernel
theorem dX12_pour_21 : decode cX12_pour 21 = .ok (.iload_n 1, 1) := by decide +kernel
theorem dX12_pour_22 : decode cX12_pour 22 = .ok (.if_icmp .lt 30, 3) := by decide +kernel
theorem dX12_pour_25 : decode cX12_pour 25 = .ok (.aload_n 0, 1) := by decide +kernel
theorem dX12_pour_26 : decode cX12_pour 26 = .ok (.dup, 1) := by decide +kernel
theorem dX12_pour_27 : decode cX12_pour 27 = .ok (.getfield 197, 3) := by decide +kernel
theorem dX12_pour_30 : decode cX12_pour 30 = .ok (.iconst 1, 1) := by decide +kernel
theorem dX12_pour_31 : decode cX12_pour 31 = .ok (.isub, 1) := by decide +kernel
theorem dX12_pour_32 : decode cX12_pour 32 = .ok (.putfield 197, 3) := by decide +kernel
theorem dX12_pour_35 : decode cX12_pour 35 = .ok (.aload_n 0, 1) := by decide +kernel
theorem dX12_pour_36 : decode cX12_pour 36 = .ok (.iconst 2, 1) := by decide +kernel
theorem dX12_pour_37 : decode cX12_pour 37 = .ok (.aload_n 0, 1) := by decide +kernel
theorem dX12_pour_38 : decode cX12_pour 38 = .ok (.getfield 26, 3) := by decide +kernel
theorem dX12_pour_41 : decode cX12_pour 41 = .ok (.aload_n 0, 1) := by decide +kernel
theorem dX12_pour_42 : decode cX12_pour 42 = .ok (.getfield 197, 3) := by decide +kernel
theorem dX12_pour_45 : decode cX12_pour 45 = .ok (.iaload, 1) := by decide +kernel
theorem dX12_pour_46 : decode cX12_pour 46 = .ok (.invokevirtual 204, 3) := by decide +kernel
theorem dX12_pour_49 : decode cX12_pour 49 = .ok (.goto (-49), 3) := by decide +kernel
theorem dX12_pour_52 : decode cX12_pour 52 = .ok (.return_, 1) := by decide +kernel
theorem dX12_between_0 : decode cX12_between 0 = .ok (.aload_n 0, 1) := by decide +kernel
theorem dX12_between_1 : decode cX12_between 1 = .ok (.getfield 129, 3) := by decide +kernel
theorem dX12_between_4 : decode cX12_between 4 = .ok (.ifCond .ne 35, 3) := by decide +kernel
theorem dX12_between_7 : decode cX12_between 7 = .ok (.aload_n 0, 1) := by decide +kernel
theorem dX12_between_8 : decode cX12_between 8 = .ok (.getfield 139, 3) := by decide +kernel
theorem dX12_between_11 : decode cX12_between 11 = .ok (.bipush 11, 2) := by decide +kernel
theorem dX12_between_13 : decode cX12_between 13 = .ok (.if_icmp .ne 9, 3) := by decide +kernel
theorem dX12_between_16 : decode cX12_between 16 = .ok (.sipush 262, 3) := by decide +kernel
theorem dX12_between_19 : decode cX12_between 19 = .ok (.goto 19, 3) := by decide +kernel
theorem dX12_between_22 : decode cX12_between 22 = .ok (.aload_n 0, 1) := by decide +kernel
theorem dX12_between_23 : decode cX12_between 23 = .ok (.getfield 139, 3) := by decide +kernel
theorem dX12_between_26 : decode cX12_between 26 = .ok (.bipush 12, 2) := by decide +kernel
theorem dX12_between_28 : decode cX12_between 28 = .ok (.if_icmp .ne 9, 3) := by decide +kernel
theorem dX12_between_31 : decode cX12_between 31 = .ok (.sipush 261, 3) := by decide +kernel
theorem dX12_between_34 : decode cX12_between 34 = .ok (.goto 4, 3) := by decide +kernel
theorem dX12_between_37 : decode cX12_between 37 = .ok (.iconst 0, 1) := by decide +kernel
theorem dX12_between_38 : decode cX12_between 38 = .ok (.ireturn, 1) := by decide +kernel
theorem dX12_between_39 : decode cX12_between 39 = .ok (.aload_n 0, 1) := by decide +kernel
theorem dX12_between_40 : decode cX12_between 40 = .ok (.getfield 129, 3) := by decide +kernel
theorem dX12_between_43 : decode cX12_between 43 = .ok (.iconst 2, 1) := by decide +kernel
theorem dX12_between_44 : decode cX12_between 44 = .ok (.if_icmp .ne 38, 3) := by decide +kernel
theorem dX12_between_47 : decode cX12_between 47 = .ok (.aload_n 0, 1) := by decide +kernel
theorem dX12_between_48 : decode cX12_between 48 = .ok (.getfield 139, 3) := by decide +kernel
theorem dX12_between_51 : decode cX12_between 51 = .ok (.bipush 40, 2) := by decide +kernel
theorem dX12_between_53 : decode cX12_between 53 = .ok (.if_icmp .eq 29, 3) := by decide +kernel
theorem dX12_between_56 : decode cX12_between 56 = .ok (.aload_n 0, 1) := by decide +kernel
theorem dX12_between_57 : decode cX12_between 57 = .ok (.getfield 139, 3) := by decide +kernel
theorem dX12_between_60 : decode cX12_between 60 = .ok (.bipush 41, 2) := by decide +kernel
theorem dX12_between_62 : decode cX12_between 62 = .ok (.if_icmp .eq 20, 3) := by decide +kernel
theorem dX12_between_65 : decode cX12_between 65 = .ok (.aload_n 0, 1) := by decide +kernel
theorem dX12_between_66 : decode cX12_between 66 = .ok (.getfield 139, 3) := by decide +kernel
theorem dX12_between_69 : decode cX12_between 69 = .ok (.invokestatic 200, 3) := by decide +kernel
theorem dX12_between_72 : decode cX12_between 72 = .ok (.ifCond .le 10, 3) := by decide +kernel
theorem dX12_between_75 : decode cX12_between 75 = .ok (.aload_n 0, 1) := by decide +kernel
theorem dX12_between_76 : decode cX12_between 76 = .ok (.getfield 139, 3) := by decide +kernel
theorem dX12_between_79 : decode cX12_between 79 = .ok (.goto 4, 3) := by decide +kernel
theorem dX12_between_82 : decode cX12_between 82 = .ok (.iconst 0, 1) := by decide +kernel
theorem dX12_between_83 : decode cX12_between 83 = .ok (.ireturn, 1) := by decide +kernel
theorem dX12_fault_0 : decode cX12_fault 0 = .ok (.aload_n 0, 1) := by decide +kernel
theorem dX12_fault_1 : decode cX12_fault 1 = .ok (.iconst 0, 1) := by decide +kernel
theorem dX12_fault_2 : decode cX12_fault 2 = .ok (.putfield 110, 3) := by decide +kernel
theorem dX12_fault_5 : decode cX12_fault 5 = .ok (.iload_n 1, 1) := by decide +kernel
theorem dX12_fault_6 : decode cX12_fault 6 = .ok (.ifCond .ne 10, 3) := by decide +kernel
theorem dX12_fault_9 : decode cX12_fault 9 = .ok (.aload_n 0, 1) := by decide +kernel
theorem dX12_fault_10 : decode cX12_fault 10 = .ok (.getfield 232, 3) := by decide +kernel
theorem dX12_fault_13 : decode cX12_fault 13 = .ok (.goto 16, 3) := by decide +kernel
theorem dX12_fault_16 : decode cX12_fault 16 = .ok (.iload_n 1, 1) := by decide +kernel
theorem dX12_fault_17 : decode cX12_fault 17 = .ok (.iconst 1, 1) := by decide +kernel
theorem dX12_fault_18 : decode cX12_fault 18 = .ok (.if_icmp .ne 10, 3) := by decide +kernel
theorem dX12_fault_21 : decode cX12_fault 21 = .ok (.aload_n 0, 1) := by decide +kernel
theorem dX12_fault_22 : decode cX12_fault 22 = .ok (.getfield 22, 3) := by decide +kernel
theorem dX12_fault_25 : decode cX12_fault 25 = .ok (.goto 4, 3) := by decide +kernel
theorem dX12_fault_28 : decode cX12_fault 28 = .ok (.iconst (-1), 1) := by decide +kernel
theorem dX12_fault_29 : decode cX12_fault 29 = .ok (.ireturn, 1) := by decide +kernel
theorem dX12_puts_0 : decode cX12_puts 0 = .ok (.aload_n 0, 1) := by decide +kernel
theorem dX12_puts_1 : decode cX12_puts 1 = .ok (.getfield 33, 3) := by decide +kernel
theorem dX12_puts_4 : decode cX12_puts 4 = .ok (.aload_n 0, 1) := by decide +kernel
theorem dX12_puts_5 : decode cX12_puts 5 = .ok (.getfield 245, 3) := by decide +kernel
theorem dX12_puts_8 : decode cX12_puts 8 = .ok (.lload_n 1, 1) := by decide +kernel
theorem dX12_puts_9 : decode cX12_puts 9 = .ok (.lastore, 1) := by decide +kernel
theorem dX12_puts_10 : decode cX12_puts 10 = .ok (.aload_n 0, 1) := by decide +kernel
theorem dX12_puts_11 : decode cX12_puts 11 = .ok (.dup, 1) := by decide +kernel
theorem dX12_puts_12 : decode cX12_puts 12 = .ok (.getfield 245, 3) := by decide +kernel
theorem dX12_puts_15 : decode cX12_puts 15 = .ok (.iconst 1, 1) := by decide +kernel
theorem dX12_puts_16 : decode cX12_puts 16 = .ok (.iadd, 1) := by decide +kernel
theorem dX12_puts_17 : decode cX12_puts 17 = .ok (.putfield 245, 3) := by decide +kernel
theorem dX12_puts_20 : decode cX12_puts 20 = .ok (.lload_n 1, 1) := by decide +kernel
theorem dX12_puts_21 : decode cX12_puts 21 = .ok (.ldc2_w 248, 3) := by decide +kernel
theorem dX12_puts_24 : decode cX12_puts 24 = .ok (.lcmp, 1) := by decide +kernel
theorem dX12_puts_25 : decode cX12_puts 25 = .ok (.ifCond .gt 15, 3) := by decide +kernel
theorem dX12_puts_28 : decode cX12_puts 28 = .ok (.lload_n 1, 1) := by decide +kernel
theorem dX12_puts_29 : decode cX12_puts 29 = .ok (.ldc2_w 250, 3) := by decide +kernel
theorem dX12_puts_32 : decode cX12_puts 32 = .ok (.lcmp, 1) := by decide +kernel
theorem dX12_puts_33 : decode cX12_puts 33 = .ok (.ifCond .lt 7, 3) := by decide +kernel
theorem dX12_puts_36 : decode cX12_puts 36 = .ok (.iconst 1, 1) := by decide +kernel
theorem dX12_puts_37 : decode cX12_puts 37 = .ok (.goto 4, 3) := by decide +kernel
theorem dX12_puts_40 : decode cX12_puts 40 = .ok (.iconst 0, 1) := by decide +kernel
theorem dX12_puts_41 : decode cX12_puts 41 = .ok (.ireturn, 1) := by decide +kernel
theorem dX12_is_0 : decode cX12_is 0 = .ok (.iload_n 0, 1) := by decide +kernel
theorem dX12_is_1 : decode cX12_is 1 = .ok (.ifCond .eq 7, 3) := by decide +kernel
theorem dX12_is_4 : decode cX12_is 4 = .ok (.lconst 1, 1) := by decide +kernel
theorem dX12_is_5 : decode cX12_is 5 = .ok (.goto 4, 3) := by decide +kernel
theorem dX12_is_8 : decode cX12_is 8 = .ok (.lconst 0, 1) := by decide +kernel
theorem dX12_is_9 : decode cX12_is 9 = .ok (.lreturn, 1) := by decide +kernel
theorem dX12_does_0 : decode cX12_does 0 = .ok (.iload_n 1, 1) := by decide +kernel
theorem dX12_does_1 : decode cX12_does 1 = .ok (.sipush 260, 3) := by decide +kernel
theorem dX12_does_4 : decode cX12_does 4 = .ok (.if_icmp .ne 40, 3) := by decide +kernel
theorem dX12_does_7 : decode cX12_does 7 = .ok (.aload_n 0, 1) := by decide +kernel
theorem dX12_does_8 : decode cX12_does 8 = .ok (.getfield 33, 3) := by decide +kernel
theorem dX12_does_11 : decode cX12_does 11 = .ok (.aload_n 0, 1) := by decide +kernel
theorem dX12_does_12 : decode cX12_does 12 = .ok (.getfield 245, 3) := by decide +kernel
theorem dX12_does_15 : decode cX12_does 15 = .ok (.iconst 1, 1) := by decide +kernel
theorem dX12_does_16 : decode cX12_does 16 = .ok (.isub, 1) := by decide +kernel
theorem dX12_does_17 : decode cX12_does 17 = .ok (.aload_n 0, 1) := by decide +kernel
theorem dX12_does_18 : decode cX12_does 18 = .ok (.getfield 33, 3) := by decide +kernel
theorem dX12_does_21 : decode cX12_does 21 = .ok (.aload_n 0, 1) := by decide +kernel
theorem dX12_does_22 : decode cX12_does 22 = .ok (.getfield 245, 3) := by decide +kernel
theorem dX12_does_25 : decode cX12_does 25 = .ok (.iconst 1, 1) := by decide +kernel
theorem dX12_does_26 : decode cX12_does 26 = .ok (.isub, 1) := by decide +kernel
theorem dX12_does_27 : decode cX12_does 27 = .ok (.laload, 1) := by decide +kernel
theorem dX12_does_28 : decode cX12_does 28 = .ok (.lconst 0, 1) := by decide +kernel
theorem dX12_does_29 : decode cX12_does 29 = .ok (.lcmp, 1) := by decide +kernel
theorem dX12_does_30 : decode cX12_does 30 = .ok (.ifCond .ne 7, 3) := by decide +kernel
theorem dX12_does_33 : decode cX12_does 33 = .ok (.iconst 1, 1) := by decide +kernel
theorem dX12_does_34 : decode cX12_does 34 = .ok (.goto 4, 3) := by decide +kernel
theorem dX12_does_37 : decode cX12_does 37 = .ok (.iconst 0, 1) := by decide +kernel
theorem dX12_does_38 : decode cX12_does 38 = .ok (.invokestatic 252, 3) := by decide +kernel
theorem dX12_does_41 : decode cX12_does 41 = .ok (.lastore, 1) := by decide +kernel
theorem dX12_does_42 : decode cX12_does 42 = .ok (.iconst 1, 1) := by decide +kernel
theorem dX12_does_43 : decode cX12_does 43 = .ok (.ireturn, 1) := by decide +kernel
theorem dX12_does_44 : decode cX12_does 44 = .ok (.aload_n 0, 1) := by decide +kernel
theorem dX12_does_45 : decode cX12_does 45 = .ok (.dup, 1) := by decide +kernel
theorem dX12_does_46 : decode cX12_does 46 = .ok (.getfield 245, 3) := by decide +kernel
theorem dX12_does_49 : decode cX12_does 49 = .ok (.iconst 2, 1) := by decide +kernel
theorem dX12_does_50 : decode cX12_does 50 = .ok (.isub, 1) := by decide +kernel
theorem dX12_does_51 : decode cX12_does 51 = .ok (.putfield 245, 3) := by decide +kernel
theorem dX12_does_54 : decode cX12_does 54 = .ok (.aload_n 0, 1) := by decide +kernel
theorem dX12_does_55 : decode cX12_does 55 = .ok (.getfield 33, 3) := by decide +kernel
theorem dX12_does_58 : decode cX12_does 58 = .ok (.aload_n 0, 1) := by decide +kernel
theorem dX12_does_59 : decode cX12_does 59 = .ok (.getfield 245, 3) := by decide +kernel
theorem dX12_does_62 : decode cX12_does 62 = .ok (.laload, 1) := by decide +kernel
theorem dX12_does_63 : decode cX12_does 63 = .ok (.lstore_n 2, 1) := by decide +kernel
theorem dX12_does_64 : decode cX12_does 64 = .ok (.aload_n 0, 1) := by decide +kernel
theorem dX12_does_65 : decode cX12_does 65 = .ok (.getfield 33, 3) := by decide +kernel
theorem dX12_does_68 : decode cX12_does 68 = .ok (.aload_n 0, 1) := by decide +kernel
theorem dX12_does_69 : decode cX12_does 69 = .ok (.getfield 245, 3) := by decide +kernel
theorem dX12_does_72 : decode cX12_does 72 = .ok (.iconst 1, 1) := by decide +kernel
theorem dX12_does_73 : decode cX12_does 73 = .ok (.iadd, 1) := by decide +kernel
theorem dX12_does_74 : decode cX12_does 74 = .ok (.laload, 1) := by decide +kernel
theorem dX12_does_75 : decode cX12_does 75 = .ok (.lstore 4, 2) := by decide +kernel
theorem dX12_does_77 : decode cX12_does 77 = .ok (.iload_n 1, 1) := by decide +kernel
theorem dX12_does_78 : decode cX12_does 78 = .ok (.lookupswitch 328 #[(42, 288), (43, 270), (45, 279), (60, 150), (61, 190), (62, 250), (256, 170), (257, 210), (258, 230), (261, 124), (262, 98)], 98) := by decide +kernel
theorem dX12_does_176 : decode cX12_does 176 = .ok (.aload_n 0, 1) := by decide +kernel
theorem dX12_does_177 : decode cX12_does 177 = .ok (.lload_n 2, 1) := by decide +kernel
theorem dX12_does_178 : decode cX12_does 178 = .ok (.lconst 0, 1) := by decide +kernel
theorem dX12_does_179 : decode cX12_does 179 = .ok (.lcmp, 1) := by decide +kernel
theorem dX12_does_180 : decode cX12_does 180 = .ok (.ifCond .ne 10, 3) := by decide +kernel
theorem dX12_does_183 : decode cX12_does 183 = .ok (.lload 4, 2) := by decide +kernel
theorem dX12_does_185 : decode cX12_does 185 = .ok (.lconst 0, 1) := by decide +kernel
theorem dX12_does_186 : decode cX12_does 186 = .ok (.lcmp, 1) := by decide +kernel
theorem dX12_does_187 : decode cX12_does 187 = .ok (.ifCond .eq 7, 3) := by decide +kernel
theorem dX12_does_190 : decode cX12_does 190 = .ok (.iconst 1, 1) := by decide +kernel
theorem dX12_does_191 : decode cX12_does 191 = .ok (.goto 4, 3) := by decide +kernel
theorem dX12_does_194 : decode cX12_does 194 = .ok (.iconst 0, 1) := by decide +kernel
theorem dX12_does_195 : decode cX12_does 195 = .ok (.invokestatic 252, 3) := by decide +kernel
theorem dX12_does_198 : decode cX12_does 198 = .ok (.invokevirtual 256, 3) := by decide +kernel
theorem dX12_does_201 : decode cX12_does 201 = .ok (.ireturn, 1) := by decide +kernel
theorem dX12_does_202 : decode cX12_does 202 = .ok (.aload_n 0, 1) := by decide +kernel
theorem dX12_does_203 : decode cX12_does 203 = .ok (.lload_n 2, 1) := by decide +kernel
theorem dX12_does_204 : decode cX12_does 204 = .ok (.lconst 0, 1) := by decide +kernel
theorem dX12_does_205 : decode cX12_does 205 = .ok (.lcmp, 1) := by decide +kernel
theorem dX12_does_206 : decode cX12_does 206 = .ok (.ifCond .eq 14, 3) := by decide +kernel
theorem dX12_does_209 : decode cX12_does 209 = .ok (.lload 4, 2) := by decide +kernel
theorem dX12_does_211 : decode cX12_does 211 = .ok (.lconst 0, 1) := by decide +kernel
theorem dX12_does_212 : decode cX12_does 212 = .ok (.lcmp, 1) := by decide +kernel
theorem dX12_does_213 : decode cX12_does 213 = .ok (.ifCond .eq 7, 3) := by decide +kernel
theorem dX12_does_216 : decode cX12_does 216 = .ok (.iconst 1, 1) := by decide +kernel
theorem dX12_does_217 : decode cX12_does 217 = .ok (.goto 4, 3) := by decide +kernel
theorem dX12_does_220 : decode cX12_does 220 = .ok (.iconst 0, 1) := by decide +kernel
theorem dX12_does_221 : decode cX12_does 221 = .ok (.invokestatic 252, 3) := by decide +kernel
theorem dX12_does_224 : decode cX12_does 224 = .ok (.invokevirtual 256, 3) := by decide +kernel
theorem dX12_does_227 : decode cX12_does 227 = .ok (.ireturn, 1) := by decide +kernel
theorem dX12_does_228 : decode cX12_does 228 = .ok (.aload_n 0, 1) := by decide +kernel
theorem dX12_does_229 : decode cX12_does 229 = .ok (.lload_n 2, 1) := by decide +kernel
theorem dX12_does_230 : decode cX12_does 230 = .ok (.lload 4, 2) := by decide +kernel
theorem dX12_does_232 : decode cX12_does 232 = .ok (.lcmp, 1) := by decide +kernel
theorem dX12_does_233 : decode cX12_does 233 = .ok (.ifCond .ge 7, 3) := by decide +kernel
theorem dX12_does_236 : decode cX12_does 236 = .ok (.iconst 1, 1) := by decide +kernel
theorem dX12_does_237 : decode cX12_does 237 = .ok (.goto 4, 3) := by decide +kernel
theorem dX12_does_240 : decode cX12_does 240 = .ok (.iconst 0, 1) := by decide +kernel
theorem dX12_does_241 : decode cX12_does 241 = .ok (.invokestatic 252, 3) := by decide +kernel
theorem dX12_does_244 : decode cX12_does 244 = .ok (.invokevirtual 256, 3) := by decide +kernel
theorem dX12_does_247 : decode cX12_does 247 = .ok (.ireturn, 1) := by decide +kernel
theorem dX12_does_248 : decode cX12_does 248 = .ok (.aload_n 0, 1) := by decide +kernel
theorem dX12_does_249 : decode cX12_does 249 = .ok (.lload_n 2, 1) := by decide +kernel
theorem dX12_does_250 : decode cX12_does 250 = .ok (.lload 4, 2) := by decide +kernel
theorem dX12_does_252 : decode cX12_does 252 = .ok (.lcmp, 1) := by decide +kernel
theorem dX12_does_253 : decode cX12_does 253 = .ok (.ifCond .gt 7, 3) := by decide +kernel
theorem dX12_does_256 : decode cX12_does 256 = .ok (.iconst 1, 1) := by decide +kernel
theorem dX12_does_257 : decode cX12_does 257 = .ok (.goto 4, 3) := by decide +kernel
theorem dX12_does_260 : decode cX12_does 260 = .ok (.iconst 0, 1) := by decide +kernel
theorem dX12_does_261 : decode cX12_does 261 = .ok (.invokestatic 252, 3) := by decide +kernel
theorem dX12_does_264 : decode cX12_does 264 = .ok (.invokevirtual 256, 3) := by decide +kernel
theorem dX12_does_267 : decode cX12_does 267 = .ok (.ireturn, 1) := by decide +kernel
theorem dX12_does_268 : decode cX12_does 268 = .ok (.aload_n 0, 1) := by decide +kernel
theorem dX12_does_269 : decode cX12_does 269 = .ok (.lload_n 2, 1) := by decide +kernel
theorem dX12_does_270 : decode cX12_does 270 = .ok (.lload 4, 2) := by decide +kernel
theorem dX12_does_272 : decode cX12_does 272 = .ok (.lcmp, 1) := by decide +kernel
theorem dX12_does_273 : decode cX12_does 273 = .ok (.ifCond .ne 7, 3) := by decide +kernel
theorem dX12_does_276 : decode cX12_does 276 = .ok (.iconst 1, 1) := by decide +kernel
theorem dX12_does_277 : decode cX12_does 277 = .ok (.goto 4, 3) := by decide +kernel
theorem dX12_does_280 : decode cX12_does 280 = .ok (.iconst 0, 1) := by decide +kernel
theorem dX12_does_281 : decode cX12_does 281 = .ok (.invokestatic 252, 3) := by decide +kernel
theorem dX12_does_284 : decode cX12_does 284 = .ok (.invokevirtual 256, 3) := by decide +kernel
theorem dX12_does_287 : decode cX12_does 287 = .ok (.ireturn, 1) := by decide +kernel
theorem dX12_does_288 : decode cX12_does 288 = .ok (.aload_n 0, 1) := by decide +kernel
theorem dX12_does_289 : decode cX12_does 289 = .ok (.lload_n 2, 1) := by decide +kernel
theorem dX12_does_290 : decode cX12_does 290 = .ok (.lload 4, 2) := by decide +kernel
theorem dX12_does_292 : decode cX12_does 292 = .ok (.lcmp, 1) := by decide +kernel
theorem dX12_does_293 : decode cX12_does 293 = .ok (.ifCond .eq 7, 3) := by decide +kernel
theorem dX12_does_296 : decode cX12_does 296 = .ok (.iconst 1, 1) := by decide +kernel
theorem dX12_does_297 : decode cX12_does 297 = .ok (.goto 4, 3) := by decide +kernel
theorem dX12_does_300 : decode cX12_does 300 = .ok (.iconst 0, 1) := by decide +kernel
theorem dX12_does_301 : decode cX12_does 301 = .ok (.invokestatic 252, 3) := by decide +kernel
theorem dX12_does_304 : decode cX12_does 304 = .ok (.invokevirtual 256, 3) := by decide +kernel
theorem dX12_does_307 : decode cX12_does 307 = .ok (.ireturn, 1) := by decide +kernel
theorem dX12_does_308 : decode cX12_does 308 = .ok (.aload_n 0, 1) := by decide +kernel
theorem dX12_does_309 : decode cX12_does 309 = .ok (.lload_n 2, 1) := by decide +kernel
theorem dX12_does_310 : decode cX12_does 310 = .ok (.lload 4, 2) := by decide +kernel
theorem dX12_does_312 : decode cX12_does 312 = .ok (.lcmp, 1) := by decide +kernel
theorem dX12_does_313 : decode cX12_does 313 = .ok (.ifCond .lt 7, 3) := by decide +kernel
theorem dX12_does_316 : decode cX12_does 316 = .ok (.iconst 1, 1) := by decide +kernel
theorem dX12_does_317 : decode cX12_does 317 = .ok (.goto 4, 3) := by decide +kernel
theorem dX12_does_320 : decode cX12_does 320 = .ok (.iconst 0, 1) := by decide +kernel
theorem dX12_does_321 : decode cX12_does 321 = .ok (.invokestatic 252, 3) := by decide +kernel
theorem dX12_does_324 : decode cX12_does 324 = .ok (.invokevirtual 256, 3) := by decide +kernel
theorem dX12_does_327 : decode cX12_does 327 = .ok (.ireturn, 1) := by decide +kernel
theorem dX12_does_328 : decode cX12_does 328 = .ok (.aload_n 0, 1) := by decide +kernel
theorem dX12_does_329 : decode cX12_does 329 = .ok (.lload_n 2, 1) := by decide +kernel
theorem dX12_does_330 : decode cX12_does 330 = .ok (.lload 4, 2) := by decide +kernel
theorem dX12_does_332 : decode cX12_does 332 = .ok (.lcmp, 1) := by decide +kernel
theorem dX12_does_333 : decode cX12_does 333 = .ok (.ifCond .le 7, 3) := by decide +kernel
theorem dX12_does_336 : decode cX12_does 336 = .ok (.iconst 1, 1) := by decide +kernel
theorem dX12_does_337 : decode cX12_does 337 = .ok (.goto 4, 3) := by decide +kernel
theorem dX12_does_340 : decode cX12_does 340 = .ok (.iconst 0, 1) := by decide +kernel
theorem dX12_does_341 : decode cX12_does 341 = .ok (.invokestatic 252, 3) := by decide +kernel
theorem dX12_does_344 : decode cX12_does 344 = .ok (.invokevirtual 256, 3) := by decide +kernel
theorem dX12_does_347 : decode cX12_does 347 = .ok (.ireturn, 1) := by decide +kernel
theorem dX12_does_348 : decode cX12_does 348 = .ok (.aload_n 0, 1) := by decide +kernel
theorem dX12_does_349 : decode cX12_does 349 = .ok (.lload_n 2, 1) := by decide +kernel
theorem dX12_does_350 : decode cX12_does 350 = .ok (.lload 4, 2) := by decide +kernel
theorem dX12_does_352 : decode cX12_does 352 = .ok (.ladd, 1) := by decide +kernel
theorem dX12_does_353 : decode cX12_does 353 = .ok (.invokevirtual 256, 3) := by decide +kernel
theorem dX12_does_356 : decode cX12_does 356 = .ok (.ireturn, 1) := by decide +kernel
theorem dX12_does_357 : decode cX12_does 357 = .ok (.aload_n 0, 1) := by decide +kernel
theorem dX12_does_358 : decode cX12_does 358 = .ok (.lload_n 2, 1) := by decide +kernel
theorem dX12_does_359 : decode cX12_does 359 = .ok (.lload 4, 2) := by decide +kernel
theorem dX12_does_361 : decode cX12_does 361 = .ok (.lsub, 1) := by decide +kernel
theorem dX12_does_362 : decode cX12_does 362 = .ok (.invokevirtual 256, 3) := by decide +kernel
theorem dX12_does_365 : decode cX12_does 365 = .ok (.ireturn, 1) := by decide +kernel
theorem dX12_does_366 : decode cX12_does 366 = .ok (.lload_n 2, 1) := by decide +kernel
theorem dX12_does_367 : decode cX12_does 367 = .ok (.lconst 0, 1) := by decide +kernel
theorem dX12_does_368 : decode cX12_does 368 = .ok (.lcmp, 1) := by decide +kernel
theorem dX12_does_369 : decode cX12_does 369 = .ok (.ifCond .eq 20, 3) := by decide +kernel
theorem dX12_does_372 : decode cX12_does 372 = .ok (.lload 4, 2) := by decide +kernel
theorem dX12_does_374 : decode cX12_does 374 = .ok (.invokestatic 260, 3) := by decide +kernel
theorem dX12_does_377 : decode cX12_does 377 = .ok (.ldc2_w 248, 3) := by decide +kernel
theorem dX12_does_380 : decode cX12_does 380 = .ok (.lload_n 2, 1) := by decide +kernel
theorem dX12_does_381 : decode cX12_does 381 = .ok (.invokestatic 260, 3) := by decide +kernel
theorem dX12_does_384 : decode cX12_does 384 = .ok (.ldiv, 1) := by decide +kernel
theorem dX12_does_385 : decode cX12_does 385 = .ok (.lcmp, 1) := by decide +kernel
theorem dX12_does_386 : decode cX12_does 386 = .ok (.ifCond .gt 18, 3) := by decide +kernel
theorem dX12_does_389 : decode cX12_does 389 = .ok (.aload_n 0, 1) := by decide +kernel
theorem dX12_does_390 : decode cX12_does 390 = .ok (.lload_n 2, 1) := by decide +kernel
theorem dX12_does_391 : decode cX12_does 391 = .ok (.lload 4, 2) := by decide +kernel
theorem dX12_does_393 : decode cX12_does 393 = .ok (.lmul, 1) := by decide +kernel
theorem dX12_does_394 : decode cX12_does 394 = .ok (.invokevirtual 256, 3) := by decide +kernel
theorem dX12_does_397 : decode cX12_does 397 = .ok (.ifCond .eq 7, 3) := by decide +kernel
theorem dX12_does_400 : decode cX12_does 400 = .ok (.iconst 1, 1) := by decide +kernel
theorem dX12_does_401 : decode cX12_does 401 = .ok (.goto 4, 3) := by decide +kernel
theorem dX12_does_404 : decode cX12_does 404 = .ok (.iconst 0, 1) := by decide +kernel
theorem dX12_does_405 : decode cX12_does 405 = .ok (.ireturn, 1) := by decide +kernel
theorem dX12_does_406 : decode cX12_does 406 = .ok (.lload 4, 2) := by decide +kernel
theorem dX12_does_408 : decode cX12_does 408 = .ok (.lconst 0, 1) := by decide +kernel
theorem dX12_does_409 : decode cX12_does 409 = .ok (.lcmp, 1) := by decide +kernel
theorem dX12_does_410 : decode cX12_does 410 = .ok (.ifCond .eq 18, 3) := by decide +kernel
theorem dX12_does_413 : decode cX12_does 413 = .ok (.aload_n 0, 1) := by decide +kernel
theorem dX12_does_414 : decode cX12_does 414 = .ok (.lload_n 2, 1) := by decide +kernel
theorem dX12_does_415 : decode cX12_does 415 = .ok (.lload 4, 2) := by decide +kernel
theorem dX12_does_417 : decode cX12_does 417 = .ok (.ldiv, 1) := by decide +kernel
theorem dX12_does_418 : decode cX12_does 418 = .ok (.invokevirtual 256, 3) := by decide +kernel
theorem dX12_does_421 : decode cX12_does 421 = .ok (.ifCond .eq 7, 3) := by decide +kernel
theorem dX12_does_424 : decode cX12_does 424 = .ok (.iconst 1, 1) := by decide +kernel
theorem dX12_does_425 : decode cX12_does 425 = .ok (.goto 4, 3) := by decide +kernel
theorem dX12_does_428 : decode cX12_does 428 = .ok (.iconst 0, 1) := by decide +kernel
theorem dX12_does_429 : decode cX12_does 429 = .ok (.ireturn, 1) := by decide +kernel
theorem dX12_isFirst_0 : decode cX12_isFirst 0 = .ok (.aload_n 0, 1) := by decide +kernel
theorem dX12_isFirst_1 : decode cX12_isFirst 1 = .ok (.getfield 238, 3) := by decide +kernel
theorem dX12_isFirst_4 : decode cX12_isFirst 4 = .ok (.ifCond .ne 25, 3) := by decide +kernel
theorem dX12_isFirst_7 : decode cX12_isFirst 7 = .ok (.aload_n 0, 1) := by decide +kernel
theorem dX12_isFirst_8 : decode cX12_isFirst 8 = .ok (.getfield 29, 3) := by decide +kernel
theorem dX12_isFirst_11 : decode cX12_isFirst 11 = .ok (.iconst 0, 1) := by decide +kernel
theorem dX12_isFirst_12 : decode cX12_isFirst 12 = .ok (.laload, 1) := by decide +kernel
theorem dX12_isFirst_13 : decode cX12_isFirst 13 = .ok (.aload_n 0, 1) := by decide +kernel
theorem dX12_isFirst_14 : decode cX12_isFirst 14 = .ok (.getfield 29, 3) := by decide +kernel
theorem dX12_isFirst_17 : decode cX12_isFirst 17 = .ok (.iconst 1, 1) := by decide +kernel
theorem dX12_isFirst_18 : decode cX12_isFirst 18 = .ok (.laload, 1) := by decide +kernel
theorem dX12_isFirst_19 : decode cX12_isFirst 19 = .ok (.lcmp, 1) := by decide +kernel
theorem dX12_isFirst_20 : decode cX12_isFirst 20 = .ok (.ifCond .le 7, 3) := by decide +kernel
theorem dX12_isFirst_23 : decode cX12_isFirst 23 = .ok (.iconst 1, 1) := by decide +kernel
theorem dX12_isFirst_24 : decode cX12_isFirst 24 = .ok (.goto 4, 3) := by decide +kernel
theorem dX12_isFirst_27 : decode cX12_isFirst 27 = .ok (.iconst 0, 1) := by decide +kernel
theorem dX12_isFirst_28 : decode cX12_isFirst 28 = .ok (.ireturn, 1) := by decide +kernel
theorem dX12_isFirst_29 : decode cX12_isFirst 29 = .ok (.aload_n 0, 1) := by decide +kernel
theorem dX12_isFirst_30 : decode cX12_isFirst 30 = .ok (.iconst 0, 1) := by decide +kernel
theorem dX12_isFirst_31 : decode cX12_isFirst 31 = .ok (.putfield 245, 3) := by decide +kernel
theorem dX12_isFirst_34 : decode cX12_isFirst 34 = .ok (.iconst 0, 1) := by decide +kernel
theorem dX12_isFirst_35 : decode cX12_isFirst 35 = .ok (.istore_n 1, 1) := by decide +kernel
theorem dX12_isFirst_36 : decode cX12_isFirst 36 = .ok (.iload_n 1, 1) := by decide +kernel
theorem dX12_isFirst_37 : decode cX12_isFirst 37 = .ok (.aload_n 0, 1) := by decide +kernel
theorem dX12_isFirst_38 : decode cX12_isFirst 38 = .ok (.getfield 235, 3) := by decide +kernel
theorem dX12_isFirst_41 : decode cX12_isFirst 41 = .ok (.if_icmp .ge 73, 3) := by decide +kernel
theorem dX12_isFirst_44 : decode cX12_isFirst 44 = .ok (.aload_n 0, 1) := by decide +kernel
theorem dX12_isFirst_45 : decode cX12_isFirst 45 = .ok (.getfield 13, 3) := by decide +kernel
theorem dX12_isFirst_48 : decode cX12_isFirst 48 = .ok (.iload_n 1, 1) := by decide +kernel
theorem dX12_isFirst_49 : decode cX12_isFirst 49 = .ok (.iaload, 1) := by decide +kernel
theorem dX12_isFirst_50 : decode cX12_isFirst 50 = .ok (.iconst 2, 1) := by decide +kernel
theorem dX12_isFirst_51 : decode cX12_isFirst 51 = .ok (.if_icmp .ne 16, 3) := by decide +kernel
theorem dX12_isFirst_54 : decode cX12_isFirst 54 = .ok (.aload_n 0, 1) := by decide +kernel
theorem dX12_isFirst_55 : decode cX12_isFirst 55 = .ok (.aload_n 0, 1) := by decide +kernel
theorem dX12_isFirst_56 : decode cX12_isFirst 56 = .ok (.getfield 16, 3) := by decide +kernel
theorem dX12_isFirst_59 : decode cX12_isFirst 59 = .ok (.iload_n 1, 1) := by decide +kernel
theorem dX12_isFirst_60 : decode cX12_isFirst 60 = .ok (.iaload, 1) := by decide +kernel
theorem dX12_isFirst_61 : decode cX12_isFirst 61 = .ok (.invokevirtual 266, 3) := by decide +kernel
theorem dX12_isFirst_64 : decode cX12_isFirst 64 = .ok (.goto 37, 3) := by decide +kernel
theorem dX12_isFirst_67 : decode cX12_isFirst 67 = .ok (.aload_n 0, 1) := by decide +kernel
theorem dX12_isFirst_68 : decode cX12_isFirst 68 = .ok (.aload_n 0, 1) := by decide +kernel
theorem dX12_isFirst_69 : decode cX12_isFirst 69 = .ok (.getfield 13, 3) := by decide +kernel
theorem dX12_isFirst_72 : decode cX12_isFirst 72 = .ok (.iload_n 1, 1) := by decide +kernel
theorem dX12_isFirst_73 : decode cX12_isFirst 73 = .ok (.iaload, 1) := by decide +kernel
theorem dX12_isFirst_74 : decode cX12_isFirst 74 = .ok (.ifCond .ne 13, 3) := by decide +kernel
theorem dX12_isFirst_77 : decode cX12_isFirst 77 = .ok (.aload_n 0, 1) := by decide +kernel
theorem dX12_isFirst_78 : decode cX12_isFirst 78 = .ok (.getfield 16, 3) := by decide +kernel
theorem dX12_isFirst_81 : decode cX12_isFirst 81 = .ok (.iload_n 1, 1) := by decide +kernel
theorem dX12_isFirst_82 : decode cX12_isFirst 82 = .ok (.iaload, 1) := by decide +kernel
theorem dX12_isFirst_83 : decode cX12_isFirst 83 = .ok (.i2l, 1) := by decide +kernel
theorem dX12_isFirst_84 : decode cX12_isFirst 84 = .ok (.goto 14, 3) := by decide +kernel
theorem dX12_isFirst_87 : decode cX12_isFirst 87 = .ok (.aload_n 0, 1) := by decide +kernel
theorem dX12_isFirst_88 : decode cX12_isFirst 88 = .ok (.getfield 29, 3) := by decide +kernel
theorem dX12_isFirst_91 : decode cX12_isFirst 91 = .ok (.aload_n 0, 1) := by decide +kernel
theorem dX12_isFirst_92 : decode cX12_isFirst 92 = .ok (.getfield 16, 3) := by decide +kernel
theorem dX12_isFirst_95 : decode cX12_isFirst 95 = .ok (.iload_n 1, 1) := by decide +kernel
theorem dX12_isFirst_96 : decode cX12_isFirst 96 = .ok (.iaload, 1) := by decide +kernel
theorem dX12_isFirst_97 : decode cX12_isFirst 97 = .ok (.laload, 1) := by decide +kernel
theorem dX12_isFirst_98 : decode cX12_isFirst 98 = .ok (.invokevirtual 256, 3) := by decide +kernel
theorem dX12_isFirst_101 : decode cX12_isFirst 101 = .ok (.istore_n 2, 1) := by decide +kernel
theorem dX12_isFirst_102 : decode cX12_isFirst 102 = .ok (.iload_n 2, 1) := by decide +kernel
theorem dX12_isFirst_103 : decode cX12_isFirst 103 = .ok (.ifCond .ne 5, 3) := by decide +kernel
theorem dX12_isFirst_106 : decode cX12_isFirst 106 = .ok (.iconst 0, 1) := by decide +kernel
theorem dX12_isFirst_107 : decode cX12_isFirst 107 = .ok (.ireturn, 1) := by decide +kernel
theorem dX12_isFirst_108 : decode cX12_isFirst 108 = .ok (.iinc 1 1, 3) := by decide +kernel
theorem dX12_isFirst_111 : decode cX12_isFirst 111 = .ok (.goto (-75), 3) := by decide +kernel
theorem dX12_isFirst_114 : decode cX12_isFirst 114 = .ok (.aload_n 0, 1) := by decide +kernel
theorem dX12_isFirst_115 : decode cX12_isFirst 115 = .ok (.getfield 33, 3) := by decide +kernel
theorem dX12_isFirst_118 : decode cX12_isFirst 118 = .ok (.iconst 0, 1) := by decide +kernel
theorem dX12_isFirst_119 : decode cX12_isFirst 119 = .ok (.laload, 1) := by decide +kernel
theorem dX12_isFirst_120 : decode cX12_isFirst 120 = .ok (.lconst 0, 1) := by decide +kernel
theorem dX12_isFirst_121 : decode cX12_isFirst 121 = .ok (.lcmp, 1) := by decide +kernel
theorem dX12_isFirst_122 : decode cX12_isFirst 122 = .ok (.ifCond .eq 7, 3) := by decide +kernel
theorem dX12_isFirst_125 : decode cX12_isFirst 125 = .ok (.iconst 1, 1) := by decide +kernel
theorem dX12_isFirst_126 : decode cX12_isFirst 126 = .ok (.goto 4, 3) := by decide +kernel
theorem dX12_isFirst_129 : decode cX12_isFirst 129 = .ok (.iconst 0, 1) := by decide +kernel
theorem dX12_isFirst_130 : decode cX12_isFirst 130 = .ok (.ireturn, 1) := by decide +kernel
theorem dX12_lays_0 : decode cX12_lays 0 = .ok (.aload_n 0, 1) := by decide +kernel
theorem dX12_lays_1 : decode cX12_lays 1 = .ok (.iload_n 1, 1) := by decide +kernel
theorem dX12_lays_2 : decode cX12_lays 2 = .ok (.putfield 269, 3) := by decide +kernel
theorem dX12_lays_5 : decode cX12_lays 5 = .ok (.aload_n 0, 1) := by decide +kernel
theorem dX12_lays_6 : decode cX12_lays 6 = .ok (.iload_n 2, 1) := by decide +kernel
theorem dX12_lays_7 : decode cX12_lays 7 = .ok (.putfield 272, 3) := by decide +kernel
theorem dX12_lays_10 : decode cX12_lays 10 = .ok (.aload_n 0, 1) := by decide +kernel
theorem dX12_lays_11 : decode cX12_lays 11 = .ok (.iconst 0, 1) := by decide +kernel
theorem dX12_lays_12 : decode cX12_lays 12 = .ok (.putfield 275, 3) := by decide +kernel
theorem dX12_lays_15 : decode cX12_lays 15 = .ok (.aload_n 0, 1) := by decide +kernel
theorem dX12_lays_16 : decode cX12_lays 16 = .ok (.iconst 0, 1) := by decide +kernel
theorem dX12_lays_17 : decode cX12_lays 17 = .ok (.putfield 278, 3) := by decide +kernel
theorem dX12_lays_20 : decode cX12_lays 20 = .ok (.aload_n 0, 1) := by decide +kernel
theorem dX12_lays_21 : decode cX12_lays 21 = .ok (.iconst 0, 1) := by decide +kernel
theorem dX12_lays_22 : decode cX12_lays 22 = .ok (.putfield 281, 3) := by decide +kernel
theorem dX12_lays_25 : decode cX12_lays 25 = .ok (.aload_n 0, 1) := by decide +kernel
theorem dX12_lays_26 : decode cX12_lays 26 = .ok (.iconst 0, 1) := by decide +kernel
theorem dX12_lays_27 : decode cX12_lays 27 = .ok (.putfield 284, 3) := by decide +kernel
theorem dX12_lays_30 : decode cX12_lays 30 = .ok (.iconst 0, 1) := by decide +kernel
theorem dX12_lays_31 : decode cX12_lays 31 = .ok (.istore_n 3, 1) := by decide +kernel
theorem dX12_lays_32 : decode cX12_lays 32 = .ok (.iload_n 3, 1) := by decide +kernel
theorem dX12_lays_33 : decode cX12_lays 33 = .ok (.bipush 25, 2) := by decide +kernel
theorem dX12_lays_35 : decode cX12_lays 35 = .ok (.if_icmp .ge 30, 3) := by decide +kernel
theorem dX12_lays_38 : decode cX12_lays 38 = .ok (.aload_n 0, 1) := by decide +kernel
theorem dX12_lays_39 : decode cX12_lays 39 = .ok (.getfield 36, 3) := by decide +kernel
theorem dX12_lays_42 : decode cX12_lays 42 = .ok (.iload_n 3, 1) := by decide +kernel
theorem dX12_lays_43 : decode cX12_lays 43 = .ok (.iconst 0, 1) := by decide +kernel
theorem dX12_lays_44 : decode cX12_lays 44 = .ok (.iastore, 1) := by decide +kernel
theorem dX12_lays_45 : decode cX12_lays 45 = .ok (.aload_n 0, 1) := by decide +kernel
theorem dX12_lays_46 : decode cX12_lays 46 = .ok (.getfield 39, 3) := by decide +kernel
theorem dX12_lays_49 : decode cX12_lays 49 = .ok (.iload_n 3, 1) := by decide +kernel
theorem dX12_lays_50 : decode cX12_lays 50 = .ok (.iconst (-1), 1) := by decide +kernel
theorem dX12_lays_51 : decode cX12_lays 51 = .ok (.iastore, 1) := by decide +kernel
theorem dX12_lays_52 : decode cX12_lays 52 = .ok (.aload_n 0, 1) := by decide +kernel
theorem dX12_lays_53 : decode cX12_lays 53 = .ok (.getfield 42, 3) := by decide +kernel
theorem dX12_lays_56 : decode cX12_lays 56 = .ok (.iload_n 3, 1) := by decide +kernel
theorem dX12_lays_57 : decode cX12_lays 57 = .ok (.iconst 0, 1) := by decide +kernel
theorem dX12_lays_58 : decode cX12_lays 58 = .ok (.bastore, 1) := by decide +kernel
theorem dX12_lays_59 : decode cX12_lays 59 = .ok (.iinc 3 1, 3) := by decide +kernel
theorem dX12_lays_62 : decode cX12_lays 62 = .ok (.goto (-30), 3) := by decide +kernel
theorem dX12_lays_65 : decode cX12_lays 65 = .ok (.return_, 1) := by decide +kernel
theorem dX12_land_0 : decode cX12_land 0 = .ok (.aload_n 0, 1) := by decide +kernel
theorem dX12_land_1 : decode cX12_land 1 = .ok (.iconst 0, 1) := by decide +kernel
theorem dX12_land_2 : decode cX12_land 2 = .ok (.putfield 110, 3) := by decide +kernel
theorem dX12_land_5 : decode cX12_land 5 = .ok (.iload_n 1, 1) := by decide +kernel
theorem dX12_land_6 : decode cX12_land 6 = .ok (.iconst 2, 1) := by decide +kernel
theorem dX12_land_7 : decode cX12_land 7 = .ok (.if_icmp .lt 18, 3) := by decide +kernel
theorem dX12_land_10 : decode cX12_land 10 = .ok (.iload_n 1, 1) := by decide +kernel
theorem dX12_land_11 : decode cX12_land 11 = .ok (.iconst 5, 1) := by decide +kernel
theorem dX12_land_12 : decode cX12_land 12 = .ok (.if_icmp .gt 13, 3) := by decide +kernel
theorem dX12_land_15 : decode cX12_land 15 = .ok (.iload_n 2, 1) := by decide +kernel
theorem dX12_land_16 : decode cX12_land 16 = .ok (.iconst 2, 1) := by decide +kernel
theorem dX12_land_17 : decode cX12_land 17 = .ok (.if_icmp .lt 8, 3) := by decide +kernel
theorem dX12_land_20 : decode cX12_land 20 = .ok (.iload_n 2, 1) := by decide +kernel
theorem dX12_land_21 : decode cX12_land 21 = .ok (.iconst 5, 1) := by decide +kernel
theorem dX12_land_22 : decode cX12_land 22 = .ok (.if_icmp .le 5, 3) := by decide +kernel
theorem dX12_land_25 : decode cX12_land 25 = .ok (.iconst 0, 1) := by decide +kernel
theorem dX12_land_26 : decode cX12_land 26 = .ok (.ireturn, 1) := by decide +kernel
theorem dX12_land_27 : decode cX12_land 27 = .ok (.aload_n 0, 1) := by decide +kernel
theorem dX12_land_28 : decode cX12_land 28 = .ok (.iload_n 1, 1) := by decide +kernel
theorem dX12_land_29 : decode cX12_land 29 = .ok (.iload_n 2, 1) := by decide +kernel
theorem dX12_land_30 : decode cX12_land 30 = .ok (.invokevirtual 106, 3) := by decide +kernel
theorem dX12_land_33 : decode cX12_land 33 = .ok (.iconst 1, 1) := by decide +kernel
theorem dX12_land_34 : decode cX12_land 34 = .ok (.ireturn, 1) := by decide +kernel
theorem dX12_cells_0 : decode cX12_cells 0 = .ok (.aload_n 0, 1) := by decide +kernel
theorem dX12_cells_1 : decode cX12_cells 1 = .ok (.getfield 269, 3) := by decide +kernel
theorem dX12_cells_4 : decode cX12_cells 4 = .ok (.aload_n 0, 1) := by decide +kernel
theorem dX12_cells_5 : decode cX12_cells 5 = .ok (.getfield 272, 3) := by decide +kernel
theorem dX12_cells_8 : decode cX12_cells 8 = .ok (.imul, 1) := by decide +kernel
theorem dX12_cells_9 : decode cX12_cells 9 = .ok (.ireturn, 1) := by decide +kernel
theorem dX12_isVillage_0 : decode cX12_isVillage 0 = .ok (.iload_n 1, 1) := by decide +kernel
theorem dX12_isVillage_1 : decode cX12_isVillage 1 = .ok (.ifCond .lt 15, 3) := by decide +kernel
theorem dX12_isVillage_4 : decode cX12_isVillage 4 = .ok (.iload_n 1, 1) := by decide +kernel
theorem dX12_isVillage_5 : decode cX12_isVillage 5 = .ok (.aload_n 0, 1) := by decide +kernel
theorem dX12_isVillage_6 : decode cX12_isVillage 6 = .ok (.invokevirtual 287, 3) := by decide +kernel
theorem dX12_isVillage_9 : decode cX12_isVillage 9 = .ok (.if_icmp .ge 7, 3) := by decide +kernel
theorem dX12_isVillage_12 : decode cX12_isVillage 12 = .ok (.iconst 1, 1) := by decide +kernel
theorem dX12_isVillage_13 : decode cX12_isVillage 13 = .ok (.goto 4, 3) := by decide +kernel
theorem dX12_isVillage_16 : decode cX12_isVillage 16 = .ok (.iconst 0, 1) := by decide +kernel
theorem dX12_isVillage_17 : decode cX12_isVillage 17 = .ok (.ireturn, 1) := by decide +kernel
theorem dX12_isDay_0 : decode cX12_isDay 0 = .ok (.iload_n 0, 1) := by decide +kernel
theorem dX12_isDay_1 : decode cX12_isDay 1 = .ok (.ifCond .lt 14, 3) := by decide +kernel
theorem dX12_isDay_4 : decode cX12_isDay 4 = .ok (.iload_n 0, 1) := by decide +kernel
theorem dX12_isDay_5 : decode cX12_isDay 5 = .ok (.sipush 999, 3) := by decide +kernel
theorem dX12_isDay_8 : decode cX12_isDay 8 = .ok (.if_icmp .gt 7, 3) := by decide +kernel
theorem dX12_isDay_11 : decode cX12_isDay 11 = .ok (.iconst 1, 1) := by decide +kernel
theorem dX12_isDay_12 : decode cX12_isDay 12 = .ok (.goto 4, 3) := by decide +kernel
theorem dX12_isDay_15 : decode cX12_isDay 15 = .ok (.iconst 0, 1) := by decide +kernel
theorem dX12_isDay_16 : decode cX12_isDay 16 = .ok (.ireturn, 1) := by decide +kernel
theorem dX12_isLine_0 : decode cX12_isLine 0 = .ok (.iload_n 1, 1) := by decide +kernel
theorem dX12_isLine_1 : decode cX12_isLine 1 = .ok (.ifCond .lt 17, 3) := by decide +kernel
theorem dX12_isLine_4 : decode cX12_isLine 4 = .ok (.iload_n 1, 1) := by decide +kernel
theorem dX12_isLine_5 : decode cX12_isLine 5 = .ok (.iconst 1, 1) := by decide +kernel
theorem dX12_isLine_6 : decode cX12_isLine 6 = .ok (.aload_n 0, 1) := by decide +kernel
theorem dX12_isLine_7 : decode cX12_isLine 7 = .ok (.invokevirtual 287, 3) := by decide +kernel
theorem dX12_isLine_10 : decode cX12_isLine 10 = .ok (.ishl, 1) := by decide +kernel
theorem dX12_isLine_11 : decode cX12_isLine 11 = .ok (.if_icmp .ge 7, 3) := by decide +kernel
theorem dX12_isLine_14 : decode cX12_isLine 14 = .ok (.iconst 1, 1) := by decide +kernel
theorem dX12_isLine_15 : decode cX12_isLine 15 = .ok (.goto 4, 3) := by decide +kernel
theorem dX12_isLine_18 : decode cX12_isLine 18 = .ok (.iconst 0, 1) := by decide +kernel
theorem dX12_isLine_19 : decode cX12_isLine 19 = .ok (.ireturn, 1) := by decide +kernel
theorem dX12_isDraft_0 : decode cX12_isDraft 0 = .ok (.iload_n 1, 1) := by decide +kernel
theorem dX12_isDraft_1 : decode cX12_isDraft 1 = .ok (.ifCond .lt 15, 3) := by decide +kernel
theorem dX12_isDraft_4 : decode cX12_isDraft 4 = .ok (.iload_n 1, 1) := by decide +kernel
theorem dX12_isDraft_5 : decode cX12_isDraft 5 = .ok (.aload_n 0, 1) := by decide +kernel
theorem dX12_isDraft_6 : decode cX12_isDraft 6 = .ok (.getfield 278, 3) := by decide +kernel
theorem dX12_isDraft_9 : decode cX12_isDraft 9 = .ok (.if_icmp .ge 7, 3) := by decide +kernel
theorem dX12_isDraft_12 : decode cX12_isDraft 12 = .ok (.iconst 1, 1) := by decide +kernel
theorem dX12_isDraft_13 : decode cX12_isDraft 13 = .ok (.goto 4, 3) := by decide +kernel
theorem dX12_isDraft_16 : decode cX12_isDraft 16 = .ok (.iconst 0, 1) := by decide +kernel
theorem dX12_isDraft_17 : decode cX12_isDraft 17 = .ok (.ireturn, 1) := by decide +kernel
theorem dX12_isPerson_0 : decode cX12_isPerson 0 = .ok (.iload_n 0, 1) := by decide +kernel
theorem dX12_isPerson_1 : decode cX12_isPerson 1 = .ok (.ifCond .lt 13, 3) := by decide +kernel
theorem dX12_isPerson_4 : decode cX12_isPerson 4 = .ok (.iload_n 0, 1) := by decide +kernel
theorem dX12_isPerson_5 : decode cX12_isPerson 5 = .ok (.bipush 8, 2) := by decide +kernel
theorem dX12_isPerson_7 : decode cX12_isPerson 7 = .ok (.if_icmp .ge 7, 3) := by decide +kernel
theorem dX12_isPerson_10 : decode cX12_isPerson 10 = .ok (.iconst 1, 1) := by decide +kernel
theorem dX12_isPerson_11 : decode cX12_isPerson 11 = .ok (.goto 4, 3) := by decide +kernel
theorem dX12_isPerson_14 : decode cX12_isPerson 14 = .ok (.iconst 0, 1) := by decide +kernel
theorem dX12_isPerson_15 : decode cX12_isPerson 15 = .ok (.ireturn, 1) := by decide +kernel
theorem dX12_days_0 : decode cX12_days 0 = .ok (.aload_n 0, 1) := by decide +kernel
theorem dX12_days_1 : decode cX12_days 1 = .ok (.iconst 0, 1) := by decide +kernel
theorem dX12_days_2 : decode cX12_days 2 = .ok (.putfield 110, 3) := by decide +kernel
theorem dX12_days_5 : decode cX12_days 5 = .ok (.iload_n 1, 1) := by decide +kernel
theorem dX12_days_6 : decode cX12_days 6 = .ok (.ifCond .lt 22, 3) := by decide +kernel
theorem dX12_days_9 : decode cX12_days 9 = .ok (.iload_n 1, 1) := by decide +kernel
theorem dX12_days_10 : decode cX12_days 10 = .ok (.sipush 999, 3) := by decide +kernel
theorem dX12_days_13 : decode cX12_days 13 = .ok (.if_icmp .gt 15, 3) := by decide +kernel
theorem dX12_days_16 : decode cX12_days 16 = .ok (.aload_n 0, 1) := by decide +kernel
theorem dX12_days_17 : decode cX12_days 17 = .ok (.getfield 290, 3) := by decide +kernel
theorem dX12_days_20 : decode cX12_days 20 = .ok (.iload_n 1, 1) := by decide +kernel
theorem dX12_days_21 : decode cX12_days 21 = .ok (.iadd, 1) := by decide +kernel
theorem dX12_days_22 : decode cX12_days 22 = .ok (.sipush 999, 3) := by decide +kernel
theorem dX12_days_25 : decode cX12_days 25 = .ok (.if_icmp .le 5, 3) := by decide +kernel
theorem dX12_days_28 : decode cX12_days 28 = .ok (.iconst (-1), 1) := by decide +kernel
theorem dX12_days_29 : decode cX12_days 29 = .ok (.ireturn, 1) := by decide +kernel
theorem dX12_days_30 : decode cX12_days 30 = .ok (.aload_n 0, 1) := by decide +kernel
theorem dX12_days_31 : decode cX12_days 31 = .ok (.dup, 1) := by decide +kernel
theorem dX12_days_32 : decode cX12_days 32 = .ok (.getfield 290, 3) := by decide +kernel
theorem dX12_days_35 : decode cX12_days 35 = .ok (.iload_n 1, 1) := by decide +kernel
theorem dX12_days_36 : decode cX12_days 36 = .ok (.iadd, 1) := by decide +kernel
theorem dX12_days_37 : decode cX12_days 37 = .ok (.putfield 290, 3) := by decide +kernel
theorem dX12_days_40 : decode cX12_days 40 = .ok (.aload_n 0, 1) := by decide +kernel
theorem dX12_days_41 : decode cX12_days 41 = .ok (.getfield 290, 3) := by decide +kernel
theorem dX12_days_44 : decode cX12_days 44 = .ok (.ireturn, 1) := by decide +kernel
theorem dX12_does__0 : decode cX12_does_ 0 = .ok (.aload_n 0, 1) := by decide +kernel
theorem dX12_does__1 : decode cX12_does_ 1 = .ok (.iconst 0, 1) := by decide +kernel
theorem dX12_does__2 : decode cX12_does_ 2 = .ok (.putfield 110, 3) := by decide +kernel
theorem dX12_does__5 : decode cX12_does_ 5 = .ok (.aload_n 0, 1) := by decide +kernel
theorem dX12_does__6 : decode cX12_does_ 6 = .ok (.iload_n 1, 1) := by decide +kernel
theorem dX12_does__7 : decode cX12_does_ 7 = .ok (.invokevirtual 349, 3) := by decide +kernel
theorem dX12_does__10 : decode cX12_does_ 10 = .ok (.ifCond .eq 10, 3) := by decide +kernel
theorem dX12_does__13 : decode cX12_does_ 13 = .ok (.iload_n 2, 1) := by decide +kernel
theorem dX12_does__14 : decode cX12_does_ 14 = .ok (.invokestatic 325, 3) := by decide +kernel
theorem dX12_does__17 : decode cX12_does_ 17 = .ok (.ifCond .ne 5, 3) := by decide +kernel
theorem dX12_does__20 : decode cX12_does_ 20 = .ok (.iconst (-1), 1) := by decide +kernel
theorem dX12_does__21 : decode cX12_does_ 21 = .ok (.ireturn, 1) := by decide +kernel
theorem dX12_does__22 : decode cX12_does_ 22 = .ok (.aload_n 0, 1) := by decide +kernel
theorem dX12_does__23 : decode cX12_does_ 23 = .ok (.iload_n 2, 1) := by decide +kernel
theorem dX12_does__24 : decode cX12_does_ 24 = .ok (.invokevirtual 340, 3) := by decide +kernel
theorem dX12_does__27 : decode cX12_does_ 27 = .ok (.iload_n 3, 1) := by decide +kernel
theorem dX12_does__28 : decode cX12_does_ 28 = .ok (.tableswitch 93 0 6 #[44, 50, 56, 69, 75, 81, 87], 44) := by decide +kernel
theorem dX12_does__72 : decode cX12_does_ 72 = .ok (.aload_n 0, 1) := by decide +kernel
theorem dX12_does__73 : decode cX12_does_ 73 = .ok (.iload_n 1, 1) := by decide +kernel
theorem dX12_does__74 : decode cX12_does_ 74 = .ok (.invokevirtual 360, 3) := by decide +kernel
theorem dX12_does__77 : decode cX12_does_ 77 = .ok (.ireturn, 1) := by decide +kernel
theorem dX12_does__78 : decode cX12_does_ 78 = .ok (.aload_n 0, 1) := by decide +kernel
theorem dX12_does__79 : decode cX12_does_ 79 = .ok (.iload_n 1, 1) := by decide +kernel
theorem dX12_does__80 : decode cX12_does_ 80 = .ok (.invokevirtual 372, 3) := by decide +kernel
theorem dX12_does__83 : decode cX12_does_ 83 = .ok (.ireturn, 1) := by decide +kernel
theorem dX12_does__84 : decode cX12_does_ 84 = .ok (.aload_n 0, 1) := by decide +kernel
theorem dX12_does__85 : decode cX12_does_ 85 = .ok (.aload_n 0, 1) := by decide +kernel
theorem dX12_does__86 : decode cX12_does_ 86 = .ok (.invokevirtual 375, 3) := by decide +kernel
theorem dX12_does__89 : decode cX12_does_ 89 = .ok (.iload_n 1, 1) := by decide +kernel
theorem dX12_does__90 : decode cX12_does_ 90 = .ok (.iconst (-1), 1) := by decide +kernel
theorem dX12_does__91 : decode cX12_does_ 91 = .ok (.ixor, 1) := by decide +kernel
theorem dX12_does__92 : decode cX12_does_ 92 = .ok (.iand, 1) := by decide +kernel
theorem dX12_does__93 : decode cX12_does_ 93 = .ok (.invokevirtual 372, 3) := by decide +kernel
theorem dX12_does__96 : decode cX12_does_ 96 = .ok (.ireturn, 1) := by decide +kernel
theorem dX12_does__97 : decode cX12_does_ 97 = .ok (.aload_n 0, 1) := by decide +kernel
theorem dX12_does__98 : decode cX12_does_ 98 = .ok (.iload_n 1, 1) := by decide +kernel
theorem dX12_does__99 : decode cX12_does_ 99 = .ok (.invokevirtual 369, 3) := by decide +kernel
theorem dX12_does__102 : decode cX12_does_ 102 = .ok (.ireturn, 1) := by decide +kernel
theorem dX12_does__103 : decode cX12_does_ 103 = .ok (.aload_n 0, 1) := by decide +kernel
theorem dX12_does__104 : decode cX12_does_ 104 = .ok (.iload_n 1, 1) := by decide +kernel
theorem dX12_does__105 : decode cX12_does_ 105 = .ok (.invokevirtual 366, 3) := by decide +kernel
theorem dX12_does__108 : decode cX12_does_ 108 = .ok (.ireturn, 1) := by decide +kernel
theorem dX12_does__109 : decode cX12_does_ 109 = .ok (.aload_n 0, 1) := by decide +kernel
theorem dX12_does__110 : decode cX12_does_ 110 = .ok (.iload_n 1, 1) := by decide +kernel
theorem dX12_does__111 : decode cX12_does_ 111 = .ok (.invokevirtual 363, 3) := by decide +kernel
theorem dX12_does__114 : decode cX12_does_ 114 = .ok (.ireturn, 1) := by decide +kernel
theorem dX12_does__115 : decode cX12_does_ 115 = .ok (.aload_n 0, 1) := by decide +kernel
theorem dX12_does__116 : decode cX12_does_ 116 = .ok (.iload_n 1, 1) := by decide +kernel
theorem dX12_does__117 : decode cX12_does_ 117 = .ok (.invokevirtual 378, 3) := by decide +kernel
theorem dX12_does__120 : decode cX12_does_ 120 = .ok (.ireturn, 1) := by decide +kernel
theorem dX12_does__121 : decode cX12_does_ 121 = .ok (.iconst (-1), 1) := by decide +kernel
theorem dX12_does__122 : decode cX12_does_ 122 = .ok (.ireturn, 1) := by decide +kernel
