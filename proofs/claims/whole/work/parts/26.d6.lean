theorem dX6_init_0 : decode cX6_init 0 = .ok (.aload_n 0, 1) := by decide +kernel
theorem dX6_init_1 : decode cX6_init 1 = .ok (.invokespecial 3, 3) := by decide +kernel
theorem dX6_init_4 : decode cX6_init 4 = .ok (.aload_n 0, 1) := by decide +kernel
theorem dX6_init_5 : decode cX6_init 5 = .ok (.iconst (-1), 1) := by decide +kernel
theorem dX6_init_6 : decode cX6_init 6 = .ok (.putfield 9, 3) := by decide +kernel
theorem dX6_init_9 : decode cX6_init 9 = .ok (.aload_n 0, 1) := by decide +kernel
theorem dX6_init_10 : decode cX6_init 10 = .ok (.sipush 400, 3) := by decide +kernel
theorem dX6_init_13 : decode cX6_init 13 = .ok (.newarray .int, 2) := by decide +kernel
theorem dX6_init_15 : decode cX6_init 15 = .ok (.putfield 15, 3) := by decide +kernel
theorem dX6_init_18 : decode cX6_init 18 = .ok (.return_, 1) := by decide +kernel
theorem dX6_hasRoom_0 : decode cX6_hasRoom 0 = .ok (.aload_n 0, 1) := by decide +kernel
theorem dX6_hasRoom_1 : decode cX6_hasRoom 1 = .ok (.getfield 19, 3) := by decide +kernel
theorem dX6_hasRoom_4 : decode cX6_hasRoom 4 = .ok (.bipush 20, 2) := by decide +kernel
theorem dX6_hasRoom_6 : decode cX6_hasRoom 6 = .ok (.iadd, 1) := by decide +kernel
theorem dX6_hasRoom_7 : decode cX6_hasRoom 7 = .ok (.sipush 400, 3) := by decide +kernel
theorem dX6_hasRoom_10 : decode cX6_hasRoom 10 = .ok (.if_icmp .gt 7, 3) := by decide +kernel
theorem dX6_hasRoom_13 : decode cX6_hasRoom 13 = .ok (.iconst 1, 1) := by decide +kernel
theorem dX6_hasRoom_14 : decode cX6_hasRoom 14 = .ok (.goto 4, 3) := by decide +kernel
theorem dX6_hasRoom_17 : decode cX6_hasRoom 17 = .ok (.iconst 0, 1) := by decide +kernel
theorem dX6_hasRoom_18 : decode cX6_hasRoom 18 = .ok (.ireturn, 1) := by decide +kernel
theorem dX6_store_0 : decode cX6_store 0 = .ok (.bipush 24, 2) := by decide +kernel
theorem dX6_store_2 : decode cX6_store 2 = .ok (.istore_n 2, 1) := by decide +kernel
theorem dX6_store_3 : decode cX6_store 3 = .ok (.iload_n 2, 1) := by decide +kernel
theorem dX6_store_4 : decode cX6_store 4 = .ok (.ifCond .lt 45, 3) := by decide +kernel
theorem dX6_store_7 : decode cX6_store 7 = .ok (.aload_n 0, 1) := by decide +kernel
theorem dX6_store_8 : decode cX6_store 8 = .ok (.getfield 19, 3) := by decide +kernel
theorem dX6_store_11 : decode cX6_store 11 = .ok (.sipush 400, 3) := by decide +kernel
theorem dX6_store_14 : decode cX6_store 14 = .ok (.if_icmp .ge 35, 3) := by decide +kernel
theorem dX6_store_17 : decode cX6_store 17 = .ok (.aload_n 0, 1) := by decide +kernel
theorem dX6_store_18 : decode cX6_store 18 = .ok (.getfield 15, 3) := by decide +kernel
theorem dX6_store_21 : decode cX6_store 21 = .ok (.aload_n 0, 1) := by decide +kernel
theorem dX6_store_22 : decode cX6_store 22 = .ok (.getfield 19, 3) := by decide +kernel
theorem dX6_store_25 : decode cX6_store 25 = .ok (.iload_n 1, 1) := by decide +kernel
theorem dX6_store_26 : decode cX6_store 26 = .ok (.iload_n 2, 1) := by decide +kernel
theorem dX6_store_27 : decode cX6_store 27 = .ok (.iushr, 1) := by decide +kernel
theorem dX6_store_28 : decode cX6_store 28 = .ok (.sipush 255, 3) := by decide +kernel
theorem dX6_store_31 : decode cX6_store 31 = .ok (.iand, 1) := by decide +kernel
theorem dX6_store_32 : decode cX6_store 32 = .ok (.iastore, 1) := by decide +kernel
theorem dX6_store_33 : decode cX6_store 33 = .ok (.aload_n 0, 1) := by decide +kernel
theorem dX6_store_34 : decode cX6_store 34 = .ok (.dup, 1) := by decide +kernel
theorem dX6_store_35 : decode cX6_store 35 = .ok (.getfield 19, 3) := by decide +kernel
theorem dX6_store_38 : decode cX6_store 38 = .ok (.iconst 1, 1) := by decide +kernel
theorem dX6_store_39 : decode cX6_store 39 = .ok (.iadd, 1) := by decide +kernel
theorem dX6_store_40 : decode cX6_store 40 = .ok (.putfield 19, 3) := by decide +kernel
theorem dX6_store_43 : decode cX6_store 43 = .ok (.iinc 2 (-8), 3) := by decide +kernel
theorem dX6_store_46 : decode cX6_store 46 = .ok (.goto (-43), 3) := by decide +kernel
theorem dX6_store_49 : decode cX6_store 49 = .ok (.return_, 1) := by decide +kernel
theorem dX6_read_0 : decode cX6_read 0 = .ok (.aload_n 0, 1) := by decide +kernel
theorem dX6_read_1 : decode cX6_read 1 = .ok (.aload_n 2, 1) := by decide +kernel
theorem dX6_read_2 : decode cX6_read 2 = .ok (.putfield 22, 3) := by decide +kernel
theorem dX6_read_5 : decode cX6_read 5 = .ok (.aload_n 0, 1) := by decide +kernel
theorem dX6_read_6 : decode cX6_read 6 = .ok (.getfield 22, 3) := by decide +kernel
theorem dX6_read_9 : decode cX6_read 9 = .ok (.invokevirtual 26, 3) := by decide +kernel
theorem dX6_read_12 : decode cX6_read 12 = .ok (.aload_n 0, 1) := by decide +kernel
theorem dX6_read_13 : decode cX6_read 13 = .ok (.iload_n 1, 1) := by decide +kernel
theorem dX6_read_14 : decode cX6_read 14 = .ok (.aload_n 0, 1) := by decide +kernel
theorem dX6_read_15 : decode cX6_read 15 = .ok (.getfield 19, 3) := by decide +kernel
theorem dX6_read_18 : decode cX6_read 18 = .ok (.invokestatic 31, 3) := by decide +kernel
theorem dX6_read_21 : decode cX6_read 21 = .ok (.putfield 37, 3) := by decide +kernel
theorem dX6_read_24 : decode cX6_read 24 = .ok (.aload_n 0, 1) := by decide +kernel
theorem dX6_read_25 : decode cX6_read 25 = .ok (.iconst 0, 1) := by decide +kernel
theorem dX6_read_26 : decode cX6_read 26 = .ok (.putfield 40, 3) := by decide +kernel
theorem dX6_read_29 : decode cX6_read 29 = .ok (.aload_n 0, 1) := by decide +kernel
theorem dX6_read_30 : decode cX6_read 30 = .ok (.iconst 0, 1) := by decide +kernel
theorem dX6_read_31 : decode cX6_read 31 = .ok (.putfield 43, 3) := by decide +kernel
theorem dX6_read_34 : decode cX6_read 34 = .ok (.aload_n 0, 1) := by decide +kernel
theorem dX6_read_35 : decode cX6_read 35 = .ok (.iconst (-1), 1) := by decide +kernel
theorem dX6_read_36 : decode cX6_read 36 = .ok (.putfield 9, 3) := by decide +kernel
theorem dX6_read_39 : decode cX6_read 39 = .ok (.aload_n 0, 1) := by decide +kernel
theorem dX6_read_40 : decode cX6_read 40 = .ok (.iconst 0, 1) := by decide +kernel
theorem dX6_read_41 : decode cX6_read 41 = .ok (.putfield 46, 3) := by decide +kernel
theorem dX6_read_44 : decode cX6_read 44 = .ok (.aload_n 0, 1) := by decide +kernel
theorem dX6_read_45 : decode cX6_read 45 = .ok (.iconst 0, 1) := by decide +kernel
theorem dX6_read_46 : decode cX6_read 46 = .ok (.putfield 49, 3) := by decide +kernel
theorem dX6_read_49 : decode cX6_read 49 = .ok (.aload_n 0, 1) := by decide +kernel
theorem dX6_read_50 : decode cX6_read 50 = .ok (.iconst 0, 1) := by decide +kernel
theorem dX6_read_51 : decode cX6_read 51 = .ok (.putfield 19, 3) := by decide +kernel
theorem dX6_read_54 : decode cX6_read 54 = .ok (.aload_n 0, 1) := by decide +kernel
theorem dX6_read_55 : decode cX6_read 55 = .ok (.invokevirtual 52, 3) := by decide +kernel
theorem dX6_read_58 : decode cX6_read 58 = .ok (.iconst 0, 1) := by decide +kernel
theorem dX6_read_59 : decode cX6_read 59 = .ok (.istore_n 3, 1) := by decide +kernel
theorem dX6_read_60 : decode cX6_read 60 = .ok (.iload_n 3, 1) := by decide +kernel
theorem dX6_read_61 : decode cX6_read 61 = .ok (.bipush 7, 2) := by decide +kernel
theorem dX6_read_63 : decode cX6_read 63 = .ok (.if_icmp .gt 36, 3) := by decide +kernel
theorem dX6_read_66 : decode cX6_read 66 = .ok (.aload_n 0, 1) := by decide +kernel
theorem dX6_read_67 : decode cX6_read 67 = .ok (.getfield 55, 3) := by decide +kernel
theorem dX6_read_70 : decode cX6_read 70 = .ok (.bipush 34, 2) := by decide +kernel
theorem dX6_read_72 : decode cX6_read 72 = .ok (.if_icmp .eq 27, 3) := by decide +kernel
theorem dX6_read_75 : decode cX6_read 75 = .ok (.aload_n 0, 1) := by decide +kernel
theorem dX6_read_76 : decode cX6_read 76 = .ok (.invokevirtual 60, 3) := by decide +kernel
theorem dX6_read_79 : decode cX6_read 79 = .ok (.ifCond .eq 12, 3) := by decide +kernel
theorem dX6_read_82 : decode cX6_read 82 = .ok (.aload_n 0, 1) := by decide +kernel
theorem dX6_read_83 : decode cX6_read 83 = .ok (.bipush 33, 2) := by decide +kernel
theorem dX6_read_85 : decode cX6_read 85 = .ok (.invokevirtual 64, 3) := by decide +kernel
theorem dX6_read_88 : decode cX6_read 88 = .ok (.ifCond .ne 5, 3) := by decide +kernel
theorem dX6_read_91 : decode cX6_read 91 = .ok (.iconst (-1), 1) := by decide +kernel
theorem dX6_read_92 : decode cX6_read 92 = .ok (.ireturn, 1) := by decide +kernel
theorem dX6_read_93 : decode cX6_read 93 = .ok (.iinc 3 1, 3) := by decide +kernel
theorem dX6_read_96 : decode cX6_read 96 = .ok (.goto (-36), 3) := by decide +kernel
theorem dX6_read_99 : decode cX6_read 99 = .ok (.iload_n 3, 1) := by decide +kernel
theorem dX6_read_100 : decode cX6_read 100 = .ok (.ireturn, 1) := by decide +kernel
theorem dX6_refuse_0 : decode cX6_refuse 0 = .ok (.aload_n 0, 1) := by decide +kernel
theorem dX6_refuse_1 : decode cX6_refuse 1 = .ok (.iload_n 1, 1) := by decide +kernel
theorem dX6_refuse_2 : decode cX6_refuse 2 = .ok (.putfield 43, 3) := by decide +kernel
theorem dX6_refuse_5 : decode cX6_refuse 5 = .ok (.aload_n 0, 1) := by decide +kernel
theorem dX6_refuse_6 : decode cX6_refuse 6 = .ok (.aload_n 0, 1) := by decide +kernel
theorem dX6_refuse_7 : decode cX6_refuse 7 = .ok (.getfield 68, 3) := by decide +kernel
theorem dX6_refuse_10 : decode cX6_refuse 10 = .ok (.putfield 9, 3) := by decide +kernel
theorem dX6_refuse_13 : decode cX6_refuse 13 = .ok (.iconst 0, 1) := by decide +kernel
theorem dX6_refuse_14 : decode cX6_refuse 14 = .ok (.ireturn, 1) := by decide +kernel
theorem dX6_pass_0 : decode cX6_pass 0 = .ok (.aload_n 0, 1) := by decide +kernel
theorem dX6_pass_1 : decode cX6_pass 1 = .ok (.getfield 55, 3) := by decide +kernel
theorem dX6_pass_4 : decode cX6_pass 4 = .ok (.iload_n 1, 1) := by decide +kernel
theorem dX6_pass_5 : decode cX6_pass 5 = .ok (.if_icmp .eq 9, 3) := by decide +kernel
theorem dX6_pass_8 : decode cX6_pass 8 = .ok (.aload_n 0, 1) := by decide +kernel
theorem dX6_pass_9 : decode cX6_pass 9 = .ok (.iconst 1, 1) := by decide +kernel
theorem dX6_pass_10 : decode cX6_pass 10 = .ok (.invokevirtual 71, 3) := by decide +kernel
theorem dX6_pass_13 : decode cX6_pass 13 = .ok (.ireturn, 1) := by decide +kernel
theorem dX6_pass_14 : decode cX6_pass 14 = .ok (.aload_n 0, 1) := by decide +kernel
theorem dX6_pass_15 : decode cX6_pass 15 = .ok (.invokevirtual 52, 3) := by decide +kernel
theorem dX6_pass_18 : decode cX6_pass 18 = .ok (.iconst 1, 1) := by decide +kernel
theorem dX6_pass_19 : decode cX6_pass 19 = .ok (.ireturn, 1) := by decide +kernel
theorem dX6_once_0 : decode cX6_once 0 = .ok (.iconst 1, 1) := by decide +kernel
theorem dX6_once_1 : decode cX6_once 1 = .ok (.aload_n 0, 1) := by decide +kernel
theorem dX6_once_2 : decode cX6_once 2 = .ok (.getfield 55, 3) := by decide +kernel
theorem dX6_once_5 : decode cX6_once 5 = .ok (.ishl, 1) := by decide +kernel
theorem dX6_once_6 : decode cX6_once 6 = .ok (.istore_n 1, 1) := by decide +kernel
theorem dX6_once_7 : decode cX6_once 7 = .ok (.aload_n 0, 1) := by decide +kernel
theorem dX6_once_8 : decode cX6_once 8 = .ok (.getfield 49, 3) := by decide +kernel
theorem dX6_once_11 : decode cX6_once 11 = .ok (.iload_n 1, 1) := by decide +kernel
theorem dX6_once_12 : decode cX6_once 12 = .ok (.iand, 1) := by decide +kernel
theorem dX6_once_13 : decode cX6_once 13 = .ok (.ifCond .eq 9, 3) := by decide +kernel
theorem dX6_once_16 : decode cX6_once 16 = .ok (.aload_n 0, 1) := by decide +kernel
theorem dX6_once_17 : decode cX6_once 17 = .ok (.iconst 3, 1) := by decide +kernel
theorem dX6_once_18 : decode cX6_once 18 = .ok (.invokevirtual 71, 3) := by decide +kernel
theorem dX6_once_21 : decode cX6_once 21 = .ok (.ireturn, 1) := by decide +kernel
theorem dX6_once_22 : decode cX6_once 22 = .ok (.aload_n 0, 1) := by decide +kernel
theorem dX6_once_23 : decode cX6_once 23 = .ok (.dup, 1) := by decide +kernel
theorem dX6_once_24 : decode cX6_once 24 = .ok (.getfield 49, 3) := by decide +kernel
theorem dX6_once_27 : decode cX6_once 27 = .ok (.iload_n 1, 1) := by decide +kernel
theorem dX6_once_28 : decode cX6_once 28 = .ok (.ior, 1) := by decide +kernel
theorem dX6_once_29 : decode cX6_once 29 = .ok (.putfield 49, 3) := by decide +kernel
theorem dX6_once_32 : decode cX6_once 32 = .ok (.aload_n 0, 1) := by decide +kernel
theorem dX6_once_33 : decode cX6_once 33 = .ok (.invokevirtual 52, 3) := by decide +kernel
theorem dX6_once_36 : decode cX6_once 36 = .ok (.iconst 1, 1) := by decide +kernel
theorem dX6_once_37 : decode cX6_once 37 = .ok (.ireturn, 1) := by decide +kernel
theorem dX6_lineOfTerms_0 : decode cX6_lineOfTerms 0 = .ok (.aload_n 0, 1) := by decide +kernel
theorem dX6_lineOfTerms_1 : decode cX6_lineOfTerms 1 = .ok (.getfield 55, 3) := by decide +kernel
theorem dX6_lineOfTerms_4 : decode cX6_lineOfTerms 4 = .ok (.tableswitch 127 0 4 #[36, 56, 78, 98, 118], 36) := by decide +kernel
theorem dX6_lineOfTerms_40 : decode cX6_lineOfTerms 40 = .ok (.aload_n 0, 1) := by decide +kernel
theorem dX6_lineOfTerms_41 : decode cX6_lineOfTerms 41 = .ok (.invokevirtual 74, 3) := by decide +kernel
theorem dX6_lineOfTerms_44 : decode cX6_lineOfTerms 44 = .ok (.ifCond .eq 14, 3) := by decide +kernel
theorem dX6_lineOfTerms_47 : decode cX6_lineOfTerms 47 = .ok (.aload_n 0, 1) := by decide +kernel
theorem dX6_lineOfTerms_48 : decode cX6_lineOfTerms 48 = .ok (.invokevirtual 77, 3) := by decide +kernel
theorem dX6_lineOfTerms_51 : decode cX6_lineOfTerms 51 = .ok (.ifCond .eq 7, 3) := by decide +kernel
theorem dX6_lineOfTerms_54 : decode cX6_lineOfTerms 54 = .ok (.iconst 1, 1) := by decide +kernel
theorem dX6_lineOfTerms_55 : decode cX6_lineOfTerms 55 = .ok (.goto 4, 3) := by decide +kernel
theorem dX6_lineOfTerms_58 : decode cX6_lineOfTerms 58 = .ok (.iconst 0, 1) := by decide +kernel
theorem dX6_lineOfTerms_59 : decode cX6_lineOfTerms 59 = .ok (.ireturn, 1) := by decide +kernel
theorem dX6_lineOfTerms_60 : decode cX6_lineOfTerms 60 = .ok (.aload_n 0, 1) := by decide +kernel
theorem dX6_lineOfTerms_61 : decode cX6_lineOfTerms 61 = .ok (.invokevirtual 74, 3) := by decide +kernel
theorem dX6_lineOfTerms_64 : decode cX6_lineOfTerms 64 = .ok (.ifCond .eq 16, 3) := by decide +kernel
theorem dX6_lineOfTerms_67 : decode cX6_lineOfTerms 67 = .ok (.aload_n 0, 1) := by decide +kernel
theorem dX6_lineOfTerms_68 : decode cX6_lineOfTerms 68 = .ok (.iconst 0, 1) := by decide +kernel
theorem dX6_lineOfTerms_69 : decode cX6_lineOfTerms 69 = .ok (.iconst 0, 1) := by decide +kernel
theorem dX6_lineOfTerms_70 : decode cX6_lineOfTerms 70 = .ok (.invokevirtual 80, 3) := by decide +kernel
theorem dX6_lineOfTerms_73 : decode cX6_lineOfTerms 73 = .ok (.ifCond .eq 7, 3) := by decide +kernel
theorem dX6_lineOfTerms_76 : decode cX6_lineOfTerms 76 = .ok (.iconst 1, 1) := by decide +kernel
theorem dX6_lineOfTerms_77 : decode cX6_lineOfTerms 77 = .ok (.goto 4, 3) := by decide +kernel
theorem dX6_lineOfTerms_80 : decode cX6_lineOfTerms 80 = .ok (.iconst 0, 1) := by decide +kernel
theorem dX6_lineOfTerms_81 : decode cX6_lineOfTerms 81 = .ok (.ireturn, 1) := by decide +kernel
theorem dX6_lineOfTerms_82 : decode cX6_lineOfTerms 82 = .ok (.aload_n 0, 1) := by decide +kernel
theorem dX6_lineOfTerms_83 : decode cX6_lineOfTerms 83 = .ok (.invokevirtual 74, 3) := by decide +kernel
theorem dX6_lineOfTerms_86 : decode cX6_lineOfTerms 86 = .ok (.ifCond .eq 14, 3) := by decide +kernel
theorem dX6_lineOfTerms_89 : decode cX6_lineOfTerms 89 = .ok (.aload_n 0, 1) := by decide +kernel
theorem dX6_lineOfTerms_90 : decode cX6_lineOfTerms 90 = .ok (.invokevirtual 84, 3) := by decide +kernel
theorem dX6_lineOfTerms_93 : decode cX6_lineOfTerms 93 = .ok (.ifCond .eq 7, 3) := by decide +kernel
theorem dX6_lineOfTerms_96 : decode cX6_lineOfTerms 96 = .ok (.iconst 1, 1) := by decide +kernel
theorem dX6_lineOfTerms_97 : decode cX6_lineOfTerms 97 = .ok (.goto 4, 3) := by decide +kernel
theorem dX6_lineOfTerms_100 : decode cX6_lineOfTerms 100 = .ok (.iconst 0, 1) := by decide +kernel
theorem dX6_lineOfTerms_101 : decode cX6_lineOfTerms 101 = .ok (.ireturn, 1) := by decide +kernel
theorem dX6_lineOfTerms_102 : decode cX6_lineOfTerms 102 = .ok (.aload_n 0, 1) := by decide +kernel
theorem dX6_lineOfTerms_103 : decode cX6_lineOfTerms 103 = .ok (.invokevirtual 74, 3) := by decide +kernel
theorem dX6_lineOfTerms_106 : decode cX6_lineOfTerms 106 = .ok (.ifCond .eq 14, 3) := by decide +kernel
theorem dX6_lineOfTerms_109 : decode cX6_lineOfTerms 109 = .ok (.aload_n 0, 1) := by decide +kernel
theorem dX6_lineOfTerms_110 : decode cX6_lineOfTerms 110 = .ok (.invokevirtual 87, 3) := by decide +kernel
theorem dX6_lineOfTerms_113 : decode cX6_lineOfTerms 113 = .ok (.ifCond .eq 7, 3) := by decide +kernel
theorem dX6_lineOfTerms_116 : decode cX6_lineOfTerms 116 = .ok (.iconst 1, 1) := by decide +kernel
theorem dX6_lineOfTerms_117 : decode cX6_lineOfTerms 117 = .ok (.goto 4, 3) := by decide +kernel
theorem dX6_lineOfTerms_120 : decode cX6_lineOfTerms 120 = .ok (.iconst 0, 1) := by decide +kernel
theorem dX6_lineOfTerms_121 : decode cX6_lineOfTerms 121 = .ok (.ireturn, 1) := by decide +kernel
theorem dX6_lineOfTerms_122 : decode cX6_lineOfTerms 122 = .ok (.aload_n 0, 1) := by decide +kernel
theorem dX6_lineOfTerms_123 : decode cX6_lineOfTerms 123 = .ok (.invokevirtual 52, 3) := by decide +kernel
theorem dX6_lineOfTerms_126 : decode cX6_lineOfTerms 126 = .ok (.aload_n 0, 1) := by decide +kernel
theorem dX6_lineOfTerms_127 : decode cX6_lineOfTerms 127 = .ok (.invokevirtual 90, 3) := by decide +kernel
theorem dX6_lineOfTerms_130 : decode cX6_lineOfTerms 130 = .ok (.ireturn, 1) := by decide +kernel
theorem dX6_lineOfTerms_131 : decode cX6_lineOfTerms 131 = .ok (.aload_n 0, 1) := by decide +kernel
theorem dX6_lineOfTerms_132 : decode cX6_lineOfTerms 132 = .ok (.iconst 1, 1) := by decide +kernel
theorem dX6_lineOfTerms_133 : decode cX6_lineOfTerms 133 = .ok (.invokevirtual 71, 3) := by decide +kernel
theorem dX6_lineOfTerms_136 : decode cX6_lineOfTerms 136 = .ok (.ireturn, 1) := by decide +kernel
theorem dX6_unitLine_0 : decode cX6_unitLine 0 = .ok (.aload_n 0, 1) := by decide +kernel
theorem dX6_unitLine_1 : decode cX6_unitLine 1 = .ok (.getfield 55, 3) := by decide +kernel
theorem dX6_unitLine_4 : decode cX6_unitLine 4 = .ok (.iconst 5, 1) := by decide +kernel
theorem dX6_unitLine_5 : decode cX6_unitLine 5 = .ok (.if_icmp .lt 12, 3) := by decide +kernel
theorem dX6_unitLine_8 : decode cX6_unitLine 8 = .ok (.aload_n 0, 1) := by decide +kernel
theorem dX6_unitLine_9 : decode cX6_unitLine 9 = .ok (.getfield 55, 3) := by decide +kernel
theorem dX6_unitLine_12 : decode cX6_unitLine 12 = .ok (.bipush 7, 2) := by decide +kernel
theorem dX6_unitLine_14 : decode cX6_unitLine 14 = .ok (.if_icmp .le 9, 3) := by decide +kernel
theorem dX6_unitLine_17 : decode cX6_unitLine 17 = .ok (.aload_n 0, 1) := by decide +kernel
theorem dX6_unitLine_18 : decode cX6_unitLine 18 = .ok (.iconst 1, 1) := by decide +kernel
theorem dX6_unitLine_19 : decode cX6_unitLine 19 = .ok (.invokevirtual 71, 3) := by decide +kernel
theorem dX6_unitLine_22 : decode cX6_unitLine 22 = .ok (.ireturn, 1) := by decide +kernel
theorem dX6_unitLine_23 : decode cX6_unitLine 23 = .ok (.aload_n 0, 1) := by decide +kernel
theorem dX6_unitLine_24 : decode cX6_unitLine 24 = .ok (.getfield 22, 3) := by decide +kernel
theorem dX6_unitLine_27 : decode cX6_unitLine 27 = .ok (.aload_n 0, 1) := by decide +kernel
theorem dX6_unitLine_28 : decode cX6_unitLine 28 = .ok (.getfield 55, 3) := by decide +kernel
theorem dX6_unitLine_31 : decode cX6_unitLine 31 = .ok (.iconst 5, 1) := by decide +kernel
theorem dX6_unitLine_32 : decode cX6_unitLine 32 = .ok (.isub, 1) := by decide +kernel
theorem dX6_unitLine_33 : decode cX6_unitLine 33 = .ok (.putfield 93, 3) := by decide +kernel
theorem dX6_unitLine_36 : decode cX6_unitLine 36 = .ok (.aload_n 0, 1) := by decide +kernel
theorem dX6_unitLine_37 : decode cX6_unitLine 37 = .ok (.invokevirtual 52, 3) := by decide +kernel
theorem dX6_unitLine_40 : decode cX6_unitLine 40 = .ok (.iconst 1, 1) := by decide +kernel
theorem dX6_unitLine_41 : decode cX6_unitLine 41 = .ok (.ireturn, 1) := by decide +kernel
theorem dX6_fearLine_0 : decode cX6_fearLine 0 = .ok (.aload_n 0, 1) := by decide +kernel
theorem dX6_fearLine_1 : decode cX6_fearLine 1 = .ok (.bipush 100, 2) := by decide +kernel
theorem dX6_fearLine_3 : decode cX6_fearLine 3 = .ok (.invokevirtual 96, 3) := by decide +kernel
theorem dX6_fearLine_6 : decode cX6_fearLine 6 = .ok (.istore_n 1, 1) := by decide +kernel
theorem dX6_fearLine_7 : decode cX6_fearLine 7 = .ok (.aload_n 0, 1) := by decide +kernel
theorem dX6_fearLine_8 : decode cX6_fearLine 8 = .ok (.getfield 22, 3) := by decide +kernel
theorem dX6_fearLine_11 : decode cX6_fearLine 11 = .ok (.aload_n 0, 1) := by decide +kernel
theorem dX6_fearLine_12 : decode cX6_fearLine 12 = .ok (.getfield 99, 3) := by decide +kernel
theorem dX6_fearLine_15 : decode cX6_fearLine 15 = .ok (.putfield 102, 3) := by decide +kernel
theorem dX6_fearLine_18 : decode cX6_fearLine 18 = .ok (.iload_n 1, 1) := by decide +kernel
theorem dX6_fearLine_19 : decode cX6_fearLine 19 = .ok (.ireturn, 1) := by decide +kernel
theorem dX6_loseLine_0 : decode cX6_loseLine 0 = .ok (.aload_n 0, 1) := by decide +kernel
theorem dX6_loseLine_1 : decode cX6_loseLine 1 = .ok (.bipush 100, 2) := by decide +kernel
theorem dX6_loseLine_3 : decode cX6_loseLine 3 = .ok (.invokevirtual 96, 3) := by decide +kernel
theorem dX6_loseLine_6 : decode cX6_loseLine 6 = .ok (.istore_n 1, 1) := by decide +kernel
theorem dX6_loseLine_7 : decode cX6_loseLine 7 = .ok (.aload_n 0, 1) := by decide +kernel
theorem dX6_loseLine_8 : decode cX6_loseLine 8 = .ok (.getfield 22, 3) := by decide +kernel
theorem dX6_loseLine_11 : decode cX6_loseLine 11 = .ok (.aload_n 0, 1) := by decide +kernel
theorem dX6_loseLine_12 : decode cX6_loseLine 12 = .ok (.getfield 99, 3) := by decide +kernel
theorem dX6_loseLine_15 : decode cX6_loseLine 15 = .ok (.putfield 105, 3) := by decide +kernel
theorem dX6_loseLine_18 : decode cX6_loseLine 18 = .ok (.iload_n 1, 1) := by decide +kernel
theorem dX6_loseLine_19 : decode cX6_loseLine 19 = .ok (.ireturn, 1) := by decide +kernel
theorem dX6_weighLine_0 : decode cX6_weighLine 0 = .ok (.aload_n 0, 1) := by decide +kernel
theorem dX6_weighLine_1 : decode cX6_weighLine 1 = .ok (.getfield 55, 3) := by decide +kernel
theorem dX6_weighLine_4 : decode cX6_weighLine 4 = .ok (.bipush 8, 2) := by decide +kernel
theorem dX6_weighLine_6 : decode cX6_weighLine 6 = .ok (.if_icmp .lt 12, 3) := by decide +kernel
theorem dX6_weighLine_9 : decode cX6_weighLine 9 = .ok (.aload_n 0, 1) := by decide +kernel
theorem dX6_weighLine_10 : decode cX6_weighLine 10 = .ok (.getfield 55, 3) := by decide +kernel
theorem dX6_weighLine_13 : decode cX6_weighLine 13 = .ok (.bipush 10, 2) := by decide +kernel
theorem dX6_weighLine_15 : decode cX6_weighLine 15 = .ok (.if_icmp .le 9, 3) := by decide +kernel
theorem dX6_weighLine_18 : decode cX6_weighLine 18 = .ok (.aload_n 0, 1) := by decide +kernel
theorem dX6_weighLine_19 : decode cX6_weighLine 19 = .ok (.iconst 1, 1) := by decide +kernel
theorem dX6_weighLine_20 : decode cX6_weighLine 20 = .ok (.invokevirtual 71, 3) := by decide +kernel
theorem dX6_weighLine_23 : decode cX6_weighLine 23 = .ok (.ireturn, 1) := by decide +kernel
theorem dX6_weighLine_24 : decode cX6_weighLine 24 = .ok (.aload_n 0, 1) := by decide +kernel
theorem dX6_weighLine_25 : decode cX6_weighLine 25 = .ok (.getfield 55, 3) := by decide +kernel
theorem dX6_weighLine_28 : decode cX6_weighLine 28 = .ok (.bipush 8, 2) := by decide +kernel
theorem dX6_weighLine_30 : decode cX6_weighLine 30 = .ok (.isub, 1) := by decide +kernel
theorem dX6_weighLine_31 : decode cX6_weighLine 31 = .ok (.istore_n 1, 1) := by decide +kernel
theorem dX6_weighLine_32 : decode cX6_weighLine 32 = .ok (.aload_n 0, 1) := by decide +kernel
theorem dX6_weighLine_33 : decode cX6_weighLine 33 = .ok (.invokevirtual 74, 3) := by decide +kernel
theorem dX6_weighLine_36 : decode cX6_weighLine 36 = .ok (.ifCond .eq 17, 3) := by decide +kernel
theorem dX6_weighLine_39 : decode cX6_weighLine 39 = .ok (.aload_n 0, 1) := by decide +kernel
theorem dX6_weighLine_40 : decode cX6_weighLine 40 = .ok (.sipush 999, 3) := by decide +kernel
theorem dX6_weighLine_43 : decode cX6_weighLine 43 = .ok (.invokevirtual 96, 3) := by decide +kernel
theorem dX6_weighLine_46 : decode cX6_weighLine 46 = .ok (.ifCond .eq 7, 3) := by decide +kernel
theorem dX6_weighLine_49 : decode cX6_weighLine 49 = .ok (.iconst 1, 1) := by decide +kernel
theorem dX6_weighLine_50 : decode cX6_weighLine 50 = .ok (.goto 4, 3) := by decide +kernel
theorem dX6_weighLine_53 : decode cX6_weighLine 53 = .ok (.iconst 0, 1) := by decide +kernel
theorem dX6_weighLine_54 : decode cX6_weighLine 54 = .ok (.istore_n 2, 1) := by decide +kernel
theorem dX6_weighLine_55 : decode cX6_weighLine 55 = .ok (.aload_n 0, 1) := by decide +kernel
theorem dX6_weighLine_56 : decode cX6_weighLine 56 = .ok (.getfield 22, 3) := by decide +kernel
theorem dX6_weighLine_59 : decode cX6_weighLine 59 = .ok (.getfield 108, 3) := by decide +kernel
theorem dX6_weighLine_62 : decode cX6_weighLine 62 = .ok (.iload_n 1, 1) := by decide +kernel
theorem dX6_weighLine_63 : decode cX6_weighLine 63 = .ok (.aload_n 0, 1) := by decide +kernel
theorem dX6_weighLine_64 : decode cX6_weighLine 64 = .ok (.getfield 99, 3) := by decide +kernel
theorem dX6_weighLine_67 : decode cX6_weighLine 67 = .ok (.iastore, 1) := by decide +kernel
theorem dX6_weighLine_68 : decode cX6_weighLine 68 = .ok (.iload_n 2, 1) := by decide +kernel
theorem dX6_weighLine_69 : decode cX6_weighLine 69 = .ok (.ireturn, 1) := by decide +kernel
theorem dX6_amount_0 : decode cX6_amount 0 = .ok (.aload_n 0, 1) := by decide +kernel
theorem dX6_amount_1 : decode cX6_amount 1 = .ok (.getfield 55, 3) := by decide +kernel
theorem dX6_amount_4 : decode cX6_amount 4 = .ok (.bipush 20, 2) := by decide +kernel
theorem dX6_amount_6 : decode cX6_amount 6 = .ok (.if_icmp .eq 9, 3) := by decide +kernel
theorem dX6_amount_9 : decode cX6_amount 9 = .ok (.aload_n 0, 1) := by decide +kernel
theorem dX6_amount_10 : decode cX6_amount 10 = .ok (.iconst 1, 1) := by decide +kernel
theorem dX6_amount_11 : decode cX6_amount 11 = .ok (.invokevirtual 71, 3) := by decide +kernel
theorem dX6_amount_14 : decode cX6_amount 14 = .ok (.ireturn, 1) := by decide +kernel
theorem dX6_amount_15 : decode cX6_amount 15 = .ok (.aload_n 0, 1) := by decide +kernel
theorem dX6_amount_16 : decode cX6_amount 16 = .ok (.getfield 111, 3) := by decide +kernel
theorem dX6_amount_19 : decode cX6_amount 19 = .ok (.iload_n 1, 1) := by decide +kernel
theorem dX6_amount_20 : decode cX6_amount 20 = .ok (.if_icmp .le 9, 3) := by decide +kernel
theorem dX6_amount_23 : decode cX6_amount 23 = .ok (.aload_n 0, 1) := by decide +kernel
theorem dX6_amount_24 : decode cX6_amount 24 = .ok (.iconst 2, 1) := by decide +kernel
theorem dX6_amount_25 : decode cX6_amount 25 = .ok (.invokevirtual 71, 3) := by decide +kernel
theorem dX6_amount_28 : decode cX6_amount 28 = .ok (.ireturn, 1) := by decide +kernel
theorem dX6_amount_29 : decode cX6_amount 29 = .ok (.aload_n 0, 1) := by decide +kernel
theorem dX6_amount_30 : decode cX6_amount 30 = .ok (.aload_n 0, 1) := by decide +kernel
theorem dX6_amount_31 : decode cX6_amount 31 = .ok (.getfield 111, 3) := by decide +kernel
theorem dX6_amount_34 : decode cX6_amount 34 = .ok (.putfield 99, 3) := by decide +kernel
theorem dX6_amount_37 : decode cX6_amount 37 = .ok (.aload_n 0, 1) := by decide +kernel
theorem dX6_amount_38 : decode cX6_amount 38 = .ok (.invokevirtual 52, 3) := by decide +kernel
theorem dX6_amount_41 : decode cX6_amount 41 = .ok (.iconst 1, 1) := by decide +kernel
theorem dX6_amount_42 : decode cX6_amount 42 = .ok (.ireturn, 1) := by decide +kernel
theorem dX6_row_0 : decode cX6_row 0 = .ok (.iload_n 1, 1) := by decide +kernel
theorem dX6_row_1 : decode cX6_row 1 = .ok (.iconst 2, 1) := by decide +kernel
theorem dX6_row_2 : decode cX6_row 2 = .ok (.if_icmp .ne 9, 3) := by decide +kernel
theorem dX6_row_5 : decode cX6_row 5 = .ok (.aload_n 0, 1) := by decide +kernel
theorem dX6_row_6 : decode cX6_row 6 = .ok (.iload_n 2, 1) := by decide +kernel
theorem dX6_row_7 : decode cX6_row 7 = .ok (.invokevirtual 114, 3) := by decide +kernel
theorem dX6_row_10 : decode cX6_row 10 = .ok (.ireturn, 1) := by decide +kernel
theorem dX6_row_11 : decode cX6_row 11 = .ok (.iload_n 1, 1) := by decide +kernel
theorem dX6_row_12 : decode cX6_row 12 = .ok (.bipush 6, 2) := by decide +kernel
theorem dX6_row_14 : decode cX6_row 14 = .ok (.if_icmp .lt 9, 3) := by decide +kernel
theorem dX6_row_17 : decode cX6_row 17 = .ok (.aload_n 0, 1) := by decide +kernel
theorem dX6_row_18 : decode cX6_row 18 = .ok (.iload_n 2, 1) := by decide +kernel
theorem dX6_row_19 : decode cX6_row 19 = .ok (.invokevirtual 117, 3) := by decide +kernel
theorem dX6_row_22 : decode cX6_row 22 = .ok (.ireturn, 1) := by decide +kernel
theorem dX6_row_23 : decode cX6_row 23 = .ok (.aload_n 0, 1) := by decide +kernel
theorem dX6_row_24 : decode cX6_row 24 = .ok (.iload_n 1, 1) := by decide +kernel
theorem dX6_row_25 : decode cX6_row 25 = .ok (.iconst 1, 1) := by decide +kernel
theorem dX6_row_26 : decode cX6_row 26 = .ok (.iadd, 1) := by decide +kernel
theorem dX6_row_27 : decode cX6_row 27 = .ok (.iload_n 2, 1) := by decide +kernel
theorem dX6_row_28 : decode cX6_row 28 = .ok (.invokevirtual 80, 3) := by decide +kernel
theorem dX6_row_31 : decode cX6_row 31 = .ok (.ifCond .ne 5, 3) := by decide +kernel
theorem dX6_row_34 : decode cX6_row 34 = .ok (.iconst 0, 1) := by decide +kernel
theorem dX6_row_35 : decode cX6_row 35 = .ok (.ireturn, 1) := by decide +kernel
theorem dX6_row_36 : decode cX6_row 36 = .ok (.iload_n 1, 1) := by decide +kernel
theorem dX6_row_37 : decode cX6_row 37 = .ok (.iconst 3, 1) := by decide +kernel
theorem dX6_row_38 : decode cX6_row 38 = .ok (.if_icmp .ne 7, 3) := by decide +kernel
theorem dX6_row_41 : decode cX6_row 41 = .ok (.iconst 1, 1) := by decide +kernel
theorem dX6_row_42 : decode cX6_row 42 = .ok (.goto 5, 3) := by decide +kernel
theorem dX6_row_45 : decode cX6_row 45 = .ok (.bipush 65, 2) := by decide +kernel
theorem dX6_row_47 : decode cX6_row 47 = .ok (.istore_n 3, 1) := by decide +kernel
theorem dX6_row_48 : decode cX6_row 48 = .ok (.iconst 0, 1) := by decide +kernel
theorem dX6_row_49 : decode cX6_row 49 = .ok (.istore 4, 2) := by decide +kernel
theorem dX6_row_51 : decode cX6_row 51 = .ok (.iload 4, 2) := by decide +kernel
theorem dX6_row_53 : decode cX6_row 53 = .ok (.iload_n 3, 1) := by decide +kernel
theorem dX6_row_54 : decode cX6_row 54 = .ok (.if_icmp .ge 53, 3) := by decide +kernel
theorem dX6_row_57 : decode cX6_row 57 = .ok (.aload_n 0, 1) := by decide +kernel
theorem dX6_row_58 : decode cX6_row 58 = .ok (.getfield 55, 3) := by decide +kernel
theorem dX6_row_61 : decode cX6_row 61 = .ok (.invokestatic 120, 3) := by decide +kernel
theorem dX6_row_64 : decode cX6_row 64 = .ok (.iload_n 1, 1) := by decide +kernel
theorem dX6_row_65 : decode cX6_row 65 = .ok (.if_icmp .ne 42, 3) := by decide +kernel
theorem dX6_row_68 : decode cX6_row 68 = .ok (.aload_n 0, 1) := by decide +kernel
theorem dX6_row_69 : decode cX6_row 69 = .ok (.getfield 55, 3) := by decide +kernel
theorem dX6_row_72 : decode cX6_row 72 = .ok (.istore 5, 2) := by decide +kernel
theorem dX6_row_74 : decode cX6_row 74 = .ok (.aload_n 0, 1) := by decide +kernel
theorem dX6_row_75 : decode cX6_row 75 = .ok (.invokevirtual 124, 3) := by decide +kernel
theorem dX6_row_78 : decode cX6_row 78 = .ok (.ifCond .eq 14, 3) := by decide +kernel
theorem dX6_row_81 : decode cX6_row 81 = .ok (.aload_n 0, 1) := by decide +kernel
theorem dX6_row_82 : decode cX6_row 82 = .ok (.iload_n 1, 1) := by decide +kernel
theorem dX6_row_83 : decode cX6_row 83 = .ok (.iconst 1, 1) := by decide +kernel
theorem dX6_row_84 : decode cX6_row 84 = .ok (.iadd, 1) := by decide +kernel
theorem dX6_row_85 : decode cX6_row 85 = .ok (.iload_n 2, 1) := by decide +kernel
theorem dX6_row_86 : decode cX6_row 86 = .ok (.invokevirtual 80, 3) := by decide +kernel
theorem dX6_row_89 : decode cX6_row 89 = .ok (.ifCond .ne 5, 3) := by decide +kernel
theorem dX6_row_92 : decode cX6_row 92 = .ok (.iconst 0, 1) := by decide +kernel
theorem dX6_row_93 : decode cX6_row 93 = .ok (.ireturn, 1) := by decide +kernel
theorem dX6_row_94 : decode cX6_row 94 = .ok (.aload_n 0, 1) := by decide +kernel
theorem dX6_row_95 : decode cX6_row 95 = .ok (.iload 5, 2) := by decide +kernel
theorem dX6_row_97 : decode cX6_row 97 = .ok (.iconst 0, 1) := by decide +kernel
theorem dX6_row_98 : decode cX6_row 98 = .ok (.invokevirtual 127, 3) := by decide +kernel
theorem dX6_row_101 : decode cX6_row 101 = .ok (.iinc 4 1, 3) := by decide +kernel
theorem dX6_row_104 : decode cX6_row 104 = .ok (.goto (-53), 3) := by decide +kernel
theorem dX6_row_107 : decode cX6_row 107 = .ok (.iconst 1, 1) := by decide +kernel
theorem dX6_row_108 : decode cX6_row 108 = .ok (.ireturn, 1) := by decide +kernel
theorem dX6_negated_0 : decode cX6_negated 0 = .ok (.iconst 0, 1) := by decide +kernel
theorem dX6_negated_1 : decode cX6_negated 1 = .ok (.istore_n 2, 1) := by decide +kernel
theorem dX6_negated_2 : decode cX6_negated 2 = .ok (.iload_n 2, 1) := by decide +kernel
theorem dX6_negated_3 : decode cX6_negated 3 = .ok (.bipush 64, 2) := by decide +kernel
theorem dX6_negated_5 : decode cX6_negated 5 = .ok (.if_icmp .gt 27, 3) := by decide +kernel
theorem dX6_negated_8 : decode cX6_negated 8 = .ok (.aload_n 0, 1) := by decide +kernel
theorem dX6_negated_9 : decode cX6_negated 9 = .ok (.getfield 55, 3) := by decide +kernel
theorem dX6_negated_12 : decode cX6_negated 12 = .ok (.bipush 17, 2) := by decide +kernel
theorem dX6_negated_14 : decode cX6_negated 14 = .ok (.if_icmp .ne 18, 3) := by decide +kernel
theorem dX6_negated_17 : decode cX6_negated 17 = .ok (.aload_n 0, 1) := by decide +kernel
theorem dX6_negated_18 : decode cX6_negated 18 = .ok (.invokevirtual 124, 3) := by decide +kernel
theorem dX6_negated_21 : decode cX6_negated 21 = .ok (.ifCond .ne 5, 3) := by decide +kernel
theorem dX6_negated_24 : decode cX6_negated 24 = .ok (.iconst 0, 1) := by decide +kernel
theorem dX6_negated_25 : decode cX6_negated 25 = .ok (.ireturn, 1) := by decide +kernel
theorem dX6_negated_26 : decode cX6_negated 26 = .ok (.iinc 2 1, 3) := by decide +kernel
theorem dX6_negated_29 : decode cX6_negated 29 = .ok (.goto (-27), 3) := by decide +kernel
theorem dX6_negated_32 : decode cX6_negated 32 = .ok (.aload_n 0, 1) := by decide +kernel
theorem dX6_negated_33 : decode cX6_negated 33 = .ok (.iconst 3, 1) := by decide +kernel
theorem dX6_negated_34 : decode cX6_negated 34 = .ok (.iload_n 1, 1) := by decide +kernel
theorem dX6_negated_35 : decode cX6_negated 35 = .ok (.invokevirtual 80, 3) := by decide +kernel
theorem dX6_negated_38 : decode cX6_negated 38 = .ok (.ifCond .ne 5, 3) := by decide +kernel
theorem dX6_negated_41 : decode cX6_negated 41 = .ok (.iconst 0, 1) := by decide +kernel
theorem dX6_negated_42 : decode cX6_negated 42 = .ok (.ireturn, 1) := by decide +kernel
theorem dX6_negated_43 : decode cX6_negated 43 = .ok (.iconst 0, 1) := by decide +kernel
theorem dX6_negated_44 : decode cX6_negated 44 = .ok (.istore_n 3, 1) := by decide +kernel
theorem dX6_negated_45 : decode cX6_negated 45 = .ok (.iload_n 3, 1) := by decide +kernel
theorem dX6_negated_46 : decode cX6_negated 46 = .ok (.iload_n 2, 1) := by decide +kernel
theorem dX6_negated_47 : decode cX6_negated 47 = .ok (.if_icmp .ge 16, 3) := by decide +kernel
theorem dX6_negated_50 : decode cX6_negated 50 = .ok (.aload_n 0, 1) := by decide +kernel
theorem dX6_negated_51 : decode cX6_negated 51 = .ok (.bipush 17, 2) := by decide +kernel
theorem dX6_negated_53 : decode cX6_negated 53 = .ok (.iconst 0, 1) := by decide +kernel
theorem dX6_negated_54 : decode cX6_negated 54 = .ok (.invokevirtual 127, 3) := by decide +kernel
theorem dX6_negated_57 : decode cX6_negated 57 = .ok (.iinc 3 1, 3) := by decide +kernel
theorem dX6_negated_60 : decode cX6_negated 60 = .ok (.goto (-15), 3) := by decide +kernel
theorem dX6_negated_63 : decode cX6_negated 63 = .ok (.iconst 1, 1) := by decide +kernel
theorem dX6_negated_64 : decode cX6_negated 64 = .ok (.ireturn, 1) := by decide +kernel
theorem dX6_part_0 : decode cX6_part 0 = .ok (.aload_n 0, 1) := by decide +kernel
theorem dX6_part_1 : decode cX6_part 1 = .ok (.getfield 55, 3) := by decide +kernel
theorem dX6_part_4 : decode cX6_part 4 = .ok (.bipush 31, 2) := by decide +kernel
theorem dX6_part_6 : decode cX6_part 6 = .ok (.if_icmp .ne 45, 3) := by decide +kernel
theorem dX6_part_9 : decode cX6_part 9 = .ok (.iload_n 1, 1) := by decide +kernel
theorem dX6_part_10 : decode cX6_part 10 = .ok (.bipush 8, 2) := by decide +kernel
theorem dX6_part_12 : decode cX6_part 12 = .ok (.if_icmp .lt 9, 3) := by decide +kernel
theorem dX6_part_15 : decode cX6_part 15 = .ok (.aload_n 0, 1) := by decide +kernel
theorem dX6_part_16 : decode cX6_part 16 = .ok (.iconst 2, 1) := by decide +kernel
theorem dX6_part_17 : decode cX6_part 17 = .ok (.invokevirtual 71, 3) := by decide +kernel
theorem dX6_part_20 : decode cX6_part 20 = .ok (.ireturn, 1) := by decide +kernel
theorem dX6_part_21 : decode cX6_part 21 = .ok (.aload_n 0, 1) := by decide +kernel
theorem dX6_part_22 : decode cX6_part 22 = .ok (.invokevirtual 52, 3) := by decide +kernel
theorem dX6_part_25 : decode cX6_part 25 = .ok (.aload_n 0, 1) := by decide +kernel
theorem dX6_part_26 : decode cX6_part 26 = .ok (.iconst 0, 1) := by decide +kernel
theorem dX6_part_27 : decode cX6_part 27 = .ok (.iload_n 1, 1) := by decide +kernel
theorem dX6_part_28 : decode cX6_part 28 = .ok (.iconst 1, 1) := by decide +kernel
theorem dX6_part_29 : decode cX6_part 29 = .ok (.iadd, 1) := by decide +kernel
theorem dX6_part_30 : decode cX6_part 30 = .ok (.invokevirtual 80, 3) := by decide +kernel
theorem dX6_part_33 : decode cX6_part 33 = .ok (.ifCond .eq 16, 3) := by decide +kernel
theorem dX6_part_36 : decode cX6_part 36 = .ok (.aload_n 0, 1) := by decide +kernel
theorem dX6_part_37 : decode cX6_part 37 = .ok (.bipush 32, 2) := by decide +kernel
theorem dX6_part_39 : decode cX6_part 39 = .ok (.invokevirtual 64, 3) := by decide +kernel
theorem dX6_part_42 : decode cX6_part 42 = .ok (.ifCond .eq 7, 3) := by decide +kernel
theorem dX6_part_45 : decode cX6_part 45 = .ok (.iconst 1, 1) := by decide +kernel
theorem dX6_part_46 : decode cX6_part 46 = .ok (.goto 4, 3) := by decide +kernel
theorem dX6_part_49 : decode cX6_part 49 = .ok (.iconst 0, 1) := by decide +kernel
theorem dX6_part_50 : decode cX6_part 50 = .ok (.ireturn, 1) := by decide +kernel
theorem dX6_part_51 : decode cX6_part 51 = .ok (.aload_n 0, 1) := by decide +kernel
theorem dX6_part_52 : decode cX6_part 52 = .ok (.getfield 55, 3) := by decide +kernel
theorem dX6_part_55 : decode cX6_part 55 = .ok (.bipush 20, 2) := by decide +kernel
theorem dX6_part_57 : decode cX6_part 57 = .ok (.if_icmp .ne 7, 3) := by decide +kernel
theorem dX6_part_60 : decode cX6_part 60 = .ok (.iconst 1, 1) := by decide +kernel
theorem dX6_part_61 : decode cX6_part 61 = .ok (.goto 4, 3) := by decide +kernel
theorem dX6_part_64 : decode cX6_part 64 = .ok (.iconst 0, 1) := by decide +kernel
theorem dX6_part_65 : decode cX6_part 65 = .ok (.istore_n 2, 1) := by decide +kernel
theorem dX6_part_66 : decode cX6_part 66 = .ok (.iload_n 2, 1) := by decide +kernel
theorem dX6_part_67 : decode cX6_part 67 = .ok (.ifCond .ne 27, 3) := by decide +kernel
theorem dX6_part_70 : decode cX6_part 70 = .ok (.aload_n 0, 1) := by decide +kernel
theorem dX6_part_71 : decode cX6_part 71 = .ok (.getfield 55, 3) := by decide +kernel
theorem dX6_part_74 : decode cX6_part 74 = .ok (.bipush 11, 2) := by decide +kernel
theorem dX6_part_76 : decode cX6_part 76 = .ok (.if_icmp .lt 12, 3) := by decide +kernel
theorem dX6_part_79 : decode cX6_part 79 = .ok (.aload_n 0, 1) := by decide +kernel
theorem dX6_part_80 : decode cX6_part 80 = .ok (.getfield 55, 3) := by decide +kernel
theorem dX6_part_83 : decode cX6_part 83 = .ok (.bipush 16, 2) := by decide +kernel
theorem dX6_part_85 : decode cX6_part 85 = .ok (.if_icmp .le 9, 3) := by decide +kernel
theorem dX6_part_88 : decode cX6_part 88 = .ok (.aload_n 0, 1) := by decide +kernel
theorem dX6_part_89 : decode cX6_part 89 = .ok (.iconst 1, 1) := by decide +kernel
theorem dX6_part_90 : decode cX6_part 90 = .ok (.invokevirtual 71, 3) := by decide +kernel
theorem dX6_part_93 : decode cX6_part 93 = .ok (.ireturn, 1) := by decide +kernel
theorem dX6_part_94 : decode cX6_part 94 = .ok (.iload_n 2, 1) := by decide +kernel
theorem dX6_part_95 : decode cX6_part 95 = .ok (.ifCond .eq 19, 3) := by decide +kernel
theorem dX6_part_98 : decode cX6_part 98 = .ok (.aload_n 0, 1) := by decide +kernel
theorem dX6_part_99 : decode cX6_part 99 = .ok (.getfield 111, 3) := by decide +kernel
theorem dX6_part_102 : decode cX6_part 102 = .ok (.sipush 9999, 3) := by decide +kernel
theorem dX6_part_105 : decode cX6_part 105 = .ok (.if_icmp .le 9, 3) := by decide +kernel
theorem dX6_part_108 : decode cX6_part 108 = .ok (.aload_n 0, 1) := by decide +kernel
theorem dX6_part_109 : decode cX6_part 109 = .ok (.iconst 2, 1) := by decide +kernel
theorem dX6_part_110 : decode cX6_part 110 = .ok (.invokevirtual 71, 3) := by decide +kernel
theorem dX6_part_113 : decode cX6_part 113 = .ok (.ireturn, 1) := by decide +kernel
theorem dX6_part_114 : decode cX6_part 114 = .ok (.aload_n 0, 1) := by decide +kernel
theorem dX6_part_115 : decode cX6_part 115 = .ok (.getfield 55, 3) := by decide +kernel
theorem dX6_part_118 : decode cX6_part 118 = .ok (.istore_n 3, 1) := by decide +kernel
theorem dX6_part_119 : decode cX6_part 119 = .ok (.aload_n 0, 1) := by decide +kernel
theorem dX6_part_120 : decode cX6_part 120 = .ok (.getfield 111, 3) := by decide +kernel
theorem dX6_part_123 : decode cX6_part 123 = .ok (.istore 4, 2) := by decide +kernel
theorem dX6_part_125 : decode cX6_part 125 = .ok (.aload_n 0, 1) := by decide +kernel
theorem dX6_part_126 : decode cX6_part 126 = .ok (.invokevirtual 124, 3) := by decide +kernel
theorem dX6_part_129 : decode cX6_part 129 = .ok (.ifCond .ne 5, 3) := by decide +kernel
theorem dX6_part_132 : decode cX6_part 132 = .ok (.iconst 0, 1) := by decide +kernel
theorem dX6_part_133 : decode cX6_part 133 = .ok (.ireturn, 1) := by decide +kernel
theorem dX6_part_134 : decode cX6_part 134 = .ok (.aload_n 0, 1) := by decide +kernel
theorem dX6_part_135 : decode cX6_part 135 = .ok (.iload_n 3, 1) := by decide +kernel
theorem dX6_part_136 : decode cX6_part 136 = .ok (.iload 4, 2) := by decide +kernel
theorem dX6_part_138 : decode cX6_part 138 = .ok (.invokevirtual 127, 3) := by decide +kernel
theorem dX6_part_141 : decode cX6_part 141 = .ok (.iconst 1, 1) := by decide +kernel
theorem dX6_part_142 : decode cX6_part 142 = .ok (.ireturn, 1) := by decide +kernel
theorem dX6_claimKnot_0 : decode cX6_claimKnot 0 = .ok (.aload_n 0, 1) := by decide +kernel
theorem dX6_claimKnot_1 : decode cX6_claimKnot 1 = .ok (.getfield 46, 3) := by decide +kernel
theorem dX6_claimKnot_4 : decode cX6_claimKnot 4 = .ok (.bipush 64, 2) := by decide +kernel
theorem dX6_claimKnot_6 : decode cX6_claimKnot 6 = .ok (.if_icmp .lt 9, 3) := by decide +kernel
theorem dX6_claimKnot_9 : decode cX6_claimKnot 9 = .ok (.aload_n 0, 1) := by decide +kernel
theorem dX6_claimKnot_10 : decode cX6_claimKnot 10 = .ok (.iconst 2, 1) := by decide +kernel
theorem dX6_claimKnot_11 : decode cX6_claimKnot 11 = .ok (.invokevirtual 71, 3) := by decide +kernel
theorem dX6_claimKnot_14 : decode cX6_claimKnot 14 = .ok (.ireturn, 1) := by decide +kernel
theorem dX6_claimKnot_15 : decode cX6_claimKnot 15 = .ok (.aload_n 0, 1) := by decide +kernel
theorem dX6_claimKnot_16 : decode cX6_claimKnot 16 = .ok (.dup, 1) := by decide +kernel
theorem dX6_claimKnot_17 : decode cX6_claimKnot 17 = .ok (.getfield 46, 3) := by decide +kernel
theorem dX6_claimKnot_20 : decode cX6_claimKnot 20 = .ok (.iconst 1, 1) := by decide +kernel
theorem dX6_claimKnot_21 : decode cX6_claimKnot 21 = .ok (.iadd, 1) := by decide +kernel
theorem dX6_claimKnot_22 : decode cX6_claimKnot 22 = .ok (.putfield 46, 3) := by decide +kernel
theorem dX6_claimKnot_25 : decode cX6_claimKnot 25 = .ok (.aload_n 0, 1) := by decide +kernel
theorem dX6_claimKnot_26 : decode cX6_claimKnot 26 = .ok (.invokevirtual 52, 3) := by decide +kernel
theorem dX6_claimKnot_29 : decode cX6_claimKnot 29 = .ok (.iconst 1, 1) := by decide +kernel
theorem dX6_claimKnot_30 : decode cX6_claimKnot 30 = .ok (.ireturn, 1) := by decide +kernel
theorem dX6_emit_0 : decode cX6_emit 0 = .ok (.aload_n 0, 1) := by decide +kernel
theorem dX6_emit_1 : decode cX6_emit 1 = .ok (.getfield 22, 3) := by decide +kernel
theorem dX6_emit_4 : decode cX6_emit 4 = .ok (.getfield 131, 3) := by decide +kernel
theorem dX6_emit_7 : decode cX6_emit 7 = .ok (.bipush 64, 2) := by decide +kernel
theorem dX6_emit_9 : decode cX6_emit 9 = .ok (.if_icmp .ge 48, 3) := by decide +kernel
theorem dX6_emit_12 : decode cX6_emit 12 = .ok (.aload_n 0, 1) := by decide +kernel
theorem dX6_emit_13 : decode cX6_emit 13 = .ok (.getfield 22, 3) := by decide +kernel
theorem dX6_emit_16 : decode cX6_emit 16 = .ok (.getfield 134, 3) := by decide +kernel
theorem dX6_emit_19 : decode cX6_emit 19 = .ok (.aload_n 0, 1) := by decide +kernel
theorem dX6_emit_20 : decode cX6_emit 20 = .ok (.getfield 22, 3) := by decide +kernel
theorem dX6_emit_23 : decode cX6_emit 23 = .ok (.getfield 131, 3) := by decide +kernel
theorem dX6_emit_26 : decode cX6_emit 26 = .ok (.iload_n 1, 1) := by decide +kernel
theorem dX6_emit_27 : decode cX6_emit 27 = .ok (.iastore, 1) := by decide +kernel
theorem dX6_emit_28 : decode cX6_emit 28 = .ok (.aload_n 0, 1) := by decide +kernel
theorem dX6_emit_29 : decode cX6_emit 29 = .ok (.getfield 22, 3) := by decide +kernel
theorem dX6_emit_32 : decode cX6_emit 32 = .ok (.getfield 137, 3) := by decide +kernel
theorem dX6_emit_35 : decode cX6_emit 35 = .ok (.aload_n 0, 1) := by decide +kernel
theorem dX6_emit_36 : decode cX6_emit 36 = .ok (.getfield 22, 3) := by decide +kernel
theorem dX6_emit_39 : decode cX6_emit 39 = .ok (.getfield 131, 3) := by decide +kernel
theorem dX6_emit_42 : decode cX6_emit 42 = .ok (.iload_n 2, 1) := by decide +kernel
theorem dX6_emit_43 : decode cX6_emit 43 = .ok (.iastore, 1) := by decide +kernel
theorem dX6_emit_44 : decode cX6_emit 44 = .ok (.aload_n 0, 1) := by decide +kernel
theorem dX6_emit_45 : decode cX6_emit 45 = .ok (.getfield 22, 3) := by decide +kernel
theorem dX6_emit_48 : decode cX6_emit 48 = .ok (.dup, 1) := by decide +kernel
theorem dX6_emit_49 : decode cX6_emit 49 = .ok (.getfield 131, 3) := by decide +kernel
theorem dX6_emit_52 : decode cX6_emit 52 = .ok (.iconst 1, 1) := by decide +kernel
theorem dX6_emit_53 : decode cX6_emit 53 = .ok (.iadd, 1) := by decide +kernel
theorem dX6_emit_54 : decode cX6_emit 54 = .ok (.putfield 131, 3) := by decide +kernel
theorem dX6_emit_57 : decode cX6_emit 57 = .ok (.return_, 1) := by decide +kernel
theorem dX6_rankOf_0 : decode cX6_rankOf 0 = .ok (.iload_n 0, 1) := by decide +kernel
theorem dX6_rankOf_1 : decode cX6_rankOf 1 = .ok (.tableswitch 51 18 24 #[45, 43, 51, 47, 47, 49, 49], 43) := by decide +kernel
theorem dX6_rankOf_44 : decode cX6_rankOf 44 = .ok (.iconst 0, 1) := by decide +kernel
theorem dX6_rankOf_45 : decode cX6_rankOf 45 = .ok (.ireturn, 1) := by decide +kernel
theorem dX6_rankOf_46 : decode cX6_rankOf 46 = .ok (.iconst 1, 1) := by decide +kernel
theorem dX6_rankOf_47 : decode cX6_rankOf 47 = .ok (.ireturn, 1) := by decide +kernel
theorem dX6_rankOf_48 : decode cX6_rankOf 48 = .ok (.iconst 4, 1) := by decide +kernel
theorem dX6_rankOf_49 : decode cX6_rankOf 49 = .ok (.ireturn, 1) := by decide +kernel
theorem dX6_rankOf_50 : decode cX6_rankOf 50 = .ok (.iconst 5, 1) := by decide +kernel
theorem dX6_rankOf_51 : decode cX6_rankOf 51 = .ok (.ireturn, 1) := by decide +kernel
theorem dX6_rankOf_52 : decode cX6_rankOf 52 = .ok (.iload_n 0, 1) := by decide +kernel
theorem dX6_rankOf_53 : decode cX6_rankOf 53 = .ok (.bipush 25, 2) := by decide +kernel
theorem dX6_rankOf_55 : decode cX6_rankOf 55 = .ok (.if_icmp .lt 13, 3) := by decide +kernel
theorem dX6_rankOf_58 : decode cX6_rankOf 58 = .ok (.iload_n 0, 1) := by decide +kernel
theorem dX6_rankOf_59 : decode cX6_rankOf 59 = .ok (.bipush 30, 2) := by decide +kernel
theorem dX6_rankOf_61 : decode cX6_rankOf 61 = .ok (.if_icmp .gt 7, 3) := by decide +kernel
theorem dX6_rankOf_64 : decode cX6_rankOf 64 = .ok (.iconst 3, 1) := by decide +kernel
theorem dX6_rankOf_65 : decode cX6_rankOf 65 = .ok (.goto 4, 3) := by decide +kernel
theorem dX6_rankOf_68 : decode cX6_rankOf 68 = .ok (.iconst (-1), 1) := by decide +kernel
theorem dX6_rankOf_69 : decode cX6_rankOf 69 = .ok (.ireturn, 1) := by decide +kernel
theorem dX6_advance_0 : decode cX6_advance 0 = .ok (.aload_n 0, 1) := by decide +kernel
theorem dX6_advance_1 : decode cX6_advance 1 = .ok (.getfield 40, 3) := by decide +kernel
theorem dX6_advance_4 : decode cX6_advance 4 = .ok (.aload_n 0, 1) := by decide +kernel
theorem dX6_advance_5 : decode cX6_advance 5 = .ok (.getfield 37, 3) := by decide +kernel
theorem dX6_advance_8 : decode cX6_advance 8 = .ok (.if_icmp .ge 44, 3) := by decide +kernel
theorem dX6_advance_11 : decode cX6_advance 11 = .ok (.aload_n 0, 1) := by decide +kernel
theorem dX6_advance_12 : decode cX6_advance 12 = .ok (.getfield 15, 3) := by decide +kernel
theorem dX6_advance_15 : decode cX6_advance 15 = .ok (.aload_n 0, 1) := by decide +kernel
theorem dX6_advance_16 : decode cX6_advance 16 = .ok (.getfield 40, 3) := by decide +kernel
theorem dX6_advance_19 : decode cX6_advance 19 = .ok (.iaload, 1) := by decide +kernel
theorem dX6_advance_20 : decode cX6_advance 20 = .ok (.bipush 32, 2) := by decide +kernel
theorem dX6_advance_22 : decode cX6_advance 22 = .ok (.if_icmp .eq 17, 3) := by decide +kernel
theorem dX6_advance_25 : decode cX6_advance 25 = .ok (.aload_n 0, 1) := by decide +kernel
theorem dX6_advance_26 : decode cX6_advance 26 = .ok (.getfield 15, 3) := by decide +kernel
theorem dX6_advance_29 : decode cX6_advance 29 = .ok (.aload_n 0, 1) := by decide +kernel
theorem dX6_advance_30 : decode cX6_advance 30 = .ok (.getfield 40, 3) := by decide +kernel
theorem dX6_advance_33 : decode cX6_advance 33 = .ok (.iaload, 1) := by decide +kernel
theorem dX6_advance_34 : decode cX6_advance 34 = .ok (.bipush 10, 2) := by decide +kernel
theorem dX6_advance_36 : decode cX6_advance 36 = .ok (.if_icmp .ne 16, 3) := by decide +kernel
theorem dX6_advance_39 : decode cX6_advance 39 = .ok (.aload_n 0, 1) := by decide +kernel
theorem dX6_advance_40 : decode cX6_advance 40 = .ok (.dup, 1) := by decide +kernel
theorem dX6_advance_41 : decode cX6_advance 41 = .ok (.getfield 40, 3) := by decide +kernel
theorem dX6_advance_44 : decode cX6_advance 44 = .ok (.iconst 1, 1) := by decide +kernel
theorem dX6_advance_45 : decode cX6_advance 45 = .ok (.iadd, 1) := by decide +kernel
theorem dX6_advance_46 : decode cX6_advance 46 = .ok (.putfield 40, 3) := by decide +kernel
theorem dX6_advance_49 : decode cX6_advance 49 = .ok (.goto (-49), 3) := by decide +kernel
theorem dX6_advance_52 : decode cX6_advance 52 = .ok (.aload_n 0, 1) := by decide +kernel
theorem dX6_advance_53 : decode cX6_advance 53 = .ok (.aload_n 0, 1) := by decide +kernel
theorem dX6_advance_54 : decode cX6_advance 54 = .ok (.getfield 40, 3) := by decide +kernel
theorem dX6_advance_57 : decode cX6_advance 57 = .ok (.putfield 68, 3) := by decide +kernel
theorem dX6_advance_60 : decode cX6_advance 60 = .ok (.aload_n 0, 1) := by decide +kernel
theorem dX6_advance_61 : decode cX6_advance 61 = .ok (.getfield 40, 3) := by decide +kernel
theorem dX6_advance_64 : decode cX6_advance 64 = .ok (.aload_n 0, 1) := by decide +kernel
theorem dX6_advance_65 : decode cX6_advance 65 = .ok (.getfield 37, 3) := by decide +kernel
theorem dX6_advance_68 : decode cX6_advance 68 = .ok (.if_icmp .lt 12, 3) := by decide +kernel
theorem dX6_advance_71 : decode cX6_advance 71 = .ok (.aload_n 0, 1) := by decide +kernel
theorem dX6_advance_72 : decode cX6_advance 72 = .ok (.bipush 34, 2) := by decide +kernel
theorem dX6_advance_74 : decode cX6_advance 74 = .ok (.putfield 55, 3) := by decide +kernel
theorem dX6_advance_77 : decode cX6_advance 77 = .ok (.goto 60, 3) := by decide +kernel
theorem dX6_advance_80 : decode cX6_advance 80 = .ok (.aload_n 0, 1) := by decide +kernel
theorem dX6_advance_81 : decode cX6_advance 81 = .ok (.getfield 15, 3) := by decide +kernel
theorem dX6_advance_84 : decode cX6_advance 84 = .ok (.aload_n 0, 1) := by decide +kernel
theorem dX6_advance_85 : decode cX6_advance 85 = .ok (.getfield 40, 3) := by decide +kernel
theorem dX6_advance_88 : decode cX6_advance 88 = .ok (.iaload, 1) := by decide +kernel
theorem dX6_advance_89 : decode cX6_advance 89 = .ok (.invokestatic 139, 3) := by decide +kernel
theorem dX6_advance_92 : decode cX6_advance 92 = .ok (.ifCond .eq 10, 3) := by decide +kernel
theorem dX6_advance_95 : decode cX6_advance 95 = .ok (.aload_n 0, 1) := by decide +kernel
theorem dX6_advance_96 : decode cX6_advance 96 = .ok (.invokevirtual 142, 3) := by decide +kernel
theorem dX6_advance_99 : decode cX6_advance 99 = .ok (.goto 38, 3) := by decide +kernel
theorem dX6_advance_102 : decode cX6_advance 102 = .ok (.aload_n 0, 1) := by decide +kernel
theorem dX6_advance_103 : decode cX6_advance 103 = .ok (.getfield 15, 3) := by decide +kernel
theorem dX6_advance_106 : decode cX6_advance 106 = .ok (.aload_n 0, 1) := by decide +kernel
theorem dX6_advance_107 : decode cX6_advance 107 = .ok (.getfield 40, 3) := by decide +kernel
theorem dX6_advance_110 : decode cX6_advance 110 = .ok (.iaload, 1) := by decide +kernel
theorem dX6_advance_111 : decode cX6_advance 111 = .ok (.invokestatic 145, 3) := by decide +kernel
theorem dX6_advance_114 : decode cX6_advance 114 = .ok (.ifCond .eq 10, 3) := by decide +kernel
theorem dX6_advance_117 : decode cX6_advance 117 = .ok (.aload_n 0, 1) := by decide +kernel
theorem dX6_advance_118 : decode cX6_advance 118 = .ok (.invokevirtual 148, 3) := by decide +kernel
theorem dX6_advance_121 : decode cX6_advance 121 = .ok (.goto 16, 3) := by decide +kernel
theorem dX6_advance_124 : decode cX6_advance 124 = .ok (.aload_n 0, 1) := by decide +kernel
theorem dX6_advance_125 : decode cX6_advance 125 = .ok (.aload_n 0, 1) := by decide +kernel
theorem dX6_advance_126 : decode cX6_advance 126 = .ok (.getfield 15, 3) := by decide +kernel
theorem dX6_advance_129 : decode cX6_advance 129 = .ok (.aload_n 0, 1) := by decide +kernel
theorem dX6_advance_130 : decode cX6_advance 130 = .ok (.getfield 40, 3) := by decide +kernel
theorem dX6_advance_133 : decode cX6_advance 133 = .ok (.iaload, 1) := by decide +kernel
theorem dX6_advance_134 : decode cX6_advance 134 = .ok (.invokevirtual 151, 3) := by decide +kernel
theorem dX6_advance_137 : decode cX6_advance 137 = .ok (.return_, 1) := by decide +kernel
theorem dX6_isLetter_0 : decode cX6_isLetter 0 = .ok (.iload_n 0, 1) := by decide +kernel
theorem dX6_isLetter_1 : decode cX6_isLetter 1 = .ok (.bipush 97, 2) := by decide +kernel
theorem dX6_isLetter_3 : decode cX6_isLetter 3 = .ok (.if_icmp .lt 13, 3) := by decide +kernel
theorem dX6_isLetter_6 : decode cX6_isLetter 6 = .ok (.iload_n 0, 1) := by decide +kernel
theorem dX6_isLetter_7 : decode cX6_isLetter 7 = .ok (.bipush 122, 2) := by decide +kernel
theorem dX6_isLetter_9 : decode cX6_isLetter 9 = .ok (.if_icmp .gt 7, 3) := by decide +kernel
theorem dX6_isLetter_12 : decode cX6_isLetter 12 = .ok (.iconst 1, 1) := by decide +kernel
theorem dX6_isLetter_13 : decode cX6_isLetter 13 = .ok (.goto 4, 3) := by decide +kernel
theorem dX6_isLetter_16 : decode cX6_isLetter 16 = .ok (.iconst 0, 1) := by decide +kernel
theorem dX6_isLetter_17 : decode cX6_isLetter 17 = .ok (.ireturn, 1) := by decide +kernel
theorem dX6_isDigit_0 : decode cX6_isDigit 0 = .ok (.iload_n 0, 1) := by decide +kernel
theorem dX6_isDigit_1 : decode cX6_isDigit 1 = .ok (.bipush 48, 2) := by decide +kernel
theorem dX6_isDigit_3 : decode cX6_isDigit 3 = .ok (.if_icmp .lt 13, 3) := by decide +kernel
theorem dX6_isDigit_6 : decode cX6_isDigit 6 = .ok (.iload_n 0, 1) := by decide +kernel
theorem dX6_isDigit_7 : decode cX6_isDigit 7 = .ok (.bipush 57, 2) := by decide +kernel
theorem dX6_isDigit_9 : decode cX6_isDigit 9 = .ok (.if_icmp .gt 7, 3) := by decide +kernel
theorem dX6_isDigit_12 : decode cX6_isDigit 12 = .ok (.iconst 1, 1) := by decide +kernel
theorem dX6_isDigit_13 : decode cX6_isDigit 13 = .ok (.goto 4, 3) := by decide +kernel
theorem dX6_isDigit_16 : decode cX6_isDigit 16 = .ok (.iconst 0, 1) := by decide +kernel
theorem dX6_isDigit_17 : decode cX6_isDigit 17 = .ok (.ireturn, 1) := by decide +kernel
theorem dX6_readWord_0 : decode cX6_readWord 0 = .ok (.aload_n 0, 1) := by decide +kernel
theorem dX6_readWord_1 : decode cX6_readWord 1 = .ok (.getfield 40, 3) := by decide +kernel
theorem dX6_readWord_4 : decode cX6_readWord 4 = .ok (.aload_n 0, 1) := by decide +kernel
theorem dX6_readWord_5 : decode cX6_readWord 5 = .ok (.getfield 37, 3) := by decide +kernel
theorem dX6_readWord_8 : decode cX6_readWord 8 = .ok (.if_icmp .ge 31, 3) := by decide +kernel
theorem dX6_readWord_11 : decode cX6_readWord 11 = .ok (.aload_n 0, 1) := by decide +kernel
theorem dX6_readWord_12 : decode cX6_readWord 12 = .ok (.getfield 15, 3) := by decide +kernel
theorem dX6_readWord_15 : decode cX6_readWord 15 = .ok (.aload_n 0, 1) := by decide +kernel
theorem dX6_readWord_16 : decode cX6_readWord 16 = .ok (.getfield 40, 3) := by decide +kernel
theorem dX6_readWord_19 : decode cX6_readWord 19 = .ok (.iaload, 1) := by decide +kernel
theorem dX6_readWord_20 : decode cX6_readWord 20 = .ok (.invokestatic 139, 3) := by decide +kernel
theorem dX6_readWord_23 : decode cX6_readWord 23 = .ok (.ifCond .eq 16, 3) := by decide +kernel
theorem dX6_readWord_26 : decode cX6_readWord 26 = .ok (.aload_n 0, 1) := by decide +kernel
theorem dX6_readWord_27 : decode cX6_readWord 27 = .ok (.dup, 1) := by decide +kernel
theorem dX6_readWord_28 : decode cX6_readWord 28 = .ok (.getfield 40, 3) := by decide +kernel
theorem dX6_readWord_31 : decode cX6_readWord 31 = .ok (.iconst 1, 1) := by decide +kernel
theorem dX6_readWord_32 : decode cX6_readWord 32 = .ok (.iadd, 1) := by decide +kernel
theorem dX6_readWord_33 : decode cX6_readWord 33 = .ok (.putfield 40, 3) := by decide +kernel
theorem dX6_readWord_36 : decode cX6_readWord 36 = .ok (.goto (-36), 3) := by decide +kernel
theorem dX6_readWord_39 : decode cX6_readWord 39 = .ok (.aload_n 0, 1) := by decide +kernel
theorem dX6_readWord_40 : decode cX6_readWord 40 = .ok (.aload_n 0, 1) := by decide +kernel
theorem dX6_readWord_41 : decode cX6_readWord 41 = .ok (.aload_n 0, 1) := by decide +kernel
theorem dX6_readWord_42 : decode cX6_readWord 42 = .ok (.getfield 68, 3) := by decide +kernel
theorem dX6_readWord_45 : decode cX6_readWord 45 = .ok (.aload_n 0, 1) := by decide +kernel
theorem dX6_readWord_46 : decode cX6_readWord 46 = .ok (.getfield 40, 3) := by decide +kernel
theorem dX6_readWord_49 : decode cX6_readWord 49 = .ok (.invokevirtual 155, 3) := by decide +kernel
theorem dX6_readWord_52 : decode cX6_readWord 52 = .ok (.putfield 55, 3) := by decide +kernel
theorem dX6_readWord_55 : decode cX6_readWord 55 = .ok (.return_, 1) := by decide +kernel
theorem dX6_wordBetween_0 : decode cX6_wordBetween 0 = .ok (.iconst 0, 1) := by decide +kernel
theorem dX6_wordBetween_1 : decode cX6_wordBetween 1 = .ok (.istore_n 3, 1) := by decide +kernel
theorem dX6_wordBetween_2 : decode cX6_wordBetween 2 = .ok (.iload_n 1, 1) := by decide +kernel
theorem dX6_wordBetween_3 : decode cX6_wordBetween 3 = .ok (.istore 4, 2) := by decide +kernel
theorem dX6_wordBetween_5 : decode cX6_wordBetween 5 = .ok (.iconst 1, 1) := by decide +kernel
theorem dX6_wordBetween_6 : decode cX6_wordBetween 6 = .ok (.istore 5, 2) := by decide +kernel
theorem dX6_wordBetween_8 : decode cX6_wordBetween 8 = .ok (.iconst 0, 1) := by decide +kernel
theorem dX6_wordBetween_9 : decode cX6_wordBetween 9 = .ok (.istore 6, 2) := by decide +kernel
theorem dX6_wordBetween_11 : decode cX6_wordBetween 11 = .ok (.iload 6, 2) := by decide +kernel
theorem dX6_wordBetween_13 : decode cX6_wordBetween 13 = .ok (.ldc 158, 2) := by decide +kernel
theorem dX6_wordBetween_15 : decode cX6_wordBetween 15 = .ok (.invokevirtual 160, 3) := by decide +kernel
theorem dX6_wordBetween_18 : decode cX6_wordBetween 18 = .ok (.if_icmp .ge 83, 3) := by decide +kernel
theorem dX6_wordBetween_21 : decode cX6_wordBetween 21 = .ok (.ldc 158, 2) := by decide +kernel
theorem dX6_wordBetween_23 : decode cX6_wordBetween 23 = .ok (.iload 6, 2) := by decide +kernel
theorem dX6_wordBetween_25 : decode cX6_wordBetween 25 = .ok (.invokevirtual 165, 3) := by decide +kernel
theorem dX6_wordBetween_28 : decode cX6_wordBetween 28 = .ok (.istore 7, 2) := by decide +kernel
theorem dX6_wordBetween_30 : decode cX6_wordBetween 30 = .ok (.iload 7, 2) := by decide +kernel
theorem dX6_wordBetween_32 : decode cX6_wordBetween 32 = .ok (.bipush 32, 2) := by decide +kernel
theorem dX6_wordBetween_34 : decode cX6_wordBetween 34 = .ok (.if_icmp .eq 39, 3) := by decide +kernel
theorem dX6_wordBetween_37 : decode cX6_wordBetween 37 = .ok (.iload 5, 2) := by decide +kernel
theorem dX6_wordBetween_39 : decode cX6_wordBetween 39 = .ok (.ifCond .eq 25, 3) := by decide +kernel
theorem dX6_wordBetween_42 : decode cX6_wordBetween 42 = .ok (.iload 4, 2) := by decide +kernel
theorem dX6_wordBetween_44 : decode cX6_wordBetween 44 = .ok (.iload_n 2, 1) := by decide +kernel
theorem dX6_wordBetween_45 : decode cX6_wordBetween 45 = .ok (.if_icmp .ge 19, 3) := by decide +kernel
theorem dX6_wordBetween_48 : decode cX6_wordBetween 48 = .ok (.aload_n 0, 1) := by decide +kernel
theorem dX6_wordBetween_49 : decode cX6_wordBetween 49 = .ok (.getfield 15, 3) := by decide +kernel
theorem dX6_wordBetween_52 : decode cX6_wordBetween 52 = .ok (.iload 4, 2) := by decide +kernel
theorem dX6_wordBetween_54 : decode cX6_wordBetween 54 = .ok (.iaload, 1) := by decide +kernel
theorem dX6_wordBetween_55 : decode cX6_wordBetween 55 = .ok (.iload 7, 2) := by decide +kernel
theorem dX6_wordBetween_57 : decode cX6_wordBetween 57 = .ok (.if_icmp .ne 7, 3) := by decide +kernel
theorem dX6_wordBetween_60 : decode cX6_wordBetween 60 = .ok (.iconst 1, 1) := by decide +kernel
theorem dX6_wordBetween_61 : decode cX6_wordBetween 61 = .ok (.goto 4, 3) := by decide +kernel
theorem dX6_wordBetween_64 : decode cX6_wordBetween 64 = .ok (.iconst 0, 1) := by decide +kernel
theorem dX6_wordBetween_65 : decode cX6_wordBetween 65 = .ok (.istore 5, 2) := by decide +kernel
theorem dX6_wordBetween_67 : decode cX6_wordBetween 67 = .ok (.iinc 4 1, 3) := by decide +kernel
theorem dX6_wordBetween_70 : decode cX6_wordBetween 70 = .ok (.goto 25, 3) := by decide +kernel
theorem dX6_wordBetween_73 : decode cX6_wordBetween 73 = .ok (.iload 5, 2) := by decide +kernel
theorem dX6_wordBetween_75 : decode cX6_wordBetween 75 = .ok (.ifCond .eq 11, 3) := by decide +kernel
theorem dX6_wordBetween_78 : decode cX6_wordBetween 78 = .ok (.iload 4, 2) := by decide +kernel
theorem dX6_wordBetween_80 : decode cX6_wordBetween 80 = .ok (.iload_n 2, 1) := by decide +kernel
theorem dX6_wordBetween_81 : decode cX6_wordBetween 81 = .ok (.if_icmp .ne 5, 3) := by decide +kernel
theorem dX6_wordBetween_84 : decode cX6_wordBetween 84 = .ok (.iload_n 3, 1) := by decide +kernel
theorem dX6_wordBetween_85 : decode cX6_wordBetween 85 = .ok (.ireturn, 1) := by decide +kernel
theorem dX6_wordBetween_86 : decode cX6_wordBetween 86 = .ok (.iinc 3 1, 3) := by decide +kernel
theorem dX6_wordBetween_89 : decode cX6_wordBetween 89 = .ok (.iload_n 1, 1) := by decide +kernel
theorem dX6_wordBetween_90 : decode cX6_wordBetween 90 = .ok (.istore 4, 2) := by decide +kernel
theorem dX6_wordBetween_92 : decode cX6_wordBetween 92 = .ok (.iconst 1, 1) := by decide +kernel
theorem dX6_wordBetween_93 : decode cX6_wordBetween 93 = .ok (.istore 5, 2) := by decide +kernel
theorem dX6_wordBetween_95 : decode cX6_wordBetween 95 = .ok (.iinc 6 1, 3) := by decide +kernel
theorem dX6_wordBetween_98 : decode cX6_wordBetween 98 = .ok (.goto (-87), 3) := by decide +kernel
theorem dX6_wordBetween_101 : decode cX6_wordBetween 101 = .ok (.bipush 35, 2) := by decide +kernel
theorem dX6_wordBetween_103 : decode cX6_wordBetween 103 = .ok (.ireturn, 1) := by decide +kernel
theorem dX6_readNumber_0 : decode cX6_readNumber 0 = .ok (.aload_n 0, 1) := by decide +kernel
theorem dX6_readNumber_1 : decode cX6_readNumber 1 = .ok (.iconst 0, 1) := by decide +kernel
theorem dX6_readNumber_2 : decode cX6_readNumber 2 = .ok (.putfield 111, 3) := by decide +kernel
theorem dX6_readNumber_5 : decode cX6_readNumber 5 = .ok (.aload_n 0, 1) := by decide +kernel
theorem dX6_readNumber_6 : decode cX6_readNumber 6 = .ok (.getfield 40, 3) := by decide +kernel
theorem dX6_readNumber_9 : decode cX6_readNumber 9 = .ok (.aload_n 0, 1) := by decide +kernel
theorem dX6_readNumber_10 : decode cX6_readNumber 10 = .ok (.getfield 37, 3) := by decide +kernel
theorem dX6_readNumber_13 : decode cX6_readNumber 13 = .ok (.if_icmp .ge 65, 3) := by decide +kernel
theorem dX6_readNumber_16 : decode cX6_readNumber 16 = .ok (.aload_n 0, 1) := by decide +kernel
theorem dX6_readNumber_17 : decode cX6_readNumber 17 = .ok (.getfield 15, 3) := by decide +kernel
theorem dX6_readNumber_20 : decode cX6_readNumber 20 = .ok (.aload_n 0, 1) := by decide +kernel
theorem dX6_readNumber_21 : decode cX6_readNumber 21 = .ok (.getfield 40, 3) := by decide +kernel
theorem dX6_readNumber_24 : decode cX6_readNumber 24 = .ok (.iaload, 1) := by decide +kernel
theorem dX6_readNumber_25 : decode cX6_readNumber 25 = .ok (.invokestatic 145, 3) := by decide +kernel
theorem dX6_readNumber_28 : decode cX6_readNumber 28 = .ok (.ifCond .eq 50, 3) := by decide +kernel
theorem dX6_readNumber_31 : decode cX6_readNumber 31 = .ok (.aload_n 0, 1) := by decide +kernel
theorem dX6_readNumber_32 : decode cX6_readNumber 32 = .ok (.getfield 111, 3) := by decide +kernel
theorem dX6_readNumber_35 : decode cX6_readNumber 35 = .ok (.sipush 9999, 3) := by decide +kernel
theorem dX6_readNumber_38 : decode cX6_readNumber 38 = .ok (.if_icmp .gt 27, 3) := by decide +kernel
theorem dX6_readNumber_41 : decode cX6_readNumber 41 = .ok (.aload_n 0, 1) := by decide +kernel
theorem dX6_readNumber_42 : decode cX6_readNumber 42 = .ok (.aload_n 0, 1) := by decide +kernel
theorem dX6_readNumber_43 : decode cX6_readNumber 43 = .ok (.getfield 111, 3) := by decide +kernel
theorem dX6_readNumber_46 : decode cX6_readNumber 46 = .ok (.bipush 10, 2) := by decide +kernel
theorem dX6_readNumber_48 : decode cX6_readNumber 48 = .ok (.imul, 1) := by decide +kernel
theorem dX6_readNumber_49 : decode cX6_readNumber 49 = .ok (.aload_n 0, 1) := by decide +kernel
theorem dX6_readNumber_50 : decode cX6_readNumber 50 = .ok (.getfield 15, 3) := by decide +kernel
theorem dX6_readNumber_53 : decode cX6_readNumber 53 = .ok (.aload_n 0, 1) := by decide +kernel
theorem dX6_readNumber_54 : decode cX6_readNumber 54 = .ok (.getfield 40, 3) := by decide +kernel
theorem dX6_readNumber_57 : decode cX6_readNumber 57 = .ok (.iaload, 1) := by decide +kernel
theorem dX6_readNumber_58 : decode cX6_readNumber 58 = .ok (.iadd, 1) := by decide +kernel
theorem dX6_readNumber_59 : decode cX6_readNumber 59 = .ok (.bipush 48, 2) := by decide +kernel
theorem dX6_readNumber_61 : decode cX6_readNumber 61 = .ok (.isub, 1) := by decide +kernel
theorem dX6_readNumber_62 : decode cX6_readNumber 62 = .ok (.putfield 111, 3) := by decide +kernel
theorem dX6_readNumber_65 : decode cX6_readNumber 65 = .ok (.aload_n 0, 1) := by decide +kernel
theorem dX6_readNumber_66 : decode cX6_readNumber 66 = .ok (.dup, 1) := by decide +kernel
theorem dX6_readNumber_67 : decode cX6_readNumber 67 = .ok (.getfield 40, 3) := by decide +kernel
theorem dX6_readNumber_70 : decode cX6_readNumber 70 = .ok (.iconst 1, 1) := by decide +kernel
theorem dX6_readNumber_71 : decode cX6_readNumber 71 = .ok (.iadd, 1) := by decide +kernel
theorem dX6_readNumber_72 : decode cX6_readNumber 72 = .ok (.putfield 40, 3) := by decide +kernel
theorem dX6_readNumber_75 : decode cX6_readNumber 75 = .ok (.goto (-70), 3) := by decide +kernel
theorem dX6_readNumber_78 : decode cX6_readNumber 78 = .ok (.aload_n 0, 1) := by decide +kernel
theorem dX6_readNumber_79 : decode cX6_readNumber 79 = .ok (.bipush 20, 2) := by decide +kernel
theorem dX6_readNumber_81 : decode cX6_readNumber 81 = .ok (.putfield 55, 3) := by decide +kernel
theorem dX6_readNumber_84 : decode cX6_readNumber 84 = .ok (.return_, 1) := by decide +kernel
theorem dX6_readSign_0 : decode cX6_readSign 0 = .ok (.aload_n 0, 1) := by decide +kernel
theorem dX6_readSign_1 : decode cX6_readSign 1 = .ok (.dup, 1) := by decide +kernel
theorem dX6_readSign_2 : decode cX6_readSign 2 = .ok (.getfield 40, 3) := by decide +kernel
theorem dX6_readSign_5 : decode cX6_readSign 5 = .ok (.iconst 1, 1) := by decide +kernel
theorem dX6_readSign_6 : decode cX6_readSign 6 = .ok (.iadd, 1) := by decide +kernel
theorem dX6_readSign_7 : decode cX6_readSign 7 = .ok (.putfield 40, 3) := by decide +kernel
theorem dX6_readSign_10 : decode cX6_readSign 10 = .ok (.iload_n 1, 1) := by decide +kernel
theorem dX6_readSign_11 : decode cX6_readSign 11 = .ok (.tableswitch 237 40 62 #[210, 219, 192, 174, 237, 183, 237, 201, 237, 237, 237, 237, 237, 237, 237, 237, 237, 237, 237, 228, 105, 165, 142], 105) := by decide +kernel
theorem dX6_readSign_116 : decode cX6_readSign 116 = .ok (.aload_n 0, 1) := by decide +kernel
theorem dX6_readSign_117 : decode cX6_readSign 117 = .ok (.aload_n 0, 1) := by decide +kernel
theorem dX6_readSign_118 : decode cX6_readSign 118 = .ok (.bipush 61, 2) := by decide +kernel
theorem dX6_readSign_120 : decode cX6_readSign 120 = .ok (.invokevirtual 169, 3) := by decide +kernel
theorem dX6_readSign_123 : decode cX6_readSign 123 = .ok (.ifCond .eq 8, 3) := by decide +kernel
theorem dX6_readSign_126 : decode cX6_readSign 126 = .ok (.bipush 26, 2) := by decide +kernel
theorem dX6_readSign_128 : decode cX6_readSign 128 = .ok (.goto 19, 3) := by decide +kernel
theorem dX6_readSign_131 : decode cX6_readSign 131 = .ok (.aload_n 0, 1) := by decide +kernel
theorem dX6_readSign_132 : decode cX6_readSign 132 = .ok (.bipush 62, 2) := by decide +kernel
theorem dX6_readSign_134 : decode cX6_readSign 134 = .ok (.invokevirtual 169, 3) := by decide +kernel
theorem dX6_readSign_137 : decode cX6_readSign 137 = .ok (.ifCond .eq 8, 3) := by decide +kernel
theorem dX6_readSign_140 : decode cX6_readSign 140 = .ok (.bipush 28, 2) := by decide +kernel
theorem dX6_readSign_142 : decode cX6_readSign 142 = .ok (.goto 5, 3) := by decide +kernel
theorem dX6_readSign_145 : decode cX6_readSign 145 = .ok (.bipush 25, 2) := by decide +kernel
theorem dX6_readSign_147 : decode cX6_readSign 147 = .ok (.putfield 55, 3) := by decide +kernel
theorem dX6_readSign_150 : decode cX6_readSign 150 = .ok (.goto 104, 3) := by decide +kernel
theorem dX6_readSign_153 : decode cX6_readSign 153 = .ok (.aload_n 0, 1) := by decide +kernel
theorem dX6_readSign_154 : decode cX6_readSign 154 = .ok (.aload_n 0, 1) := by decide +kernel
theorem dX6_readSign_155 : decode cX6_readSign 155 = .ok (.bipush 61, 2) := by decide +kernel
theorem dX6_readSign_157 : decode cX6_readSign 157 = .ok (.invokevirtual 169, 3) := by decide +kernel
theorem dX6_readSign_160 : decode cX6_readSign 160 = .ok (.ifCond .eq 8, 3) := by decide +kernel
theorem dX6_readSign_163 : decode cX6_readSign 163 = .ok (.bipush 29, 2) := by decide +kernel
theorem dX6_readSign_165 : decode cX6_readSign 165 = .ok (.goto 5, 3) := by decide +kernel
theorem dX6_readSign_168 : decode cX6_readSign 168 = .ok (.bipush 30, 2) := by decide +kernel
theorem dX6_readSign_170 : decode cX6_readSign 170 = .ok (.putfield 55, 3) := by decide +kernel
theorem dX6_readSign_173 : decode cX6_readSign 173 = .ok (.goto 81, 3) := by decide +kernel
theorem dX6_readSign_176 : decode cX6_readSign 176 = .ok (.aload_n 0, 1) := by decide +kernel
theorem dX6_readSign_177 : decode cX6_readSign 177 = .ok (.bipush 27, 2) := by decide +kernel
theorem dX6_readSign_179 : decode cX6_readSign 179 = .ok (.putfield 55, 3) := by decide +kernel
theorem dX6_readSign_182 : decode cX6_readSign 182 = .ok (.goto 72, 3) := by decide +kernel
theorem dX6_readSign_185 : decode cX6_readSign 185 = .ok (.aload_n 0, 1) := by decide +kernel
theorem dX6_readSign_186 : decode cX6_readSign 186 = .ok (.bipush 21, 2) := by decide +kernel
theorem dX6_readSign_188 : decode cX6_readSign 188 = .ok (.putfield 55, 3) := by decide +kernel
theorem dX6_readSign_191 : decode cX6_readSign 191 = .ok (.goto 63, 3) := by decide +kernel
theorem dX6_readSign_194 : decode cX6_readSign 194 = .ok (.aload_n 0, 1) := by decide +kernel
theorem dX6_readSign_195 : decode cX6_readSign 195 = .ok (.bipush 22, 2) := by decide +kernel
theorem dX6_readSign_197 : decode cX6_readSign 197 = .ok (.putfield 55, 3) := by decide +kernel
theorem dX6_readSign_200 : decode cX6_readSign 200 = .ok (.goto 54, 3) := by decide +kernel
theorem dX6_readSign_203 : decode cX6_readSign 203 = .ok (.aload_n 0, 1) := by decide +kernel
theorem dX6_readSign_204 : decode cX6_readSign 204 = .ok (.bipush 23, 2) := by decide +kernel
theorem dX6_readSign_206 : decode cX6_readSign 206 = .ok (.putfield 55, 3) := by decide +kernel
theorem dX6_readSign_209 : decode cX6_readSign 209 = .ok (.goto 45, 3) := by decide +kernel
theorem dX6_readSign_212 : decode cX6_readSign 212 = .ok (.aload_n 0, 1) := by decide +kernel
theorem dX6_readSign_213 : decode cX6_readSign 213 = .ok (.bipush 24, 2) := by decide +kernel
theorem dX6_readSign_215 : decode cX6_readSign 215 = .ok (.putfield 55, 3) := by decide +kernel
theorem dX6_readSign_218 : decode cX6_readSign 218 = .ok (.goto 36, 3) := by decide +kernel
theorem dX6_readSign_221 : decode cX6_readSign 221 = .ok (.aload_n 0, 1) := by decide +kernel
theorem dX6_readSign_222 : decode cX6_readSign 222 = .ok (.bipush 31, 2) := by decide +kernel
theorem dX6_readSign_224 : decode cX6_readSign 224 = .ok (.putfield 55, 3) := by decide +kernel
theorem dX6_readSign_227 : decode cX6_readSign 227 = .ok (.goto 27, 3) := by decide +kernel
theorem dX6_readSign_230 : decode cX6_readSign 230 = .ok (.aload_n 0, 1) := by decide +kernel
theorem dX6_readSign_231 : decode cX6_readSign 231 = .ok (.bipush 32, 2) := by decide +kernel
theorem dX6_readSign_233 : decode cX6_readSign 233 = .ok (.putfield 55, 3) := by decide +kernel
theorem dX6_readSign_236 : decode cX6_readSign 236 = .ok (.goto 18, 3) := by decide +kernel
theorem dX6_readSign_239 : decode cX6_readSign 239 = .ok (.aload_n 0, 1) := by decide +kernel
theorem dX6_readSign_240 : decode cX6_readSign 240 = .ok (.bipush 33, 2) := by decide +kernel
theorem dX6_readSign_242 : decode cX6_readSign 242 = .ok (.putfield 55, 3) := by decide +kernel
theorem dX6_readSign_245 : decode cX6_readSign 245 = .ok (.goto 9, 3) := by decide +kernel
theorem dX6_readSign_248 : decode cX6_readSign 248 = .ok (.aload_n 0, 1) := by decide +kernel
theorem dX6_readSign_249 : decode cX6_readSign 249 = .ok (.bipush 35, 2) := by decide +kernel
theorem dX6_readSign_251 : decode cX6_readSign 251 = .ok (.putfield 55, 3) := by decide +kernel
theorem dX6_readSign_254 : decode cX6_readSign 254 = .ok (.return_, 1) := by decide +kernel
theorem dX6_follows_0 : decode cX6_follows 0 = .ok (.aload_n 0, 1) := by decide +kernel
theorem dX6_follows_1 : decode cX6_follows 1 = .ok (.getfield 40, 3) := by decide +kernel
theorem dX6_follows_4 : decode cX6_follows 4 = .ok (.aload_n 0, 1) := by decide +kernel
theorem dX6_follows_5 : decode cX6_follows 5 = .ok (.getfield 37, 3) := by decide +kernel
theorem dX6_follows_8 : decode cX6_follows 8 = .ok (.if_icmp .ge 28, 3) := by decide +kernel
theorem dX6_follows_11 : decode cX6_follows 11 = .ok (.aload_n 0, 1) := by decide +kernel
theorem dX6_follows_12 : decode cX6_follows 12 = .ok (.getfield 15, 3) := by decide +kernel
theorem dX6_follows_15 : decode cX6_follows 15 = .ok (.aload_n 0, 1) := by decide +kernel
theorem dX6_follows_16 : decode cX6_follows 16 = .ok (.getfield 40, 3) := by decide +kernel
theorem dX6_follows_19 : decode cX6_follows 19 = .ok (.iaload, 1) := by decide +kernel
theorem dX6_follows_20 : decode cX6_follows 20 = .ok (.iload_n 1, 1) := by decide +kernel
theorem dX6_follows_21 : decode cX6_follows 21 = .ok (.if_icmp .ne 15, 3) := by decide +kernel
theorem dX6_follows_24 : decode cX6_follows 24 = .ok (.aload_n 0, 1) := by decide +kernel
theorem dX6_follows_25 : decode cX6_follows 25 = .ok (.dup, 1) := by decide +kernel
theorem dX6_follows_26 : decode cX6_follows 26 = .ok (.getfield 40, 3) := by decide +kernel
theorem dX6_follows_29 : decode cX6_follows 29 = .ok (.iconst 1, 1) := by decide +kernel
theorem dX6_follows_30 : decode cX6_follows 30 = .ok (.iadd, 1) := by decide +kernel
theorem dX6_follows_31 : decode cX6_follows 31 = .ok (.putfield 40, 3) := by decide +kernel
theorem dX6_follows_34 : decode cX6_follows 34 = .ok (.iconst 1, 1) := by decide +kernel
theorem dX6_follows_35 : decode cX6_follows 35 = .ok (.ireturn, 1) := by decide +kernel
theorem dX6_follows_36 : decode cX6_follows 36 = .ok (.iconst 0, 1) := by decide +kernel
theorem dX6_follows_37 : decode cX6_follows 37 = .ok (.ireturn, 1) := by decide +kernel
