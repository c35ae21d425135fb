theorem dX12_sideOf_0 : decode cX12_sideOf 0 = .ok (.iconst 1, 1) := by decide +kernel
theorem dX12_sideOf_1 : decode cX12_sideOf 1 = .ok (.iload_n 0, 1) := by decide +kernel
theorem dX12_sideOf_2 : decode cX12_sideOf 2 = .ok (.iload_n 1, 1) := by decide +kernel
theorem dX12_sideOf_3 : decode cX12_sideOf 3 = .ok (.ishr, 1) := by decide +kernel
theorem dX12_sideOf_4 : decode cX12_sideOf 4 = .ok (.iconst 1, 1) := by decide +kernel
theorem dX12_sideOf_5 : decode cX12_sideOf 5 = .ok (.iand, 1) := by decide +kernel
theorem dX12_sideOf_6 : decode cX12_sideOf 6 = .ok (.isub, 1) := by decide +kernel
theorem dX12_sideOf_7 : decode cX12_sideOf 7 = .ok (.ireturn, 1) := by decide +kernel
theorem dX12_areBeside_0 : decode cX12_areBeside 0 = .ok (.iload_n 1, 1) := by decide +kernel
theorem dX12_areBeside_1 : decode cX12_areBeside 1 = .ok (.aload_n 0, 1) := by decide +kernel
theorem dX12_areBeside_2 : decode cX12_areBeside 2 = .ok (.getfield 269, 3) := by decide +kernel
theorem dX12_areBeside_5 : decode cX12_areBeside 5 = .ok (.irem, 1) := by decide +kernel
theorem dX12_areBeside_6 : decode cX12_areBeside 6 = .ok (.iload_n 2, 1) := by decide +kernel
theorem dX12_areBeside_7 : decode cX12_areBeside 7 = .ok (.aload_n 0, 1) := by decide +kernel
theorem dX12_areBeside_8 : decode cX12_areBeside 8 = .ok (.getfield 269, 3) := by decide +kernel
theorem dX12_areBeside_11 : decode cX12_areBeside 11 = .ok (.irem, 1) := by decide +kernel
theorem dX12_areBeside_12 : decode cX12_areBeside 12 = .ok (.isub, 1) := by decide +kernel
theorem dX12_areBeside_13 : decode cX12_areBeside 13 = .ok (.invokestatic 352, 3) := by decide +kernel
theorem dX12_areBeside_16 : decode cX12_areBeside 16 = .ok (.iload_n 1, 1) := by decide +kernel
theorem dX12_areBeside_17 : decode cX12_areBeside 17 = .ok (.aload_n 0, 1) := by decide +kernel
theorem dX12_areBeside_18 : decode cX12_areBeside 18 = .ok (.getfield 269, 3) := by decide +kernel
theorem dX12_areBeside_21 : decode cX12_areBeside 21 = .ok (.idiv, 1) := by decide +kernel
theorem dX12_areBeside_22 : decode cX12_areBeside 22 = .ok (.iload_n 2, 1) := by decide +kernel
theorem dX12_areBeside_23 : decode cX12_areBeside 23 = .ok (.aload_n 0, 1) := by decide +kernel
theorem dX12_areBeside_24 : decode cX12_areBeside 24 = .ok (.getfield 269, 3) := by decide +kernel
theorem dX12_areBeside_27 : decode cX12_areBeside 27 = .ok (.idiv, 1) := by decide +kernel
theorem dX12_areBeside_28 : decode cX12_areBeside 28 = .ok (.isub, 1) := by decide +kernel
theorem dX12_areBeside_29 : decode cX12_areBeside 29 = .ok (.invokestatic 352, 3) := by decide +kernel
theorem dX12_areBeside_32 : decode cX12_areBeside 32 = .ok (.iadd, 1) := by decide +kernel
theorem dX12_areBeside_33 : decode cX12_areBeside 33 = .ok (.iconst 1, 1) := by decide +kernel
theorem dX12_areBeside_34 : decode cX12_areBeside 34 = .ok (.if_icmp .ne 7, 3) := by decide +kernel
theorem dX12_areBeside_37 : decode cX12_areBeside 37 = .ok (.iconst 1, 1) := by decide +kernel
theorem dX12_areBeside_38 : decode cX12_areBeside 38 = .ok (.goto 4, 3) := by decide +kernel
theorem dX12_areBeside_41 : decode cX12_areBeside 41 = .ok (.iconst 0, 1) := by decide +kernel
theorem dX12_areBeside_42 : decode cX12_areBeside 42 = .ok (.ireturn, 1) := by decide +kernel
theorem dX12_wrongOnes_0 : decode cX12_wrongOnes 0 = .ok (.iconst 0, 1) := by decide +kernel
theorem dX12_wrongOnes_1 : decode cX12_wrongOnes 1 = .ok (.istore_n 2, 1) := by decide +kernel
theorem dX12_wrongOnes_2 : decode cX12_wrongOnes 2 = .ok (.iconst 0, 1) := by decide +kernel
theorem dX12_wrongOnes_3 : decode cX12_wrongOnes 3 = .ok (.istore_n 3, 1) := by decide +kernel
theorem dX12_wrongOnes_4 : decode cX12_wrongOnes 4 = .ok (.iload_n 3, 1) := by decide +kernel
theorem dX12_wrongOnes_5 : decode cX12_wrongOnes 5 = .ok (.aload_n 0, 1) := by decide +kernel
theorem dX12_wrongOnes_6 : decode cX12_wrongOnes 6 = .ok (.invokevirtual 287, 3) := by decide +kernel
theorem dX12_wrongOnes_9 : decode cX12_wrongOnes 9 = .ok (.if_icmp .ge 28, 3) := by decide +kernel
theorem dX12_wrongOnes_12 : decode cX12_wrongOnes 12 = .ok (.iload_n 2, 1) := by decide +kernel
theorem dX12_wrongOnes_13 : decode cX12_wrongOnes 13 = .ok (.aload_n 0, 1) := by decide +kernel
theorem dX12_wrongOnes_14 : decode cX12_wrongOnes 14 = .ok (.getfield 88, 3) := by decide +kernel
theorem dX12_wrongOnes_17 : decode cX12_wrongOnes 17 = .ok (.iconst 2, 1) := by decide +kernel
theorem dX12_wrongOnes_18 : decode cX12_wrongOnes 18 = .ok (.iload_n 3, 1) := by decide +kernel
theorem dX12_wrongOnes_19 : decode cX12_wrongOnes 19 = .ok (.imul, 1) := by decide +kernel
theorem dX12_wrongOnes_20 : decode cX12_wrongOnes 20 = .ok (.iconst 1, 1) := by decide +kernel
theorem dX12_wrongOnes_21 : decode cX12_wrongOnes 21 = .ok (.iadd, 1) := by decide +kernel
theorem dX12_wrongOnes_22 : decode cX12_wrongOnes 22 = .ok (.iload_n 1, 1) := by decide +kernel
theorem dX12_wrongOnes_23 : decode cX12_wrongOnes 23 = .ok (.iload_n 3, 1) := by decide +kernel
theorem dX12_wrongOnes_24 : decode cX12_wrongOnes 24 = .ok (.invokestatic 354, 3) := by decide +kernel
theorem dX12_wrongOnes_27 : decode cX12_wrongOnes 27 = .ok (.isub, 1) := by decide +kernel
theorem dX12_wrongOnes_28 : decode cX12_wrongOnes 28 = .ok (.iaload, 1) := by decide +kernel
theorem dX12_wrongOnes_29 : decode cX12_wrongOnes 29 = .ok (.iadd, 1) := by decide +kernel
theorem dX12_wrongOnes_30 : decode cX12_wrongOnes 30 = .ok (.istore_n 2, 1) := by decide +kernel
theorem dX12_wrongOnes_31 : decode cX12_wrongOnes 31 = .ok (.iinc 3 1, 3) := by decide +kernel
theorem dX12_wrongOnes_34 : decode cX12_wrongOnes 34 = .ok (.goto (-30), 3) := by decide +kernel
theorem dX12_wrongOnes_37 : decode cX12_wrongOnes 37 = .ok (.iload_n 2, 1) := by decide +kernel
theorem dX12_wrongOnes_38 : decode cX12_wrongOnes 38 = .ok (.ireturn, 1) := by decide +kernel
theorem dX12_pieces_0 : decode cX12_pieces 0 = .ok (.iload_n 1, 1) := by decide +kernel
theorem dX12_pieces_1 : decode cX12_pieces 1 = .ok (.istore_n 2, 1) := by decide +kernel
theorem dX12_pieces_2 : decode cX12_pieces 2 = .ok (.iconst 0, 1) := by decide +kernel
theorem dX12_pieces_3 : decode cX12_pieces 3 = .ok (.istore_n 3, 1) := by decide +kernel
theorem dX12_pieces_4 : decode cX12_pieces 4 = .ok (.iload_n 2, 1) := by decide +kernel
theorem dX12_pieces_5 : decode cX12_pieces 5 = .ok (.ifCond .eq 52, 3) := by decide +kernel
theorem dX12_pieces_8 : decode cX12_pieces 8 = .ok (.iload_n 2, 1) := by decide +kernel
theorem dX12_pieces_9 : decode cX12_pieces 9 = .ok (.iload_n 2, 1) := by decide +kernel
theorem dX12_pieces_10 : decode cX12_pieces 10 = .ok (.ineg, 1) := by decide +kernel
theorem dX12_pieces_11 : decode cX12_pieces 11 = .ok (.iand, 1) := by decide +kernel
theorem dX12_pieces_12 : decode cX12_pieces 12 = .ok (.istore 4, 2) := by decide +kernel
theorem dX12_pieces_14 : decode cX12_pieces 14 = .ok (.iconst 0, 1) := by decide +kernel
theorem dX12_pieces_15 : decode cX12_pieces 15 = .ok (.istore 5, 2) := by decide +kernel
theorem dX12_pieces_17 : decode cX12_pieces 17 = .ok (.iload 5, 2) := by decide +kernel
theorem dX12_pieces_19 : decode cX12_pieces 19 = .ok (.iload 4, 2) := by decide +kernel
theorem dX12_pieces_21 : decode cX12_pieces 21 = .ok (.if_icmp .eq 23, 3) := by decide +kernel
theorem dX12_pieces_24 : decode cX12_pieces 24 = .ok (.iload 4, 2) := by decide +kernel
theorem dX12_pieces_26 : decode cX12_pieces 26 = .ok (.istore 5, 2) := by decide +kernel
theorem dX12_pieces_28 : decode cX12_pieces 28 = .ok (.iload 4, 2) := by decide +kernel
theorem dX12_pieces_30 : decode cX12_pieces 30 = .ok (.aload_n 0, 1) := by decide +kernel
theorem dX12_pieces_31 : decode cX12_pieces 31 = .ok (.iload 4, 2) := by decide +kernel
theorem dX12_pieces_33 : decode cX12_pieces 33 = .ok (.invokevirtual 357, 3) := by decide +kernel
theorem dX12_pieces_36 : decode cX12_pieces 36 = .ok (.iload_n 1, 1) := by decide +kernel
theorem dX12_pieces_37 : decode cX12_pieces 37 = .ok (.iand, 1) := by decide +kernel
theorem dX12_pieces_38 : decode cX12_pieces 38 = .ok (.ior, 1) := by decide +kernel
theorem dX12_pieces_39 : decode cX12_pieces 39 = .ok (.istore 4, 2) := by decide +kernel
theorem dX12_pieces_41 : decode cX12_pieces 41 = .ok (.goto (-24), 3) := by decide +kernel
theorem dX12_pieces_44 : decode cX12_pieces 44 = .ok (.iload_n 2, 1) := by decide +kernel
theorem dX12_pieces_45 : decode cX12_pieces 45 = .ok (.iload 4, 2) := by decide +kernel
theorem dX12_pieces_47 : decode cX12_pieces 47 = .ok (.iconst (-1), 1) := by decide +kernel
theorem dX12_pieces_48 : decode cX12_pieces 48 = .ok (.ixor, 1) := by decide +kernel
theorem dX12_pieces_49 : decode cX12_pieces 49 = .ok (.iand, 1) := by decide +kernel
theorem dX12_pieces_50 : decode cX12_pieces 50 = .ok (.istore_n 2, 1) := by decide +kernel
theorem dX12_pieces_51 : decode cX12_pieces 51 = .ok (.iinc 3 1, 3) := by decide +kernel
theorem dX12_pieces_54 : decode cX12_pieces 54 = .ok (.goto (-50), 3) := by decide +kernel
theorem dX12_pieces_57 : decode cX12_pieces 57 = .ok (.iload_n 3, 1) := by decide +kernel
theorem dX12_pieces_58 : decode cX12_pieces 58 = .ok (.ireturn, 1) := by decide +kernel
theorem dX12_around_0 : decode cX12_around 0 = .ok (.iconst 0, 1) := by decide +kernel
theorem dX12_around_1 : decode cX12_around 1 = .ok (.istore_n 2, 1) := by decide +kernel
theorem dX12_around_2 : decode cX12_around 2 = .ok (.iconst 0, 1) := by decide +kernel
theorem dX12_around_3 : decode cX12_around 3 = .ok (.istore_n 3, 1) := by decide +kernel
theorem dX12_around_4 : decode cX12_around 4 = .ok (.iload_n 3, 1) := by decide +kernel
theorem dX12_around_5 : decode cX12_around 5 = .ok (.aload_n 0, 1) := by decide +kernel
theorem dX12_around_6 : decode cX12_around 6 = .ok (.invokevirtual 287, 3) := by decide +kernel
theorem dX12_around_9 : decode cX12_around 9 = .ok (.if_icmp .ge 103, 3) := by decide +kernel
theorem dX12_around_12 : decode cX12_around 12 = .ok (.iload_n 1, 1) := by decide +kernel
theorem dX12_around_13 : decode cX12_around 13 = .ok (.iload_n 3, 1) := by decide +kernel
theorem dX12_around_14 : decode cX12_around 14 = .ok (.ishr, 1) := by decide +kernel
theorem dX12_around_15 : decode cX12_around 15 = .ok (.iconst 1, 1) := by decide +kernel
theorem dX12_around_16 : decode cX12_around 16 = .ok (.iand, 1) := by decide +kernel
theorem dX12_around_17 : decode cX12_around 17 = .ok (.ifCond .ne 6, 3) := by decide +kernel
theorem dX12_around_20 : decode cX12_around 20 = .ok (.goto 86, 3) := by decide +kernel
theorem dX12_around_23 : decode cX12_around 23 = .ok (.iload_n 3, 1) := by decide +kernel
theorem dX12_around_24 : decode cX12_around 24 = .ok (.aload_n 0, 1) := by decide +kernel
theorem dX12_around_25 : decode cX12_around 25 = .ok (.getfield 269, 3) := by decide +kernel
theorem dX12_around_28 : decode cX12_around 28 = .ok (.irem, 1) := by decide +kernel
theorem dX12_around_29 : decode cX12_around 29 = .ok (.ifCond .le 11, 3) := by decide +kernel
theorem dX12_around_32 : decode cX12_around 32 = .ok (.iload_n 2, 1) := by decide +kernel
theorem dX12_around_33 : decode cX12_around 33 = .ok (.iconst 1, 1) := by decide +kernel
theorem dX12_around_34 : decode cX12_around 34 = .ok (.iload_n 3, 1) := by decide +kernel
theorem dX12_around_35 : decode cX12_around 35 = .ok (.iconst 1, 1) := by decide +kernel
theorem dX12_around_36 : decode cX12_around 36 = .ok (.isub, 1) := by decide +kernel
theorem dX12_around_37 : decode cX12_around 37 = .ok (.ishl, 1) := by decide +kernel
theorem dX12_around_38 : decode cX12_around 38 = .ok (.ior, 1) := by decide +kernel
theorem dX12_around_39 : decode cX12_around 39 = .ok (.istore_n 2, 1) := by decide +kernel
theorem dX12_around_40 : decode cX12_around 40 = .ok (.iload_n 3, 1) := by decide +kernel
theorem dX12_around_41 : decode cX12_around 41 = .ok (.aload_n 0, 1) := by decide +kernel
theorem dX12_around_42 : decode cX12_around 42 = .ok (.getfield 269, 3) := by decide +kernel
theorem dX12_around_45 : decode cX12_around 45 = .ok (.irem, 1) := by decide +kernel
theorem dX12_around_46 : decode cX12_around 46 = .ok (.aload_n 0, 1) := by decide +kernel
theorem dX12_around_47 : decode cX12_around 47 = .ok (.getfield 269, 3) := by decide +kernel
theorem dX12_around_50 : decode cX12_around 50 = .ok (.iconst 1, 1) := by decide +kernel
theorem dX12_around_51 : decode cX12_around 51 = .ok (.isub, 1) := by decide +kernel
theorem dX12_around_52 : decode cX12_around 52 = .ok (.if_icmp .ge 11, 3) := by decide +kernel
theorem dX12_around_55 : decode cX12_around 55 = .ok (.iload_n 2, 1) := by decide +kernel
theorem dX12_around_56 : decode cX12_around 56 = .ok (.iconst 1, 1) := by decide +kernel
theorem dX12_around_57 : decode cX12_around 57 = .ok (.iload_n 3, 1) := by decide +kernel
theorem dX12_around_58 : decode cX12_around 58 = .ok (.iconst 1, 1) := by decide +kernel
theorem dX12_around_59 : decode cX12_around 59 = .ok (.iadd, 1) := by decide +kernel
theorem dX12_around_60 : decode cX12_around 60 = .ok (.ishl, 1) := by decide +kernel
theorem dX12_around_61 : decode cX12_around 61 = .ok (.ior, 1) := by decide +kernel
theorem dX12_around_62 : decode cX12_around 62 = .ok (.istore_n 2, 1) := by decide +kernel
theorem dX12_around_63 : decode cX12_around 63 = .ok (.iload_n 3, 1) := by decide +kernel
theorem dX12_around_64 : decode cX12_around 64 = .ok (.aload_n 0, 1) := by decide +kernel
theorem dX12_around_65 : decode cX12_around 65 = .ok (.getfield 269, 3) := by decide +kernel
theorem dX12_around_68 : decode cX12_around 68 = .ok (.if_icmp .lt 14, 3) := by decide +kernel
theorem dX12_around_71 : decode cX12_around 71 = .ok (.iload_n 2, 1) := by decide +kernel
theorem dX12_around_72 : decode cX12_around 72 = .ok (.iconst 1, 1) := by decide +kernel
theorem dX12_around_73 : decode cX12_around 73 = .ok (.iload_n 3, 1) := by decide +kernel
theorem dX12_around_74 : decode cX12_around 74 = .ok (.aload_n 0, 1) := by decide +kernel
theorem dX12_around_75 : decode cX12_around 75 = .ok (.getfield 269, 3) := by decide +kernel
theorem dX12_around_78 : decode cX12_around 78 = .ok (.isub, 1) := by decide +kernel
theorem dX12_around_79 : decode cX12_around 79 = .ok (.ishl, 1) := by decide +kernel
theorem dX12_around_80 : decode cX12_around 80 = .ok (.ior, 1) := by decide +kernel
theorem dX12_around_81 : decode cX12_around 81 = .ok (.istore_n 2, 1) := by decide +kernel
theorem dX12_around_82 : decode cX12_around 82 = .ok (.iload_n 3, 1) := by decide +kernel
theorem dX12_around_83 : decode cX12_around 83 = .ok (.aload_n 0, 1) := by decide +kernel
theorem dX12_around_84 : decode cX12_around 84 = .ok (.invokevirtual 287, 3) := by decide +kernel
theorem dX12_around_87 : decode cX12_around 87 = .ok (.aload_n 0, 1) := by decide +kernel
theorem dX12_around_88 : decode cX12_around 88 = .ok (.getfield 269, 3) := by decide +kernel
theorem dX12_around_91 : decode cX12_around 91 = .ok (.isub, 1) := by decide +kernel
theorem dX12_around_92 : decode cX12_around 92 = .ok (.if_icmp .ge 14, 3) := by decide +kernel
theorem dX12_around_95 : decode cX12_around 95 = .ok (.iload_n 2, 1) := by decide +kernel
theorem dX12_around_96 : decode cX12_around 96 = .ok (.iconst 1, 1) := by decide +kernel
theorem dX12_around_97 : decode cX12_around 97 = .ok (.iload_n 3, 1) := by decide +kernel
theorem dX12_around_98 : decode cX12_around 98 = .ok (.aload_n 0, 1) := by decide +kernel
theorem dX12_around_99 : decode cX12_around 99 = .ok (.getfield 269, 3) := by decide +kernel
theorem dX12_around_102 : decode cX12_around 102 = .ok (.iadd, 1) := by decide +kernel
theorem dX12_around_103 : decode cX12_around 103 = .ok (.ishl, 1) := by decide +kernel
theorem dX12_around_104 : decode cX12_around 104 = .ok (.ior, 1) := by decide +kernel
theorem dX12_around_105 : decode cX12_around 105 = .ok (.istore_n 2, 1) := by decide +kernel
theorem dX12_around_106 : decode cX12_around 106 = .ok (.iinc 3 1, 3) := by decide +kernel
theorem dX12_around_109 : decode cX12_around 109 = .ok (.goto (-105), 3) := by decide +kernel
theorem dX12_around_112 : decode cX12_around 112 = .ok (.iload_n 2, 1) := by decide +kernel
theorem dX12_around_113 : decode cX12_around 113 = .ok (.ireturn, 1) := by decide +kernel
theorem dX12_cutOf_0 : decode cX12_cutOf 0 = .ok (.iconst 0, 1) := by decide +kernel
theorem dX12_cutOf_1 : decode cX12_cutOf 1 = .ok (.istore_n 2, 1) := by decide +kernel
theorem dX12_cutOf_2 : decode cX12_cutOf 2 = .ok (.iconst 0, 1) := by decide +kernel
theorem dX12_cutOf_3 : decode cX12_cutOf 3 = .ok (.istore_n 3, 1) := by decide +kernel
theorem dX12_cutOf_4 : decode cX12_cutOf 4 = .ok (.iload_n 3, 1) := by decide +kernel
theorem dX12_cutOf_5 : decode cX12_cutOf 5 = .ok (.aload_n 0, 1) := by decide +kernel
theorem dX12_cutOf_6 : decode cX12_cutOf 6 = .ok (.getfield 275, 3) := by decide +kernel
theorem dX12_cutOf_9 : decode cX12_cutOf 9 = .ok (.if_icmp .ge 69, 3) := by decide +kernel
theorem dX12_cutOf_12 : decode cX12_cutOf 12 = .ok (.iconst 1, 1) := by decide +kernel
theorem dX12_cutOf_13 : decode cX12_cutOf 13 = .ok (.istore 4, 2) := by decide +kernel
theorem dX12_cutOf_15 : decode cX12_cutOf 15 = .ok (.iload 4, 2) := by decide +kernel
theorem dX12_cutOf_17 : decode cX12_cutOf 17 = .ok (.aload_n 0, 1) := by decide +kernel
theorem dX12_cutOf_18 : decode cX12_cutOf 18 = .ok (.getfield 52, 3) := by decide +kernel
theorem dX12_cutOf_21 : decode cX12_cutOf 21 = .ok (.iload_n 3, 1) := by decide +kernel
theorem dX12_cutOf_22 : decode cX12_cutOf 22 = .ok (.iaload, 1) := by decide +kernel
theorem dX12_cutOf_23 : decode cX12_cutOf 23 = .ok (.if_icmp .gt 49, 3) := by decide +kernel
theorem dX12_cutOf_26 : decode cX12_cutOf 26 = .ok (.iload_n 2, 1) := by decide +kernel
theorem dX12_cutOf_27 : decode cX12_cutOf 27 = .ok (.iload_n 1, 1) := by decide +kernel
theorem dX12_cutOf_28 : decode cX12_cutOf 28 = .ok (.aload_n 0, 1) := by decide +kernel
theorem dX12_cutOf_29 : decode cX12_cutOf 29 = .ok (.getfield 49, 3) := by decide +kernel
theorem dX12_cutOf_32 : decode cX12_cutOf 32 = .ok (.bipush 6, 2) := by decide +kernel
theorem dX12_cutOf_34 : decode cX12_cutOf 34 = .ok (.iload_n 3, 1) := by decide +kernel
theorem dX12_cutOf_35 : decode cX12_cutOf 35 = .ok (.imul, 1) := by decide +kernel
theorem dX12_cutOf_36 : decode cX12_cutOf 36 = .ok (.iaload, 1) := by decide +kernel
theorem dX12_cutOf_37 : decode cX12_cutOf 37 = .ok (.invokestatic 354, 3) := by decide +kernel
theorem dX12_cutOf_40 : decode cX12_cutOf 40 = .ok (.iload_n 1, 1) := by decide +kernel
theorem dX12_cutOf_41 : decode cX12_cutOf 41 = .ok (.aload_n 0, 1) := by decide +kernel
theorem dX12_cutOf_42 : decode cX12_cutOf 42 = .ok (.getfield 49, 3) := by decide +kernel
theorem dX12_cutOf_45 : decode cX12_cutOf 45 = .ok (.bipush 6, 2) := by decide +kernel
theorem dX12_cutOf_47 : decode cX12_cutOf 47 = .ok (.iload_n 3, 1) := by decide +kernel
theorem dX12_cutOf_48 : decode cX12_cutOf 48 = .ok (.imul, 1) := by decide +kernel
theorem dX12_cutOf_49 : decode cX12_cutOf 49 = .ok (.iload 4, 2) := by decide +kernel
theorem dX12_cutOf_51 : decode cX12_cutOf 51 = .ok (.iadd, 1) := by decide +kernel
theorem dX12_cutOf_52 : decode cX12_cutOf 52 = .ok (.iaload, 1) := by decide +kernel
theorem dX12_cutOf_53 : decode cX12_cutOf 53 = .ok (.invokestatic 354, 3) := by decide +kernel
theorem dX12_cutOf_56 : decode cX12_cutOf 56 = .ok (.if_icmp .eq 7, 3) := by decide +kernel
theorem dX12_cutOf_59 : decode cX12_cutOf 59 = .ok (.iconst 1, 1) := by decide +kernel
theorem dX12_cutOf_60 : decode cX12_cutOf 60 = .ok (.goto 4, 3) := by decide +kernel
theorem dX12_cutOf_63 : decode cX12_cutOf 63 = .ok (.iconst 0, 1) := by decide +kernel
theorem dX12_cutOf_64 : decode cX12_cutOf 64 = .ok (.iadd, 1) := by decide +kernel
theorem dX12_cutOf_65 : decode cX12_cutOf 65 = .ok (.istore_n 2, 1) := by decide +kernel
theorem dX12_cutOf_66 : decode cX12_cutOf 66 = .ok (.iinc 4 1, 3) := by decide +kernel
theorem dX12_cutOf_69 : decode cX12_cutOf 69 = .ok (.goto (-54), 3) := by decide +kernel
theorem dX12_cutOf_72 : decode cX12_cutOf 72 = .ok (.iinc 3 1, 3) := by decide +kernel
theorem dX12_cutOf_75 : decode cX12_cutOf 75 = .ok (.goto (-71), 3) := by decide +kernel
theorem dX12_cutOf_78 : decode cX12_cutOf 78 = .ok (.iload_n 2, 1) := by decide +kernel
theorem dX12_cutOf_79 : decode cX12_cutOf 79 = .ok (.ireturn, 1) := by decide +kernel
theorem dX12_severed_0 : decode cX12_severed 0 = .ok (.iconst 0, 1) := by decide +kernel
theorem dX12_severed_1 : decode cX12_severed 1 = .ok (.istore_n 2, 1) := by decide +kernel
theorem dX12_severed_2 : decode cX12_severed 2 = .ok (.iconst 0, 1) := by decide +kernel
theorem dX12_severed_3 : decode cX12_severed 3 = .ok (.istore_n 3, 1) := by decide +kernel
theorem dX12_severed_4 : decode cX12_severed 4 = .ok (.iload_n 3, 1) := by decide +kernel
theorem dX12_severed_5 : decode cX12_severed 5 = .ok (.aload_n 0, 1) := by decide +kernel
theorem dX12_severed_6 : decode cX12_severed 6 = .ok (.invokevirtual 287, 3) := by decide +kernel
theorem dX12_severed_9 : decode cX12_severed 9 = .ok (.if_icmp .ge 113, 3) := by decide +kernel
theorem dX12_severed_12 : decode cX12_severed 12 = .ok (.aload_n 0, 1) := by decide +kernel
theorem dX12_severed_13 : decode cX12_severed 13 = .ok (.getfield 42, 3) := by decide +kernel
theorem dX12_severed_16 : decode cX12_severed 16 = .ok (.iload_n 3, 1) := by decide +kernel
theorem dX12_severed_17 : decode cX12_severed 17 = .ok (.baload, 1) := by decide +kernel
theorem dX12_severed_18 : decode cX12_severed 18 = .ok (.ifCond .ne 6, 3) := by decide +kernel
theorem dX12_severed_21 : decode cX12_severed 21 = .ok (.goto 95, 3) := by decide +kernel
theorem dX12_severed_24 : decode cX12_severed 24 = .ok (.iload_n 3, 1) := by decide +kernel
theorem dX12_severed_25 : decode cX12_severed 25 = .ok (.aload_n 0, 1) := by decide +kernel
theorem dX12_severed_26 : decode cX12_severed 26 = .ok (.getfield 269, 3) := by decide +kernel
theorem dX12_severed_29 : decode cX12_severed 29 = .ok (.irem, 1) := by decide +kernel
theorem dX12_severed_30 : decode cX12_severed 30 = .ok (.aload_n 0, 1) := by decide +kernel
theorem dX12_severed_31 : decode cX12_severed 31 = .ok (.getfield 269, 3) := by decide +kernel
theorem dX12_severed_34 : decode cX12_severed 34 = .ok (.iconst 1, 1) := by decide +kernel
theorem dX12_severed_35 : decode cX12_severed 35 = .ok (.isub, 1) := by decide +kernel
theorem dX12_severed_36 : decode cX12_severed 36 = .ok (.if_icmp .ge 32, 3) := by decide +kernel
theorem dX12_severed_39 : decode cX12_severed 39 = .ok (.aload_n 0, 1) := by decide +kernel
theorem dX12_severed_40 : decode cX12_severed 40 = .ok (.getfield 42, 3) := by decide +kernel
theorem dX12_severed_43 : decode cX12_severed 43 = .ok (.iload_n 3, 1) := by decide +kernel
theorem dX12_severed_44 : decode cX12_severed 44 = .ok (.iconst 1, 1) := by decide +kernel
theorem dX12_severed_45 : decode cX12_severed 45 = .ok (.iadd, 1) := by decide +kernel
theorem dX12_severed_46 : decode cX12_severed 46 = .ok (.baload, 1) := by decide +kernel
theorem dX12_severed_47 : decode cX12_severed 47 = .ok (.ifCond .eq 21, 3) := by decide +kernel
theorem dX12_severed_50 : decode cX12_severed 50 = .ok (.iload_n 1, 1) := by decide +kernel
theorem dX12_severed_51 : decode cX12_severed 51 = .ok (.iload_n 3, 1) := by decide +kernel
theorem dX12_severed_52 : decode cX12_severed 52 = .ok (.invokestatic 354, 3) := by decide +kernel
theorem dX12_severed_55 : decode cX12_severed 55 = .ok (.iload_n 1, 1) := by decide +kernel
theorem dX12_severed_56 : decode cX12_severed 56 = .ok (.iload_n 3, 1) := by decide +kernel
theorem dX12_severed_57 : decode cX12_severed 57 = .ok (.iconst 1, 1) := by decide +kernel
theorem dX12_severed_58 : decode cX12_severed 58 = .ok (.iadd, 1) := by decide +kernel
theorem dX12_severed_59 : decode cX12_severed 59 = .ok (.invokestatic 354, 3) := by decide +kernel
theorem dX12_severed_62 : decode cX12_severed 62 = .ok (.if_icmp .eq 6, 3) := by decide +kernel
theorem dX12_severed_65 : decode cX12_severed 65 = .ok (.iinc 2 1, 3) := by decide +kernel
theorem dX12_severed_68 : decode cX12_severed 68 = .ok (.iload_n 3, 1) := by decide +kernel
theorem dX12_severed_69 : decode cX12_severed 69 = .ok (.aload_n 0, 1) := by decide +kernel
theorem dX12_severed_70 : decode cX12_severed 70 = .ok (.getfield 269, 3) := by decide +kernel
theorem dX12_severed_73 : decode cX12_severed 73 = .ok (.iadd, 1) := by decide +kernel
theorem dX12_severed_74 : decode cX12_severed 74 = .ok (.aload_n 0, 1) := by decide +kernel
theorem dX12_severed_75 : decode cX12_severed 75 = .ok (.invokevirtual 287, 3) := by decide +kernel
theorem dX12_severed_78 : decode cX12_severed 78 = .ok (.if_icmp .ge 38, 3) := by decide +kernel
theorem dX12_severed_81 : decode cX12_severed 81 = .ok (.aload_n 0, 1) := by decide +kernel
theorem dX12_severed_82 : decode cX12_severed 82 = .ok (.getfield 42, 3) := by decide +kernel
theorem dX12_severed_85 : decode cX12_severed 85 = .ok (.iload_n 3, 1) := by decide +kernel
theorem dX12_severed_86 : decode cX12_severed 86 = .ok (.aload_n 0, 1) := by decide +kernel
theorem dX12_severed_87 : decode cX12_severed 87 = .ok (.getfield 269, 3) := by decide +kernel
theorem dX12_severed_90 : decode cX12_severed 90 = .ok (.iadd, 1) := by decide +kernel
theorem dX12_severed_91 : decode cX12_severed 91 = .ok (.baload, 1) := by decide +kernel
theorem dX12_severed_92 : decode cX12_severed 92 = .ok (.ifCond .eq 24, 3) := by decide +kernel
theorem dX12_severed_95 : decode cX12_severed 95 = .ok (.iload_n 1, 1) := by decide +kernel
theorem dX12_severed_96 : decode cX12_severed 96 = .ok (.iload_n 3, 1) := by decide +kernel
theorem dX12_severed_97 : decode cX12_severed 97 = .ok (.invokestatic 354, 3) := by decide +kernel
theorem dX12_severed_100 : decode cX12_severed 100 = .ok (.iload_n 1, 1) := by decide +kernel
theorem dX12_severed_101 : decode cX12_severed 101 = .ok (.iload_n 3, 1) := by decide +kernel
theorem dX12_severed_102 : decode cX12_severed 102 = .ok (.aload_n 0, 1) := by decide +kernel
theorem dX12_severed_103 : decode cX12_severed 103 = .ok (.getfield 269, 3) := by decide +kernel
theorem dX12_severed_106 : decode cX12_severed 106 = .ok (.iadd, 1) := by decide +kernel
theorem dX12_severed_107 : decode cX12_severed 107 = .ok (.invokestatic 354, 3) := by decide +kernel
theorem dX12_severed_110 : decode cX12_severed 110 = .ok (.if_icmp .eq 6, 3) := by decide +kernel
theorem dX12_severed_113 : decode cX12_severed 113 = .ok (.iinc 2 1, 3) := by decide +kernel
theorem dX12_severed_116 : decode cX12_severed 116 = .ok (.iinc 3 1, 3) := by decide +kernel
theorem dX12_severed_119 : decode cX12_severed 119 = .ok (.goto (-115), 3) := by decide +kernel
theorem dX12_severed_122 : decode cX12_severed 122 = .ok (.iload_n 2, 1) := by decide +kernel
theorem dX12_severed_123 : decode cX12_severed 123 = .ok (.ireturn, 1) := by decide +kernel
theorem dX12_desecrated_0 : decode cX12_desecrated 0 = .ok (.iconst 0, 1) := by decide +kernel
theorem dX12_desecrated_1 : decode cX12_desecrated 1 = .ok (.istore_n 2, 1) := by decide +kernel
theorem dX12_desecrated_2 : decode cX12_desecrated 2 = .ok (.iconst 0, 1) := by decide +kernel
theorem dX12_desecrated_3 : decode cX12_desecrated 3 = .ok (.istore_n 3, 1) := by decide +kernel
theorem dX12_desecrated_4 : decode cX12_desecrated 4 = .ok (.iload_n 3, 1) := by decide +kernel
theorem dX12_desecrated_5 : decode cX12_desecrated 5 = .ok (.aload_n 0, 1) := by decide +kernel
theorem dX12_desecrated_6 : decode cX12_desecrated 6 = .ok (.invokevirtual 287, 3) := by decide +kernel
theorem dX12_desecrated_9 : decode cX12_desecrated 9 = .ok (.if_icmp .ge 40, 3) := by decide +kernel
theorem dX12_desecrated_12 : decode cX12_desecrated 12 = .ok (.iload_n 2, 1) := by decide +kernel
theorem dX12_desecrated_13 : decode cX12_desecrated 13 = .ok (.aload_n 0, 1) := by decide +kernel
theorem dX12_desecrated_14 : decode cX12_desecrated 14 = .ok (.getfield 39, 3) := by decide +kernel
theorem dX12_desecrated_17 : decode cX12_desecrated 17 = .ok (.iload_n 3, 1) := by decide +kernel
theorem dX12_desecrated_18 : decode cX12_desecrated 18 = .ok (.iaload, 1) := by decide +kernel
theorem dX12_desecrated_19 : decode cX12_desecrated 19 = .ok (.ifCond .lt 21, 3) := by decide +kernel
theorem dX12_desecrated_22 : decode cX12_desecrated 22 = .ok (.aload_n 0, 1) := by decide +kernel
theorem dX12_desecrated_23 : decode cX12_desecrated 23 = .ok (.getfield 39, 3) := by decide +kernel
theorem dX12_desecrated_26 : decode cX12_desecrated 26 = .ok (.iload_n 3, 1) := by decide +kernel
theorem dX12_desecrated_27 : decode cX12_desecrated 27 = .ok (.iaload, 1) := by decide +kernel
theorem dX12_desecrated_28 : decode cX12_desecrated 28 = .ok (.iload_n 1, 1) := by decide +kernel
theorem dX12_desecrated_29 : decode cX12_desecrated 29 = .ok (.iload_n 3, 1) := by decide +kernel
theorem dX12_desecrated_30 : decode cX12_desecrated 30 = .ok (.invokestatic 354, 3) := by decide +kernel
theorem dX12_desecrated_33 : decode cX12_desecrated 33 = .ok (.if_icmp .eq 7, 3) := by decide +kernel
theorem dX12_desecrated_36 : decode cX12_desecrated 36 = .ok (.iconst 1, 1) := by decide +kernel
theorem dX12_desecrated_37 : decode cX12_desecrated 37 = .ok (.goto 4, 3) := by decide +kernel
theorem dX12_desecrated_40 : decode cX12_desecrated 40 = .ok (.iconst 0, 1) := by decide +kernel
theorem dX12_desecrated_41 : decode cX12_desecrated 41 = .ok (.iadd, 1) := by decide +kernel
theorem dX12_desecrated_42 : decode cX12_desecrated 42 = .ok (.istore_n 2, 1) := by decide +kernel
theorem dX12_desecrated_43 : decode cX12_desecrated 43 = .ok (.iinc 3 1, 3) := by decide +kernel
theorem dX12_desecrated_46 : decode cX12_desecrated 46 = .ok (.goto (-42), 3) := by decide +kernel
theorem dX12_desecrated_49 : decode cX12_desecrated 49 = .ok (.iload_n 2, 1) := by decide +kernel
theorem dX12_desecrated_50 : decode cX12_desecrated 50 = .ok (.ireturn, 1) := by decide +kernel
theorem dX12_harm_0 : decode cX12_harm 0 = .ok (.aload_n 0, 1) := by decide +kernel
theorem dX12_harm_1 : decode cX12_harm 1 = .ok (.iload_n 1, 1) := by decide +kernel
theorem dX12_harm_2 : decode cX12_harm 2 = .ok (.invokevirtual 360, 3) := by decide +kernel
theorem dX12_harm_5 : decode cX12_harm 5 = .ok (.aload_n 0, 1) := by decide +kernel
theorem dX12_harm_6 : decode cX12_harm 6 = .ok (.getfield 19, 3) := by decide +kernel
theorem dX12_harm_9 : decode cX12_harm 9 = .ok (.iconst 1, 1) := by decide +kernel
theorem dX12_harm_10 : decode cX12_harm 10 = .ok (.iaload, 1) := by decide +kernel
theorem dX12_harm_11 : decode cX12_harm 11 = .ok (.aload_n 0, 1) := by decide +kernel
theorem dX12_harm_12 : decode cX12_harm 12 = .ok (.iload_n 1, 1) := by decide +kernel
theorem dX12_harm_13 : decode cX12_harm 13 = .ok (.invokevirtual 363, 3) := by decide +kernel
theorem dX12_harm_16 : decode cX12_harm 16 = .ok (.imul, 1) := by decide +kernel
theorem dX12_harm_17 : decode cX12_harm 17 = .ok (.iadd, 1) := by decide +kernel
theorem dX12_harm_18 : decode cX12_harm 18 = .ok (.aload_n 0, 1) := by decide +kernel
theorem dX12_harm_19 : decode cX12_harm 19 = .ok (.getfield 19, 3) := by decide +kernel
theorem dX12_harm_22 : decode cX12_harm 22 = .ok (.iconst 2, 1) := by decide +kernel
theorem dX12_harm_23 : decode cX12_harm 23 = .ok (.iaload, 1) := by decide +kernel
theorem dX12_harm_24 : decode cX12_harm 24 = .ok (.aload_n 0, 1) := by decide +kernel
theorem dX12_harm_25 : decode cX12_harm 25 = .ok (.iload_n 1, 1) := by decide +kernel
theorem dX12_harm_26 : decode cX12_harm 26 = .ok (.invokevirtual 366, 3) := by decide +kernel
theorem dX12_harm_29 : decode cX12_harm 29 = .ok (.imul, 1) := by decide +kernel
theorem dX12_harm_30 : decode cX12_harm 30 = .ok (.iadd, 1) := by decide +kernel
theorem dX12_harm_31 : decode cX12_harm 31 = .ok (.aload_n 0, 1) := by decide +kernel
theorem dX12_harm_32 : decode cX12_harm 32 = .ok (.getfield 19, 3) := by decide +kernel
theorem dX12_harm_35 : decode cX12_harm 35 = .ok (.iconst 3, 1) := by decide +kernel
theorem dX12_harm_36 : decode cX12_harm 36 = .ok (.iaload, 1) := by decide +kernel
theorem dX12_harm_37 : decode cX12_harm 37 = .ok (.aload_n 0, 1) := by decide +kernel
theorem dX12_harm_38 : decode cX12_harm 38 = .ok (.iload_n 1, 1) := by decide +kernel
theorem dX12_harm_39 : decode cX12_harm 39 = .ok (.invokevirtual 369, 3) := by decide +kernel
theorem dX12_harm_42 : decode cX12_harm 42 = .ok (.imul, 1) := by decide +kernel
theorem dX12_harm_43 : decode cX12_harm 43 = .ok (.iadd, 1) := by decide +kernel
theorem dX12_harm_44 : decode cX12_harm 44 = .ok (.ireturn, 1) := by decide +kernel
theorem dX12_all_0 : decode cX12_all 0 = .ok (.iconst 1, 1) := by decide +kernel
theorem dX12_all_1 : decode cX12_all 1 = .ok (.aload_n 0, 1) := by decide +kernel
theorem dX12_all_2 : decode cX12_all 2 = .ok (.invokevirtual 287, 3) := by decide +kernel
theorem dX12_all_5 : decode cX12_all 5 = .ok (.ishl, 1) := by decide +kernel
theorem dX12_all_6 : decode cX12_all 6 = .ok (.iconst 1, 1) := by decide +kernel
theorem dX12_all_7 : decode cX12_all 7 = .ok (.isub, 1) := by decide +kernel
theorem dX12_all_8 : decode cX12_all 8 = .ok (.ireturn, 1) := by decide +kernel
theorem dX12_best_0 : decode cX12_best 0 = .ok (.aload_n 0, 1) := by decide +kernel
theorem dX12_best_1 : decode cX12_best 1 = .ok (.iconst 0, 1) := by decide +kernel
theorem dX12_best_2 : decode cX12_best 2 = .ok (.putfield 110, 3) := by decide +kernel
theorem dX12_best_5 : decode cX12_best 5 = .ok (.iload_n 1, 1) := by decide +kernel
theorem dX12_best_6 : decode cX12_best 6 = .ok (.invokestatic 325, 3) := by decide +kernel
theorem dX12_best_9 : decode cX12_best 9 = .ok (.ifCond .eq 21, 3) := by decide +kernel
theorem dX12_best_12 : decode cX12_best 12 = .ok (.iload_n 2, 1) := by decide +kernel
theorem dX12_best_13 : decode cX12_best 13 = .ok (.ifCond .lt 17, 3) := by decide +kernel
theorem dX12_best_16 : decode cX12_best 16 = .ok (.iload_n 2, 1) := by decide +kernel
theorem dX12_best_17 : decode cX12_best 17 = .ok (.iconst 1, 1) := by decide +kernel
theorem dX12_best_18 : decode cX12_best 18 = .ok (.if_icmp .gt 12, 3) := by decide +kernel
theorem dX12_best_21 : decode cX12_best 21 = .ok (.aload_n 0, 1) := by decide +kernel
theorem dX12_best_22 : decode cX12_best 22 = .ok (.invokevirtual 287, 3) := by decide +kernel
theorem dX12_best_25 : decode cX12_best 25 = .ok (.bipush 16, 2) := by decide +kernel
theorem dX12_best_27 : decode cX12_best 27 = .ok (.if_icmp .le 5, 3) := by decide +kernel
theorem dX12_best_30 : decode cX12_best 30 = .ok (.iconst (-1), 1) := by decide +kernel
theorem dX12_best_31 : decode cX12_best 31 = .ok (.ireturn, 1) := by decide +kernel
theorem dX12_best_32 : decode cX12_best 32 = .ok (.aload_n 0, 1) := by decide +kernel
theorem dX12_best_33 : decode cX12_best 33 = .ok (.iload_n 1, 1) := by decide +kernel
theorem dX12_best_34 : decode cX12_best 34 = .ok (.invokevirtual 340, 3) := by decide +kernel
theorem dX12_best_37 : decode cX12_best 37 = .ok (.iconst (-1), 1) := by decide +kernel
theorem dX12_best_38 : decode cX12_best 38 = .ok (.istore_n 3, 1) := by decide +kernel
theorem dX12_best_39 : decode cX12_best 39 = .ok (.iconst 0, 1) := by decide +kernel
theorem dX12_best_40 : decode cX12_best 40 = .ok (.istore 4, 2) := by decide +kernel
theorem dX12_best_42 : decode cX12_best 42 = .ok (.iconst 0, 1) := by decide +kernel
theorem dX12_best_43 : decode cX12_best 43 = .ok (.istore 5, 2) := by decide +kernel
theorem dX12_best_45 : decode cX12_best 45 = .ok (.iload 5, 2) := by decide +kernel
theorem dX12_best_47 : decode cX12_best 47 = .ok (.aload_n 0, 1) := by decide +kernel
theorem dX12_best_48 : decode cX12_best 48 = .ok (.invokevirtual 375, 3) := by decide +kernel
theorem dX12_best_51 : decode cX12_best 51 = .ok (.if_icmp .gt 69, 3) := by decide +kernel
theorem dX12_best_54 : decode cX12_best 54 = .ok (.aload_n 0, 1) := by decide +kernel
theorem dX12_best_55 : decode cX12_best 55 = .ok (.iload 5, 2) := by decide +kernel
theorem dX12_best_57 : decode cX12_best 57 = .ok (.invokevirtual 372, 3) := by decide +kernel
theorem dX12_best_60 : decode cX12_best 60 = .ok (.iconst 1, 1) := by decide +kernel
theorem dX12_best_61 : decode cX12_best 61 = .ok (.if_icmp .gt 53, 3) := by decide +kernel
theorem dX12_best_64 : decode cX12_best 64 = .ok (.aload_n 0, 1) := by decide +kernel
theorem dX12_best_65 : decode cX12_best 65 = .ok (.aload_n 0, 1) := by decide +kernel
theorem dX12_best_66 : decode cX12_best 66 = .ok (.invokevirtual 375, 3) := by decide +kernel
theorem dX12_best_69 : decode cX12_best 69 = .ok (.iload 5, 2) := by decide +kernel
theorem dX12_best_71 : decode cX12_best 71 = .ok (.iconst (-1), 1) := by decide +kernel
theorem dX12_best_72 : decode cX12_best 72 = .ok (.ixor, 1) := by decide +kernel
theorem dX12_best_73 : decode cX12_best 73 = .ok (.iand, 1) := by decide +kernel
theorem dX12_best_74 : decode cX12_best 74 = .ok (.invokevirtual 372, 3) := by decide +kernel
theorem dX12_best_77 : decode cX12_best 77 = .ok (.iconst 1, 1) := by decide +kernel
theorem dX12_best_78 : decode cX12_best 78 = .ok (.if_icmp .le 6, 3) := by decide +kernel
theorem dX12_best_81 : decode cX12_best 81 = .ok (.goto 33, 3) := by decide +kernel
theorem dX12_best_84 : decode cX12_best 84 = .ok (.aload_n 0, 1) := by decide +kernel
theorem dX12_best_85 : decode cX12_best 85 = .ok (.iload 5, 2) := by decide +kernel
theorem dX12_best_87 : decode cX12_best 87 = .ok (.invokevirtual 378, 3) := by decide +kernel
theorem dX12_best_90 : decode cX12_best 90 = .ok (.istore 6, 2) := by decide +kernel
theorem dX12_best_92 : decode cX12_best 92 = .ok (.iload_n 3, 1) := by decide +kernel
theorem dX12_best_93 : decode cX12_best 93 = .ok (.iconst (-1), 1) := by decide +kernel
theorem dX12_best_94 : decode cX12_best 94 = .ok (.if_icmp .eq 13, 3) := by decide +kernel
theorem dX12_best_97 : decode cX12_best 97 = .ok (.iload 6, 2) := by decide +kernel
theorem dX12_best_99 : decode cX12_best 99 = .ok (.iload 4, 2) := by decide +kernel
theorem dX12_best_101 : decode cX12_best 101 = .ok (.if_icmp .lt 6, 3) := by decide +kernel
theorem dX12_best_104 : decode cX12_best 104 = .ok (.goto 10, 3) := by decide +kernel
theorem dX12_best_107 : decode cX12_best 107 = .ok (.iload 5, 2) := by decide +kernel
theorem dX12_best_109 : decode cX12_best 109 = .ok (.istore_n 3, 1) := by decide +kernel
theorem dX12_best_110 : decode cX12_best 110 = .ok (.iload 6, 2) := by decide +kernel
theorem dX12_best_112 : decode cX12_best 112 = .ok (.istore 4, 2) := by decide +kernel
theorem dX12_best_114 : decode cX12_best 114 = .ok (.iinc 5 1, 3) := by decide +kernel
theorem dX12_best_117 : decode cX12_best 117 = .ok (.goto (-72), 3) := by decide +kernel
theorem dX12_best_120 : decode cX12_best 120 = .ok (.iload_n 2, 1) := by decide +kernel
theorem dX12_best_121 : decode cX12_best 121 = .ok (.ifCond .ne 7, 3) := by decide +kernel
theorem dX12_best_124 : decode cX12_best 124 = .ok (.iload_n 3, 1) := by decide +kernel
theorem dX12_best_125 : decode cX12_best 125 = .ok (.goto 5, 3) := by decide +kernel
theorem dX12_best_128 : decode cX12_best 128 = .ok (.iload 4, 2) := by decide +kernel
theorem dX12_best_130 : decode cX12_best 130 = .ok (.ireturn, 1) := by decide +kernel
theorem dX12_weights_0 : decode cX12_weights 0 = .ok (.aload_n 0, 1) := by decide +kernel
theorem dX12_weights_1 : decode cX12_weights 1 = .ok (.iconst 0, 1) := by decide +kernel
theorem dX12_weights_2 : decode cX12_weights 2 = .ok (.putfield 110, 3) := by decide +kernel
theorem dX12_weights_5 : decode cX12_weights 5 = .ok (.aload_n 0, 1) := by decide +kernel
theorem dX12_weights_6 : decode cX12_weights 6 = .ok (.iload_n 1, 1) := by decide +kernel
theorem dX12_weights_7 : decode cX12_weights 7 = .ok (.invokevirtual 349, 3) := by decide +kernel
theorem dX12_weights_10 : decode cX12_weights 10 = .ok (.ifCond .eq 10, 3) := by decide +kernel
theorem dX12_weights_13 : decode cX12_weights 13 = .ok (.iload_n 2, 1) := by decide +kernel
theorem dX12_weights_14 : decode cX12_weights 14 = .ok (.invokestatic 325, 3) := by decide +kernel
theorem dX12_weights_17 : decode cX12_weights 17 = .ok (.ifCond .ne 5, 3) := by decide +kernel
theorem dX12_weights_20 : decode cX12_weights 20 = .ok (.iconst (-1), 1) := by decide +kernel
theorem dX12_weights_21 : decode cX12_weights 21 = .ok (.ireturn, 1) := by decide +kernel
theorem dX12_weights_22 : decode cX12_weights 22 = .ok (.aload_n 0, 1) := by decide +kernel
theorem dX12_weights_23 : decode cX12_weights 23 = .ok (.iload_n 2, 1) := by decide +kernel
theorem dX12_weights_24 : decode cX12_weights 24 = .ok (.invokevirtual 340, 3) := by decide +kernel
theorem dX12_weights_27 : decode cX12_weights 27 = .ok (.iconst 0, 1) := by decide +kernel
theorem dX12_weights_28 : decode cX12_weights 28 = .ok (.istore_n 3, 1) := by decide +kernel
theorem dX12_weights_29 : decode cX12_weights 29 = .ok (.iload_n 3, 1) := by decide +kernel
theorem dX12_weights_30 : decode cX12_weights 30 = .ok (.aload_n 0, 1) := by decide +kernel
theorem dX12_weights_31 : decode cX12_weights 31 = .ok (.invokevirtual 287, 3) := by decide +kernel
theorem dX12_weights_34 : decode cX12_weights 34 = .ok (.if_icmp .ge 115, 3) := by decide +kernel
theorem dX12_weights_37 : decode cX12_weights 37 = .ok (.aload_n 0, 1) := by decide +kernel
theorem dX12_weights_38 : decode cX12_weights 38 = .ok (.iconst 1, 1) := by decide +kernel
theorem dX12_weights_39 : decode cX12_weights 39 = .ok (.iload_n 3, 1) := by decide +kernel
theorem dX12_weights_40 : decode cX12_weights 40 = .ok (.ishl, 1) := by decide +kernel
theorem dX12_weights_41 : decode cX12_weights 41 = .ok (.invokevirtual 357, 3) := by decide +kernel
theorem dX12_weights_44 : decode cX12_weights 44 = .ok (.istore 4, 2) := by decide +kernel
theorem dX12_weights_46 : decode cX12_weights 46 = .ok (.aload_n 0, 1) := by decide +kernel
theorem dX12_weights_47 : decode cX12_weights 47 = .ok (.getfield 91, 3) := by decide +kernel
theorem dX12_weights_50 : decode cX12_weights 50 = .ok (.iconst 3, 1) := by decide +kernel
theorem dX12_weights_51 : decode cX12_weights 51 = .ok (.iload_n 3, 1) := by decide +kernel
theorem dX12_weights_52 : decode cX12_weights 52 = .ok (.imul, 1) := by decide +kernel
theorem dX12_weights_53 : decode cX12_weights 53 = .ok (.aload_n 0, 1) := by decide +kernel
theorem dX12_weights_54 : decode cX12_weights 54 = .ok (.getfield 88, 3) := by decide +kernel
theorem dX12_weights_57 : decode cX12_weights 57 = .ok (.iconst 2, 1) := by decide +kernel
theorem dX12_weights_58 : decode cX12_weights 58 = .ok (.iload_n 3, 1) := by decide +kernel
theorem dX12_weights_59 : decode cX12_weights 59 = .ok (.imul, 1) := by decide +kernel
theorem dX12_weights_60 : decode cX12_weights 60 = .ok (.iaload, 1) := by decide +kernel
theorem dX12_weights_61 : decode cX12_weights 61 = .ok (.aload_n 0, 1) := by decide +kernel
theorem dX12_weights_62 : decode cX12_weights 62 = .ok (.getfield 88, 3) := by decide +kernel
theorem dX12_weights_65 : decode cX12_weights 65 = .ok (.iconst 2, 1) := by decide +kernel
theorem dX12_weights_66 : decode cX12_weights 66 = .ok (.iload_n 3, 1) := by decide +kernel
theorem dX12_weights_67 : decode cX12_weights 67 = .ok (.imul, 1) := by decide +kernel
theorem dX12_weights_68 : decode cX12_weights 68 = .ok (.iconst 1, 1) := by decide +kernel
theorem dX12_weights_69 : decode cX12_weights 69 = .ok (.iadd, 1) := by decide +kernel
theorem dX12_weights_70 : decode cX12_weights 70 = .ok (.iaload, 1) := by decide +kernel
theorem dX12_weights_71 : decode cX12_weights 71 = .ok (.isub, 1) := by decide +kernel
theorem dX12_weights_72 : decode cX12_weights 72 = .ok (.iastore, 1) := by decide +kernel
theorem dX12_weights_73 : decode cX12_weights 73 = .ok (.aload_n 0, 1) := by decide +kernel
theorem dX12_weights_74 : decode cX12_weights 74 = .ok (.getfield 91, 3) := by decide +kernel
theorem dX12_weights_77 : decode cX12_weights 77 = .ok (.iconst 3, 1) := by decide +kernel
theorem dX12_weights_78 : decode cX12_weights 78 = .ok (.iload_n 3, 1) := by decide +kernel
theorem dX12_weights_79 : decode cX12_weights 79 = .ok (.imul, 1) := by decide +kernel
theorem dX12_weights_80 : decode cX12_weights 80 = .ok (.iconst 1, 1) := by decide +kernel
theorem dX12_weights_81 : decode cX12_weights 81 = .ok (.iadd, 1) := by decide +kernel
theorem dX12_weights_82 : decode cX12_weights 82 = .ok (.aload_n 0, 1) := by decide +kernel
theorem dX12_weights_83 : decode cX12_weights 83 = .ok (.getfield 39, 3) := by decide +kernel
theorem dX12_weights_86 : decode cX12_weights 86 = .ok (.iload_n 3, 1) := by decide +kernel
theorem dX12_weights_87 : decode cX12_weights 87 = .ok (.iaload, 1) := by decide +kernel
theorem dX12_weights_88 : decode cX12_weights 88 = .ok (.ifCond .ne 8, 3) := by decide +kernel
theorem dX12_weights_91 : decode cX12_weights 91 = .ok (.bipush 10, 2) := by decide +kernel
theorem dX12_weights_93 : decode cX12_weights 93 = .ok (.goto 19, 3) := by decide +kernel
theorem dX12_weights_96 : decode cX12_weights 96 = .ok (.aload_n 0, 1) := by decide +kernel
theorem dX12_weights_97 : decode cX12_weights 97 = .ok (.getfield 39, 3) := by decide +kernel
theorem dX12_weights_100 : decode cX12_weights 100 = .ok (.iload_n 3, 1) := by decide +kernel
theorem dX12_weights_101 : decode cX12_weights 101 = .ok (.iaload, 1) := by decide +kernel
theorem dX12_weights_102 : decode cX12_weights 102 = .ok (.iconst 1, 1) := by decide +kernel
theorem dX12_weights_103 : decode cX12_weights 103 = .ok (.if_icmp .ne 8, 3) := by decide +kernel
theorem dX12_weights_106 : decode cX12_weights 106 = .ok (.bipush (-10), 2) := by decide +kernel
theorem dX12_weights_108 : decode cX12_weights 108 = .ok (.goto 4, 3) := by decide +kernel
theorem dX12_weights_111 : decode cX12_weights 111 = .ok (.iconst 0, 1) := by decide +kernel
theorem dX12_weights_112 : decode cX12_weights 112 = .ok (.iastore, 1) := by decide +kernel
theorem dX12_weights_113 : decode cX12_weights 113 = .ok (.aload_n 0, 1) := by decide +kernel
theorem dX12_weights_114 : decode cX12_weights 114 = .ok (.getfield 91, 3) := by decide +kernel
theorem dX12_weights_117 : decode cX12_weights 117 = .ok (.iconst 3, 1) := by decide +kernel
theorem dX12_weights_118 : decode cX12_weights 118 = .ok (.iload_n 3, 1) := by decide +kernel
theorem dX12_weights_119 : decode cX12_weights 119 = .ok (.imul, 1) := by decide +kernel
theorem dX12_weights_120 : decode cX12_weights 120 = .ok (.iconst 2, 1) := by decide +kernel
theorem dX12_weights_121 : decode cX12_weights 121 = .ok (.iadd, 1) := by decide +kernel
theorem dX12_weights_122 : decode cX12_weights 122 = .ok (.bipush 10, 2) := by decide +kernel
theorem dX12_weights_124 : decode cX12_weights 124 = .ok (.iload 4, 2) := by decide +kernel
theorem dX12_weights_126 : decode cX12_weights 126 = .ok (.iload_n 1, 1) := by decide +kernel
theorem dX12_weights_127 : decode cX12_weights 127 = .ok (.iand, 1) := by decide +kernel
theorem dX12_weights_128 : decode cX12_weights 128 = .ok (.invokestatic 346, 3) := by decide +kernel
theorem dX12_weights_131 : decode cX12_weights 131 = .ok (.iload 4, 2) := by decide +kernel
theorem dX12_weights_133 : decode cX12_weights 133 = .ok (.iload_n 1, 1) := by decide +kernel
theorem dX12_weights_134 : decode cX12_weights 134 = .ok (.iconst (-1), 1) := by decide +kernel
theorem dX12_weights_135 : decode cX12_weights 135 = .ok (.ixor, 1) := by decide +kernel
theorem dX12_weights_136 : decode cX12_weights 136 = .ok (.iand, 1) := by decide +kernel
theorem dX12_weights_137 : decode cX12_weights 137 = .ok (.invokestatic 346, 3) := by decide +kernel
theorem dX12_weights_140 : decode cX12_weights 140 = .ok (.isub, 1) := by decide +kernel
theorem dX12_weights_141 : decode cX12_weights 141 = .ok (.imul, 1) := by decide +kernel
theorem dX12_weights_142 : decode cX12_weights 142 = .ok (.iastore, 1) := by decide +kernel
theorem dX12_weights_143 : decode cX12_weights 143 = .ok (.iinc 3 1, 3) := by decide +kernel
theorem dX12_weights_146 : decode cX12_weights 146 = .ok (.goto (-117), 3) := by decide +kernel
theorem dX12_weights_149 : decode cX12_weights 149 = .ok (.iconst 0, 1) := by decide +kernel
theorem dX12_weights_150 : decode cX12_weights 150 = .ok (.istore_n 3, 1) := by decide +kernel
theorem dX12_weights_151 : decode cX12_weights 151 = .ok (.iload_n 3, 1) := by decide +kernel
theorem dX12_weights_152 : decode cX12_weights 152 = .ok (.sipush 1000, 3) := by decide +kernel
theorem dX12_weights_155 : decode cX12_weights 155 = .ok (.if_icmp .ge 34, 3) := by decide +kernel
theorem dX12_weights_158 : decode cX12_weights 158 = .ok (.aload_n 0, 1) := by decide +kernel
theorem dX12_weights_159 : decode cX12_weights 159 = .ok (.iload_n 1, 1) := by decide +kernel
theorem dX12_weights_160 : decode cX12_weights 160 = .ok (.iload_n 3, 1) := by decide +kernel
theorem dX12_weights_161 : decode cX12_weights 161 = .ok (.bipush 100, 2) := by decide +kernel
theorem dX12_weights_163 : decode cX12_weights 163 = .ok (.idiv, 1) := by decide +kernel
theorem dX12_weights_164 : decode cX12_weights 164 = .ok (.iload_n 3, 1) := by decide +kernel
theorem dX12_weights_165 : decode cX12_weights 165 = .ok (.bipush 10, 2) := by decide +kernel
theorem dX12_weights_167 : decode cX12_weights 167 = .ok (.idiv, 1) := by decide +kernel
theorem dX12_weights_168 : decode cX12_weights 168 = .ok (.bipush 10, 2) := by decide +kernel
theorem dX12_weights_170 : decode cX12_weights 170 = .ok (.irem, 1) := by decide +kernel
theorem dX12_weights_171 : decode cX12_weights 171 = .ok (.iload_n 3, 1) := by decide +kernel
theorem dX12_weights_172 : decode cX12_weights 172 = .ok (.bipush 10, 2) := by decide +kernel
theorem dX12_weights_174 : decode cX12_weights 174 = .ok (.irem, 1) := by decide +kernel
theorem dX12_weights_175 : decode cX12_weights 175 = .ok (.invokevirtual 381, 3) := by decide +kernel
theorem dX12_weights_178 : decode cX12_weights 178 = .ok (.ifCond .eq 5, 3) := by decide +kernel
theorem dX12_weights_181 : decode cX12_weights 181 = .ok (.iload_n 3, 1) := by decide +kernel
theorem dX12_weights_182 : decode cX12_weights 182 = .ok (.ireturn, 1) := by decide +kernel
theorem dX12_weights_183 : decode cX12_weights 183 = .ok (.iinc 3 1, 3) := by decide +kernel
theorem dX12_weights_186 : decode cX12_weights 186 = .ok (.goto (-35), 3) := by decide +kernel
theorem dX12_weights_189 : decode cX12_weights 189 = .ok (.iconst (-1), 1) := by decide +kernel
theorem dX12_weights_190 : decode cX12_weights 190 = .ok (.ireturn, 1) := by decide +kernel
theorem dX12_gives_0 : decode cX12_gives 0 = .ok (.iconst 0, 1) := by decide +kernel
theorem dX12_gives_1 : decode cX12_gives 1 = .ok (.istore 5, 2) := by decide +kernel
theorem dX12_gives_3 : decode cX12_gives 3 = .ok (.iload 5, 2) := by decide +kernel
theorem dX12_gives_5 : decode cX12_gives 5 = .ok (.aload_n 0, 1) := by decide +kernel
theorem dX12_gives_6 : decode cX12_gives 6 = .ok (.invokevirtual 287, 3) := by decide +kernel
theorem dX12_gives_9 : decode cX12_gives 9 = .ok (.if_icmp .ge 80, 3) := by decide +kernel
theorem dX12_gives_12 : decode cX12_gives 12 = .ok (.iload_n 2, 1) := by decide +kernel
theorem dX12_gives_13 : decode cX12_gives 13 = .ok (.aload_n 0, 1) := by decide +kernel
theorem dX12_gives_14 : decode cX12_gives 14 = .ok (.getfield 91, 3) := by decide +kernel
theorem dX12_gives_17 : decode cX12_gives 17 = .ok (.iconst 3, 1) := by decide +kernel
theorem dX12_gives_18 : decode cX12_gives 18 = .ok (.iload 5, 2) := by decide +kernel
theorem dX12_gives_20 : decode cX12_gives 20 = .ok (.imul, 1) := by decide +kernel
theorem dX12_gives_21 : decode cX12_gives 21 = .ok (.iaload, 1) := by decide +kernel
theorem dX12_gives_22 : decode cX12_gives 22 = .ok (.imul, 1) := by decide +kernel
theorem dX12_gives_23 : decode cX12_gives 23 = .ok (.iload_n 3, 1) := by decide +kernel
theorem dX12_gives_24 : decode cX12_gives 24 = .ok (.aload_n 0, 1) := by decide +kernel
theorem dX12_gives_25 : decode cX12_gives 25 = .ok (.getfield 91, 3) := by decide +kernel
theorem dX12_gives_28 : decode cX12_gives 28 = .ok (.iconst 3, 1) := by decide +kernel
theorem dX12_gives_29 : decode cX12_gives 29 = .ok (.iload 5, 2) := by decide +kernel
theorem dX12_gives_31 : decode cX12_gives 31 = .ok (.imul, 1) := by decide +kernel
theorem dX12_gives_32 : decode cX12_gives 32 = .ok (.iconst 1, 1) := by decide +kernel
theorem dX12_gives_33 : decode cX12_gives 33 = .ok (.iadd, 1) := by decide +kernel
theorem dX12_gives_34 : decode cX12_gives 34 = .ok (.iaload, 1) := by decide +kernel
theorem dX12_gives_35 : decode cX12_gives 35 = .ok (.imul, 1) := by decide +kernel
theorem dX12_gives_36 : decode cX12_gives 36 = .ok (.iadd, 1) := by decide +kernel
theorem dX12_gives_37 : decode cX12_gives 37 = .ok (.iload 4, 2) := by decide +kernel
theorem dX12_gives_39 : decode cX12_gives 39 = .ok (.aload_n 0, 1) := by decide +kernel
theorem dX12_gives_40 : decode cX12_gives 40 = .ok (.getfield 91, 3) := by decide +kernel
theorem dX12_gives_43 : decode cX12_gives 43 = .ok (.iconst 3, 1) := by decide +kernel
theorem dX12_gives_44 : decode cX12_gives 44 = .ok (.iload 5, 2) := by decide +kernel
theorem dX12_gives_46 : decode cX12_gives 46 = .ok (.imul, 1) := by decide +kernel
theorem dX12_gives_47 : decode cX12_gives 47 = .ok (.iconst 2, 1) := by decide +kernel
theorem dX12_gives_48 : decode cX12_gives 48 = .ok (.iadd, 1) := by decide +kernel
theorem dX12_gives_49 : decode cX12_gives 49 = .ok (.iaload, 1) := by decide +kernel
theorem dX12_gives_50 : decode cX12_gives 50 = .ok (.imul, 1) := by decide +kernel
theorem dX12_gives_51 : decode cX12_gives 51 = .ok (.iadd, 1) := by decide +kernel
theorem dX12_gives_52 : decode cX12_gives 52 = .ok (.ifCond .le 7, 3) := by decide +kernel
theorem dX12_gives_55 : decode cX12_gives 55 = .ok (.iconst 1, 1) := by decide +kernel
theorem dX12_gives_56 : decode cX12_gives 56 = .ok (.goto 4, 3) := by decide +kernel
theorem dX12_gives_59 : decode cX12_gives 59 = .ok (.iconst 0, 1) := by decide +kernel
theorem dX12_gives_60 : decode cX12_gives 60 = .ok (.istore 6, 2) := by decide +kernel
theorem dX12_gives_62 : decode cX12_gives 62 = .ok (.iload 6, 2) := by decide +kernel
theorem dX12_gives_64 : decode cX12_gives 64 = .ok (.iload_n 1, 1) := by decide +kernel
theorem dX12_gives_65 : decode cX12_gives 65 = .ok (.iload 5, 2) := by decide +kernel
theorem dX12_gives_67 : decode cX12_gives 67 = .ok (.invokestatic 354, 3) := by decide +kernel
theorem dX12_gives_70 : decode cX12_gives 70 = .ok (.ifCond .ne 7, 3) := by decide +kernel
theorem dX12_gives_73 : decode cX12_gives 73 = .ok (.iconst 1, 1) := by decide +kernel
theorem dX12_gives_74 : decode cX12_gives 74 = .ok (.goto 4, 3) := by decide +kernel
theorem dX12_gives_77 : decode cX12_gives 77 = .ok (.iconst 0, 1) := by decide +kernel
theorem dX12_gives_78 : decode cX12_gives 78 = .ok (.if_icmp .eq 5, 3) := by decide +kernel
theorem dX12_gives_81 : decode cX12_gives 81 = .ok (.iconst 0, 1) := by decide +kernel
theorem dX12_gives_82 : decode cX12_gives 82 = .ok (.ireturn, 1) := by decide +kernel
theorem dX12_gives_83 : decode cX12_gives 83 = .ok (.iinc 5 1, 3) := by decide +kernel
theorem dX12_gives_86 : decode cX12_gives 86 = .ok (.goto (-83), 3) := by decide +kernel
theorem dX12_gives_89 : decode cX12_gives 89 = .ok (.iconst 1, 1) := by decide +kernel
theorem dX12_gives_90 : decode cX12_gives 90 = .ok (.ireturn, 1) := by decide +kernel
theorem dX12_spreads_0 : decode cX12_spreads 0 = .ok (.iconst 0, 1) := by decide +kernel
theorem dX12_spreads_1 : decode cX12_spreads 1 = .ok (.istore_n 3, 1) := by decide +kernel
theorem dX12_spreads_2 : decode cX12_spreads 2 = .ok (.iload_n 3, 1) := by decide +kernel
theorem dX12_spreads_3 : decode cX12_spreads 3 = .ok (.bipush 8, 2) := by decide +kernel
theorem dX12_spreads_5 : decode cX12_spreads 5 = .ok (.if_icmp .ge 18, 3) := by decide +kernel
theorem dX12_spreads_8 : decode cX12_spreads 8 = .ok (.aload_n 0, 1) := by decide +kernel
theorem dX12_spreads_9 : decode cX12_spreads 9 = .ok (.getfield 94, 3) := by decide +kernel
theorem dX12_spreads_12 : decode cX12_spreads 12 = .ok (.iload_n 3, 1) := by decide +kernel
theorem dX12_spreads_13 : decode cX12_spreads 13 = .ok (.sipush 1000, 3) := by decide +kernel
theorem dX12_spreads_16 : decode cX12_spreads 16 = .ok (.iastore, 1) := by decide +kernel
theorem dX12_spreads_17 : decode cX12_spreads 17 = .ok (.iinc 3 1, 3) := by decide +kernel
theorem dX12_spreads_20 : decode cX12_spreads 20 = .ok (.goto (-18), 3) := by decide +kernel
theorem dX12_spreads_23 : decode cX12_spreads 23 = .ok (.iconst 0, 1) := by decide +kernel
theorem dX12_spreads_24 : decode cX12_spreads 24 = .ok (.istore_n 3, 1) := by decide +kernel
theorem dX12_spreads_25 : decode cX12_spreads 25 = .ok (.iload_n 3, 1) := by decide +kernel
theorem dX12_spreads_26 : decode cX12_spreads 26 = .ok (.aload_n 0, 1) := by decide +kernel
theorem dX12_spreads_27 : decode cX12_spreads 27 = .ok (.getfield 284, 3) := by decide +kernel
theorem dX12_spreads_30 : decode cX12_spreads 30 = .ok (.if_icmp .ge 68, 3) := by decide +kernel
theorem dX12_spreads_33 : decode cX12_spreads 33 = .ok (.aload_n 0, 1) := by decide +kernel
theorem dX12_spreads_34 : decode cX12_spreads 34 = .ok (.getfield 85, 3) := by decide +kernel
theorem dX12_spreads_37 : decode cX12_spreads 37 = .ok (.iload_n 3, 1) := by decide +kernel
theorem dX12_spreads_38 : decode cX12_spreads 38 = .ok (.baload, 1) := by decide +kernel
theorem dX12_spreads_39 : decode cX12_spreads 39 = .ok (.ifCond .eq 53, 3) := by decide +kernel
theorem dX12_spreads_42 : decode cX12_spreads 42 = .ok (.aload_n 0, 1) := by decide +kernel
theorem dX12_spreads_43 : decode cX12_spreads 43 = .ok (.getfield 64, 3) := by decide +kernel
theorem dX12_spreads_46 : decode cX12_spreads 46 = .ok (.iload_n 3, 1) := by decide +kernel
theorem dX12_spreads_47 : decode cX12_spreads 47 = .ok (.iaload, 1) := by decide +kernel
theorem dX12_spreads_48 : decode cX12_spreads 48 = .ok (.ifCond .ne 44, 3) := by decide +kernel
theorem dX12_spreads_51 : decode cX12_spreads 51 = .ok (.aload_n 0, 1) := by decide +kernel
theorem dX12_spreads_52 : decode cX12_spreads 52 = .ok (.getfield 70, 3) := by decide +kernel
theorem dX12_spreads_55 : decode cX12_spreads 55 = .ok (.iload_n 3, 1) := by decide +kernel
theorem dX12_spreads_56 : decode cX12_spreads 56 = .ok (.iaload, 1) := by decide +kernel
theorem dX12_spreads_57 : decode cX12_spreads 57 = .ok (.iload_n 1, 1) := by decide +kernel
theorem dX12_spreads_58 : decode cX12_spreads 58 = .ok (.if_icmp .ne 34, 3) := by decide +kernel
theorem dX12_spreads_61 : decode cX12_spreads 61 = .ok (.aload_n 0, 1) := by decide +kernel
theorem dX12_spreads_62 : decode cX12_spreads 62 = .ok (.getfield 94, 3) := by decide +kernel
theorem dX12_spreads_65 : decode cX12_spreads 65 = .ok (.aload_n 0, 1) := by decide +kernel
theorem dX12_spreads_66 : decode cX12_spreads 66 = .ok (.getfield 73, 3) := by decide +kernel
theorem dX12_spreads_69 : decode cX12_spreads 69 = .ok (.iload_n 3, 1) := by decide +kernel
theorem dX12_spreads_70 : decode cX12_spreads 70 = .ok (.iaload, 1) := by decide +kernel
theorem dX12_spreads_71 : decode cX12_spreads 71 = .ok (.aload_n 0, 1) := by decide +kernel
theorem dX12_spreads_72 : decode cX12_spreads 72 = .ok (.getfield 94, 3) := by decide +kernel
theorem dX12_spreads_75 : decode cX12_spreads 75 = .ok (.aload_n 0, 1) := by decide +kernel
theorem dX12_spreads_76 : decode cX12_spreads 76 = .ok (.getfield 73, 3) := by decide +kernel
theorem dX12_spreads_79 : decode cX12_spreads 79 = .ok (.iload_n 3, 1) := by decide +kernel
theorem dX12_spreads_80 : decode cX12_spreads 80 = .ok (.iaload, 1) := by decide +kernel
theorem dX12_spreads_81 : decode cX12_spreads 81 = .ok (.iaload, 1) := by decide +kernel
theorem dX12_spreads_82 : decode cX12_spreads 82 = .ok (.aload_n 0, 1) := by decide +kernel
theorem dX12_spreads_83 : decode cX12_spreads 83 = .ok (.getfield 76, 3) := by decide +kernel
theorem dX12_spreads_86 : decode cX12_spreads 86 = .ok (.iload_n 3, 1) := by decide +kernel
theorem dX12_spreads_87 : decode cX12_spreads 87 = .ok (.iaload, 1) := by decide +kernel
theorem dX12_spreads_88 : decode cX12_spreads 88 = .ok (.invokestatic 316, 3) := by decide +kernel
theorem dX12_spreads_91 : decode cX12_spreads 91 = .ok (.iastore, 1) := by decide +kernel
theorem dX12_spreads_92 : decode cX12_spreads 92 = .ok (.iinc 3 1, 3) := by decide +kernel
theorem dX12_spreads_95 : decode cX12_spreads 95 = .ok (.goto (-70), 3) := by decide +kernel
theorem dX12_spreads_98 : decode cX12_spreads 98 = .ok (.iconst 1, 1) := by decide +kernel
theorem dX12_spreads_99 : decode cX12_spreads 99 = .ok (.istore_n 3, 1) := by decide +kernel
theorem dX12_spreads_100 : decode cX12_spreads 100 = .ok (.iload_n 3, 1) := by decide +kernel
theorem dX12_spreads_101 : decode cX12_spreads 101 = .ok (.ifCond .eq 107, 3) := by decide +kernel
theorem dX12_spreads_104 : decode cX12_spreads 104 = .ok (.iconst 0, 1) := by decide +kernel
theorem dX12_spreads_105 : decode cX12_spreads 105 = .ok (.istore_n 3, 1) := by decide +kernel
theorem dX12_spreads_106 : decode cX12_spreads 106 = .ok (.iconst 0, 1) := by decide +kernel
theorem dX12_spreads_107 : decode cX12_spreads 107 = .ok (.istore 4, 2) := by decide +kernel
theorem dX12_spreads_109 : decode cX12_spreads 109 = .ok (.iload 4, 2) := by decide +kernel
theorem dX12_spreads_111 : decode cX12_spreads 111 = .ok (.aload_n 0, 1) := by decide +kernel
theorem dX12_spreads_112 : decode cX12_spreads 112 = .ok (.getfield 284, 3) := by decide +kernel
theorem dX12_spreads_115 : decode cX12_spreads 115 = .ok (.if_icmp .ge 90, 3) := by decide +kernel
theorem dX12_spreads_118 : decode cX12_spreads 118 = .ok (.aload_n 0, 1) := by decide +kernel
theorem dX12_spreads_119 : decode cX12_spreads 119 = .ok (.getfield 85, 3) := by decide +kernel
theorem dX12_spreads_122 : decode cX12_spreads 122 = .ok (.iload 4, 2) := by decide +kernel
theorem dX12_spreads_124 : decode cX12_spreads 124 = .ok (.baload, 1) := by decide +kernel
theorem dX12_spreads_125 : decode cX12_spreads 125 = .ok (.ifCond .eq 74, 3) := by decide +kernel
theorem dX12_spreads_128 : decode cX12_spreads 128 = .ok (.aload_n 0, 1) := by decide +kernel
theorem dX12_spreads_129 : decode cX12_spreads 129 = .ok (.getfield 64, 3) := by decide +kernel
theorem dX12_spreads_132 : decode cX12_spreads 132 = .ok (.iload 4, 2) := by decide +kernel
theorem dX12_spreads_134 : decode cX12_spreads 134 = .ok (.iaload, 1) := by decide +kernel
theorem dX12_spreads_135 : decode cX12_spreads 135 = .ok (.iconst 1, 1) := by decide +kernel
theorem dX12_spreads_136 : decode cX12_spreads 136 = .ok (.if_icmp .ne 63, 3) := by decide +kernel
theorem dX12_spreads_139 : decode cX12_spreads 139 = .ok (.aload_n 0, 1) := by decide +kernel
theorem dX12_spreads_140 : decode cX12_spreads 140 = .ok (.aload_n 0, 1) := by decide +kernel
theorem dX12_spreads_141 : decode cX12_spreads 141 = .ok (.getfield 70, 3) := by decide +kernel
theorem dX12_spreads_144 : decode cX12_spreads 144 = .ok (.iload 4, 2) := by decide +kernel
theorem dX12_spreads_146 : decode cX12_spreads 146 = .ok (.iaload, 1) := by decide +kernel
theorem dX12_spreads_147 : decode cX12_spreads 147 = .ok (.aload_n 0, 1) := by decide +kernel
theorem dX12_spreads_148 : decode cX12_spreads 148 = .ok (.getfield 73, 3) := by decide +kernel
theorem dX12_spreads_151 : decode cX12_spreads 151 = .ok (.iload 4, 2) := by decide +kernel
theorem dX12_spreads_153 : decode cX12_spreads 153 = .ok (.iaload, 1) := by decide +kernel
theorem dX12_spreads_154 : decode cX12_spreads 154 = .ok (.aload_n 0, 1) := by decide +kernel
theorem dX12_spreads_155 : decode cX12_spreads 155 = .ok (.getfield 76, 3) := by decide +kernel
theorem dX12_spreads_158 : decode cX12_spreads 158 = .ok (.iload 4, 2) := by decide +kernel
theorem dX12_spreads_160 : decode cX12_spreads 160 = .ok (.iaload, 1) := by decide +kernel
theorem dX12_spreads_161 : decode cX12_spreads 161 = .ok (.iload_n 2, 1) := by decide +kernel
theorem dX12_spreads_162 : decode cX12_spreads 162 = .ok (.invokevirtual 385, 3) := by decide +kernel
theorem dX12_spreads_165 : decode cX12_spreads 165 = .ok (.ifCond .ne 32, 3) := by decide +kernel
theorem dX12_spreads_168 : decode cX12_spreads 168 = .ok (.aload_n 0, 1) := by decide +kernel
theorem dX12_spreads_169 : decode cX12_spreads 169 = .ok (.aload_n 0, 1) := by decide +kernel
theorem dX12_spreads_170 : decode cX12_spreads 170 = .ok (.getfield 73, 3) := by decide +kernel
theorem dX12_spreads_173 : decode cX12_spreads 173 = .ok (.iload 4, 2) := by decide +kernel
theorem dX12_spreads_175 : decode cX12_spreads 175 = .ok (.iaload, 1) := by decide +kernel
theorem dX12_spreads_176 : decode cX12_spreads 176 = .ok (.aload_n 0, 1) := by decide +kernel
theorem dX12_spreads_177 : decode cX12_spreads 177 = .ok (.getfield 70, 3) := by decide +kernel
theorem dX12_spreads_180 : decode cX12_spreads 180 = .ok (.iload 4, 2) := by decide +kernel
theorem dX12_spreads_182 : decode cX12_spreads 182 = .ok (.iaload, 1) := by decide +kernel
theorem dX12_spreads_183 : decode cX12_spreads 183 = .ok (.aload_n 0, 1) := by decide +kernel
theorem dX12_spreads_184 : decode cX12_spreads 184 = .ok (.getfield 76, 3) := by decide +kernel
theorem dX12_spreads_187 : decode cX12_spreads 187 = .ok (.iload 4, 2) := by decide +kernel
theorem dX12_spreads_189 : decode cX12_spreads 189 = .ok (.iaload, 1) := by decide +kernel
theorem dX12_spreads_190 : decode cX12_spreads 190 = .ok (.iload_n 2, 1) := by decide +kernel
theorem dX12_spreads_191 : decode cX12_spreads 191 = .ok (.invokevirtual 385, 3) := by decide +kernel
theorem dX12_spreads_194 : decode cX12_spreads 194 = .ok (.ifCond .eq 5, 3) := by decide +kernel
theorem dX12_spreads_197 : decode cX12_spreads 197 = .ok (.iconst 1, 1) := by decide +kernel
theorem dX12_spreads_198 : decode cX12_spreads 198 = .ok (.istore_n 3, 1) := by decide +kernel
theorem dX12_spreads_199 : decode cX12_spreads 199 = .ok (.iinc 4 1, 3) := by decide +kernel
theorem dX12_spreads_202 : decode cX12_spreads 202 = .ok (.goto (-93), 3) := by decide +kernel
theorem dX12_spreads_205 : decode cX12_spreads 205 = .ok (.goto (-105), 3) := by decide +kernel
theorem dX12_spreads_208 : decode cX12_spreads 208 = .ok (.return_, 1) := by decide +kernel
theorem dX12_tells_0 : decode cX12_tells 0 = .ok (.iload_n 1, 1) := by decide +kernel
theorem dX12_tells_1 : decode cX12_tells 1 = .ok (.iload 4, 2) := by decide +kernel
theorem dX12_tells_3 : decode cX12_tells 3 = .ok (.if_icmp .eq 23, 3) := by decide +kernel
theorem dX12_tells_6 : decode cX12_tells 6 = .ok (.aload_n 0, 1) := by decide +kernel
theorem dX12_tells_7 : decode cX12_tells 7 = .ok (.getfield 94, 3) := by decide +kernel
theorem dX12_tells_10 : decode cX12_tells 10 = .ok (.iload_n 1, 1) := by decide +kernel
theorem dX12_tells_11 : decode cX12_tells 11 = .ok (.iaload, 1) := by decide +kernel
theorem dX12_tells_12 : decode cX12_tells 12 = .ok (.iload_n 3, 1) := by decide +kernel
theorem dX12_tells_13 : decode cX12_tells 13 = .ok (.if_icmp .gt 13, 3) := by decide +kernel
theorem dX12_tells_16 : decode cX12_tells 16 = .ok (.aload_n 0, 1) := by decide +kernel
theorem dX12_tells_17 : decode cX12_tells 17 = .ok (.getfield 94, 3) := by decide +kernel
theorem dX12_tells_20 : decode cX12_tells 20 = .ok (.iload_n 2, 1) := by decide +kernel
theorem dX12_tells_21 : decode cX12_tells 21 = .ok (.iaload, 1) := by decide +kernel
theorem dX12_tells_22 : decode cX12_tells 22 = .ok (.iload_n 3, 1) := by decide +kernel
theorem dX12_tells_23 : decode cX12_tells 23 = .ok (.if_icmp .gt 5, 3) := by decide +kernel
theorem dX12_tells_26 : decode cX12_tells 26 = .ok (.iconst 0, 1) := by decide +kernel
theorem dX12_tells_27 : decode cX12_tells 27 = .ok (.ireturn, 1) := by decide +kernel
theorem dX12_tells_28 : decode cX12_tells 28 = .ok (.aload_n 0, 1) := by decide +kernel
theorem dX12_tells_29 : decode cX12_tells 29 = .ok (.getfield 94, 3) := by decide +kernel
theorem dX12_tells_32 : decode cX12_tells 32 = .ok (.iload_n 2, 1) := by decide +kernel
theorem dX12_tells_33 : decode cX12_tells 33 = .ok (.iload_n 3, 1) := by decide +kernel
theorem dX12_tells_34 : decode cX12_tells 34 = .ok (.iastore, 1) := by decide +kernel
theorem dX12_tells_35 : decode cX12_tells 35 = .ok (.iconst 1, 1) := by decide +kernel
theorem dX12_tells_36 : decode cX12_tells 36 = .ok (.ireturn, 1) := by decide +kernel
theorem dX12_knows_0 : decode cX12_knows 0 = .ok (.aload_n 0, 1) := by decide +kernel
theorem dX12_knows_1 : decode cX12_knows 1 = .ok (.iconst 0, 1) := by decide +kernel
theorem dX12_knows_2 : decode cX12_knows 2 = .ok (.putfield 110, 3) := by decide +kernel
theorem dX12_knows_5 : decode cX12_knows 5 = .ok (.iload_n 1, 1) := by decide +kernel
theorem dX12_knows_6 : decode cX12_knows 6 = .ok (.invokestatic 300, 3) := by decide +kernel
theorem dX12_knows_9 : decode cX12_knows 9 = .ok (.ifCond .eq 18, 3) := by decide +kernel
theorem dX12_knows_12 : decode cX12_knows 12 = .ok (.aload_n 0, 1) := by decide +kernel
theorem dX12_knows_13 : decode cX12_knows 13 = .ok (.iload_n 2, 1) := by decide +kernel
theorem dX12_knows_14 : decode cX12_knows 14 = .ok (.invokevirtual 303, 3) := by decide +kernel
theorem dX12_knows_17 : decode cX12_knows 17 = .ok (.ifCond .eq 10, 3) := by decide +kernel
theorem dX12_knows_20 : decode cX12_knows 20 = .ok (.iload_n 3, 1) := by decide +kernel
theorem dX12_knows_21 : decode cX12_knows 21 = .ok (.invokestatic 325, 3) := by decide +kernel
theorem dX12_knows_24 : decode cX12_knows 24 = .ok (.ifCond .ne 5, 3) := by decide +kernel
theorem dX12_knows_27 : decode cX12_knows 27 = .ok (.iconst (-1), 1) := by decide +kernel
theorem dX12_knows_28 : decode cX12_knows 28 = .ok (.ireturn, 1) := by decide +kernel
theorem dX12_knows_29 : decode cX12_knows 29 = .ok (.aload_n 0, 1) := by decide +kernel
theorem dX12_knows_30 : decode cX12_knows 30 = .ok (.iload_n 3, 1) := by decide +kernel
theorem dX12_knows_31 : decode cX12_knows 31 = .ok (.invokevirtual 319, 3) := by decide +kernel
theorem dX12_knows_34 : decode cX12_knows 34 = .ok (.aload_n 0, 1) := by decide +kernel
theorem dX12_knows_35 : decode cX12_knows 35 = .ok (.iload_n 2, 1) := by decide +kernel
theorem dX12_knows_36 : decode cX12_knows 36 = .ok (.iconst (-1), 1) := by decide +kernel
theorem dX12_knows_37 : decode cX12_knows 37 = .ok (.invokevirtual 388, 3) := by decide +kernel
theorem dX12_knows_40 : decode cX12_knows 40 = .ok (.aload_n 0, 1) := by decide +kernel
theorem dX12_knows_41 : decode cX12_knows 41 = .ok (.getfield 94, 3) := by decide +kernel
theorem dX12_knows_44 : decode cX12_knows 44 = .ok (.iload_n 1, 1) := by decide +kernel
theorem dX12_knows_45 : decode cX12_knows 45 = .ok (.iaload, 1) := by decide +kernel
theorem dX12_knows_46 : decode cX12_knows 46 = .ok (.sipush 1000, 3) := by decide +kernel
theorem dX12_knows_49 : decode cX12_knows 49 = .ok (.if_icmp .ne 7, 3) := by decide +kernel
theorem dX12_knows_52 : decode cX12_knows 52 = .ok (.iconst (-1), 1) := by decide +kernel
theorem dX12_knows_53 : decode cX12_knows 53 = .ok (.goto 9, 3) := by decide +kernel
theorem dX12_knows_56 : decode cX12_knows 56 = .ok (.aload_n 0, 1) := by decide +kernel
theorem dX12_knows_57 : decode cX12_knows 57 = .ok (.getfield 94, 3) := by decide +kernel
theorem dX12_knows_60 : decode cX12_knows 60 = .ok (.iload_n 1, 1) := by decide +kernel
theorem dX12_knows_61 : decode cX12_knows 61 = .ok (.iaload, 1) := by decide +kernel
theorem dX12_knows_62 : decode cX12_knows 62 = .ok (.ireturn, 1) := by decide +kernel
theorem dX12_isSure_0 : decode cX12_isSure 0 = .ok (.iconst 0, 1) := by decide +kernel
theorem dX12_isSure_1 : decode cX12_isSure 1 = .ok (.istore_n 2, 1) := by decide +kernel
theorem dX12_isSure_2 : decode cX12_isSure 2 = .ok (.iload_n 2, 1) := by decide +kernel
theorem dX12_isSure_3 : decode cX12_isSure 3 = .ok (.aload_n 0, 1) := by decide +kernel
theorem dX12_isSure_4 : decode cX12_isSure 4 = .ok (.getfield 284, 3) := by decide +kernel
theorem dX12_isSure_7 : decode cX12_isSure 7 = .ok (.if_icmp .ge 74, 3) := by decide +kernel
theorem dX12_isSure_10 : decode cX12_isSure 10 = .ok (.aload_n 0, 1) := by decide +kernel
theorem dX12_isSure_11 : decode cX12_isSure 11 = .ok (.getfield 85, 3) := by decide +kernel
theorem dX12_isSure_14 : decode cX12_isSure 14 = .ok (.iload_n 2, 1) := by decide +kernel
theorem dX12_isSure_15 : decode cX12_isSure 15 = .ok (.baload, 1) := by decide +kernel
theorem dX12_isSure_16 : decode cX12_isSure 16 = .ok (.ifCond .eq 59, 3) := by decide +kernel
theorem dX12_isSure_19 : decode cX12_isSure 19 = .ok (.aload_n 0, 1) := by decide +kernel
theorem dX12_isSure_20 : decode cX12_isSure 20 = .ok (.getfield 64, 3) := by decide +kernel
theorem dX12_isSure_23 : decode cX12_isSure 23 = .ok (.iload_n 2, 1) := by decide +kernel
theorem dX12_isSure_24 : decode cX12_isSure 24 = .ok (.iaload, 1) := by decide +kernel
theorem dX12_isSure_25 : decode cX12_isSure 25 = .ok (.ifCond .ne 50, 3) := by decide +kernel
theorem dX12_isSure_28 : decode cX12_isSure 28 = .ok (.aload_n 0, 1) := by decide +kernel
theorem dX12_isSure_29 : decode cX12_isSure 29 = .ok (.getfield 70, 3) := by decide +kernel
theorem dX12_isSure_32 : decode cX12_isSure 32 = .ok (.iload_n 2, 1) := by decide +kernel
theorem dX12_isSure_33 : decode cX12_isSure 33 = .ok (.iaload, 1) := by decide +kernel
theorem dX12_isSure_34 : decode cX12_isSure 34 = .ok (.aload_n 0, 1) := by decide +kernel
theorem dX12_isSure_35 : decode cX12_isSure 35 = .ok (.getfield 70, 3) := by decide +kernel
theorem dX12_isSure_38 : decode cX12_isSure 38 = .ok (.iload_n 1, 1) := by decide +kernel
theorem dX12_isSure_39 : decode cX12_isSure 39 = .ok (.iaload, 1) := by decide +kernel
theorem dX12_isSure_40 : decode cX12_isSure 40 = .ok (.if_icmp .ne 35, 3) := by decide +kernel
theorem dX12_isSure_43 : decode cX12_isSure 43 = .ok (.aload_n 0, 1) := by decide +kernel
theorem dX12_isSure_44 : decode cX12_isSure 44 = .ok (.getfield 73, 3) := by decide +kernel
theorem dX12_isSure_47 : decode cX12_isSure 47 = .ok (.iload_n 2, 1) := by decide +kernel
theorem dX12_isSure_48 : decode cX12_isSure 48 = .ok (.iaload, 1) := by decide +kernel
theorem dX12_isSure_49 : decode cX12_isSure 49 = .ok (.aload_n 0, 1) := by decide +kernel
theorem dX12_isSure_50 : decode cX12_isSure 50 = .ok (.getfield 73, 3) := by decide +kernel
theorem dX12_isSure_53 : decode cX12_isSure 53 = .ok (.iload_n 1, 1) := by decide +kernel
theorem dX12_isSure_54 : decode cX12_isSure 54 = .ok (.iaload, 1) := by decide +kernel
theorem dX12_isSure_55 : decode cX12_isSure 55 = .ok (.if_icmp .ne 20, 3) := by decide +kernel
theorem dX12_isSure_58 : decode cX12_isSure 58 = .ok (.aload_n 0, 1) := by decide +kernel
theorem dX12_isSure_59 : decode cX12_isSure 59 = .ok (.getfield 76, 3) := by decide +kernel
theorem dX12_isSure_62 : decode cX12_isSure 62 = .ok (.iload_n 2, 1) := by decide +kernel
theorem dX12_isSure_63 : decode cX12_isSure 63 = .ok (.iaload, 1) := by decide +kernel
theorem dX12_isSure_64 : decode cX12_isSure 64 = .ok (.aload_n 0, 1) := by decide +kernel
theorem dX12_isSure_65 : decode cX12_isSure 65 = .ok (.getfield 76, 3) := by decide +kernel
theorem dX12_isSure_68 : decode cX12_isSure 68 = .ok (.iload_n 1, 1) := by decide +kernel
theorem dX12_isSure_69 : decode cX12_isSure 69 = .ok (.iaload, 1) := by decide +kernel
theorem dX12_isSure_70 : decode cX12_isSure 70 = .ok (.if_icmp .gt 5, 3) := by decide +kernel
theorem dX12_isSure_73 : decode cX12_isSure 73 = .ok (.iconst 1, 1) := by decide +kernel
theorem dX12_isSure_74 : decode cX12_isSure 74 = .ok (.ireturn, 1) := by decide +kernel
theorem dX12_isSure_75 : decode cX12_isSure 75 = .ok (.iinc 2 1, 3) := by decide +kernel
theorem dX12_isSure_78 : decode cX12_isSure 78 = .ok (.goto (-76), 3) := by decide +kernel
theorem dX12_isSure_81 : decode cX12_isSure 81 = .ok (.iconst 0, 1) := by decide +kernel
theorem dX12_isSure_82 : decode cX12_isSure 82 = .ok (.ireturn, 1) := by decide +kernel
theorem dX12_explained_0 : decode cX12_explained 0 = .ok (.aload_n 0, 1) := by decide +kernel
theorem dX12_explained_1 : decode cX12_explained 1 = .ok (.iconst 0, 1) := by decide +kernel
theorem dX12_explained_2 : decode cX12_explained 2 = .ok (.putfield 110, 3) := by decide +kernel
theorem dX12_explained_5 : decode cX12_explained 5 = .ok (.iload_n 1, 1) := by decide +kernel
theorem dX12_explained_6 : decode cX12_explained 6 = .ok (.ifCond .lt 28, 3) := by decide +kernel
theorem dX12_explained_9 : decode cX12_explained 9 = .ok (.iload_n 1, 1) := by decide +kernel
theorem dX12_explained_10 : decode cX12_explained 10 = .ok (.aload_n 0, 1) := by decide +kernel
theorem dX12_explained_11 : decode cX12_explained 11 = .ok (.getfield 284, 3) := by decide +kernel
theorem dX12_explained_14 : decode cX12_explained 14 = .ok (.if_icmp .ge 20, 3) := by decide +kernel
theorem dX12_explained_17 : decode cX12_explained 17 = .ok (.aload_n 0, 1) := by decide +kernel
theorem dX12_explained_18 : decode cX12_explained 18 = .ok (.getfield 64, 3) := by decide +kernel
theorem dX12_explained_21 : decode cX12_explained 21 = .ok (.iload_n 1, 1) := by decide +kernel
theorem dX12_explained_22 : decode cX12_explained 22 = .ok (.iaload, 1) := by decide +kernel
theorem dX12_explained_23 : decode cX12_explained 23 = .ok (.iconst 2, 1) := by decide +kernel
theorem dX12_explained_24 : decode cX12_explained 24 = .ok (.if_icmp .ne 10, 3) := by decide +kernel
theorem dX12_explained_27 : decode cX12_explained 27 = .ok (.iload_n 2, 1) := by decide +kernel
theorem dX12_explained_28 : decode cX12_explained 28 = .ok (.invokestatic 325, 3) := by decide +kernel
theorem dX12_explained_31 : decode cX12_explained 31 = .ok (.ifCond .ne 5, 3) := by decide +kernel
theorem dX12_explained_34 : decode cX12_explained 34 = .ok (.iconst (-1), 1) := by decide +kernel
theorem dX12_explained_35 : decode cX12_explained 35 = .ok (.ireturn, 1) := by decide +kernel
theorem dX12_explained_36 : decode cX12_explained 36 = .ok (.aload_n 0, 1) := by decide +kernel
theorem dX12_explained_37 : decode cX12_explained 37 = .ok (.iload_n 2, 1) := by decide +kernel
theorem dX12_explained_38 : decode cX12_explained 38 = .ok (.invokevirtual 319, 3) := by decide +kernel
theorem dX12_explained_41 : decode cX12_explained 41 = .ok (.aload_n 0, 1) := by decide +kernel
theorem dX12_explained_42 : decode cX12_explained 42 = .ok (.getfield 85, 3) := by decide +kernel
theorem dX12_explained_45 : decode cX12_explained 45 = .ok (.iload_n 1, 1) := by decide +kernel
theorem dX12_explained_46 : decode cX12_explained 46 = .ok (.baload, 1) := by decide +kernel
theorem dX12_explained_47 : decode cX12_explained 47 = .ok (.ifCond .ne 5, 3) := by decide +kernel
theorem dX12_explained_50 : decode cX12_explained 50 = .ok (.iconst (-1), 1) := by decide +kernel
theorem dX12_explained_51 : decode cX12_explained 51 = .ok (.ireturn, 1) := by decide +kernel
theorem dX12_explained_52 : decode cX12_explained 52 = .ok (.aload_n 0, 1) := by decide +kernel
theorem dX12_explained_53 : decode cX12_explained 53 = .ok (.iload_n 1, 1) := by decide +kernel
theorem dX12_explained_54 : decode cX12_explained 54 = .ok (.invokevirtual 391, 3) := by decide +kernel
theorem dX12_explained_57 : decode cX12_explained 57 = .ok (.ifCond .eq 5, 3) := by decide +kernel
theorem dX12_explained_60 : decode cX12_explained 60 = .ok (.iconst 2, 1) := by decide +kernel
theorem dX12_explained_61 : decode cX12_explained 61 = .ok (.ireturn, 1) := by decide +kernel
theorem dX12_explained_62 : decode cX12_explained 62 = .ok (.aload_n 0, 1) := by decide +kernel
theorem dX12_explained_63 : decode cX12_explained 63 = .ok (.aload_n 0, 1) := by decide +kernel
theorem dX12_explained_64 : decode cX12_explained 64 = .ok (.getfield 70, 3) := by decide +kernel
theorem dX12_explained_67 : decode cX12_explained 67 = .ok (.iload_n 1, 1) := by decide +kernel
theorem dX12_explained_68 : decode cX12_explained 68 = .ok (.iaload, 1) := by decide +kernel
theorem dX12_explained_69 : decode cX12_explained 69 = .ok (.iconst (-1), 1) := by decide +kernel
theorem dX12_explained_70 : decode cX12_explained 70 = .ok (.invokevirtual 388, 3) := by decide +kernel
theorem dX12_explained_73 : decode cX12_explained 73 = .ok (.aload_n 0, 1) := by decide +kernel
theorem dX12_explained_74 : decode cX12_explained 74 = .ok (.getfield 94, 3) := by decide +kernel
theorem dX12_explained_77 : decode cX12_explained 77 = .ok (.aload_n 0, 1) := by decide +kernel
theorem dX12_explained_78 : decode cX12_explained 78 = .ok (.getfield 73, 3) := by decide +kernel
theorem dX12_explained_81 : decode cX12_explained 81 = .ok (.iload_n 1, 1) := by decide +kernel
theorem dX12_explained_82 : decode cX12_explained 82 = .ok (.iaload, 1) := by decide +kernel
theorem dX12_explained_83 : decode cX12_explained 83 = .ok (.iaload, 1) := by decide +kernel
theorem dX12_explained_84 : decode cX12_explained 84 = .ok (.aload_n 0, 1) := by decide +kernel
theorem dX12_explained_85 : decode cX12_explained 85 = .ok (.getfield 76, 3) := by decide +kernel
theorem dX12_explained_88 : decode cX12_explained 88 = .ok (.iload_n 1, 1) := by decide +kernel
theorem dX12_explained_89 : decode cX12_explained 89 = .ok (.iaload, 1) := by decide +kernel
theorem dX12_explained_90 : decode cX12_explained 90 = .ok (.if_icmp .gt 7, 3) := by decide +kernel
theorem dX12_explained_93 : decode cX12_explained 93 = .ok (.iconst 1, 1) := by decide +kernel
theorem dX12_explained_94 : decode cX12_explained 94 = .ok (.goto 4, 3) := by decide +kernel
theorem dX12_explained_97 : decode cX12_explained 97 = .ok (.iconst 0, 1) := by decide +kernel
theorem dX12_explained_98 : decode cX12_explained 98 = .ok (.ireturn, 1) := by decide +kernel
theorem dX12_through_0 : decode cX12_through 0 = .ok (.aload_n 0, 1) := by decide +kernel
theorem dX12_through_1 : decode cX12_through 1 = .ok (.iconst 0, 1) := by decide +kernel
theorem dX12_through_2 : decode cX12_through 2 = .ok (.putfield 110, 3) := by decide +kernel
theorem dX12_through_5 : decode cX12_through 5 = .ok (.iload_n 1, 1) := by decide +kernel
theorem dX12_through_6 : decode cX12_through 6 = .ok (.invokestatic 325, 3) := by decide +kernel
theorem dX12_through_9 : decode cX12_through 9 = .ok (.ifCond .ne 5, 3) := by decide +kernel
theorem dX12_through_12 : decode cX12_through 12 = .ok (.iconst (-1), 1) := by decide +kernel
theorem dX12_through_13 : decode cX12_through 13 = .ok (.ireturn, 1) := by decide +kernel
theorem dX12_through_14 : decode cX12_through 14 = .ok (.aload_n 0, 1) := by decide +kernel
theorem dX12_through_15 : decode cX12_through 15 = .ok (.iload_n 1, 1) := by decide +kernel
theorem dX12_through_16 : decode cX12_through 16 = .ok (.invokevirtual 319, 3) := by decide +kernel
theorem dX12_through_19 : decode cX12_through 19 = .ok (.iconst 0, 1) := by decide +kernel
theorem dX12_through_20 : decode cX12_through 20 = .ok (.istore_n 2, 1) := by decide +kernel
theorem dX12_through_21 : decode cX12_through 21 = .ok (.iconst 0, 1) := by decide +kernel
theorem dX12_through_22 : decode cX12_through 22 = .ok (.istore_n 3, 1) := by decide +kernel
theorem dX12_through_23 : decode cX12_through 23 = .ok (.iload_n 3, 1) := by decide +kernel
theorem dX12_through_24 : decode cX12_through 24 = .ok (.aload_n 0, 1) := by decide +kernel
theorem dX12_through_25 : decode cX12_through 25 = .ok (.getfield 284, 3) := by decide +kernel
theorem dX12_through_28 : decode cX12_through 28 = .ok (.if_icmp .ge 120, 3) := by decide +kernel
theorem dX12_through_31 : decode cX12_through 31 = .ok (.aload_n 0, 1) := by decide +kernel
theorem dX12_through_32 : decode cX12_through 32 = .ok (.getfield 85, 3) := by decide +kernel
theorem dX12_through_35 : decode cX12_through 35 = .ok (.iload_n 3, 1) := by decide +kernel
theorem dX12_through_36 : decode cX12_through 36 = .ok (.baload, 1) := by decide +kernel
theorem dX12_through_37 : decode cX12_through 37 = .ok (.ifCond .eq 105, 3) := by decide +kernel
theorem dX12_through_40 : decode cX12_through 40 = .ok (.aload_n 0, 1) := by decide +kernel
theorem dX12_through_41 : decode cX12_through 41 = .ok (.getfield 64, 3) := by decide +kernel
theorem dX12_through_44 : decode cX12_through 44 = .ok (.iload_n 3, 1) := by decide +kernel
theorem dX12_through_45 : decode cX12_through 45 = .ok (.iaload, 1) := by decide +kernel
theorem dX12_through_46 : decode cX12_through 46 = .ok (.iconst 2, 1) := by decide +kernel
theorem dX12_through_47 : decode cX12_through 47 = .ok (.if_icmp .eq 6, 3) := by decide +kernel
theorem dX12_through_50 : decode cX12_through 50 = .ok (.goto 92, 3) := by decide +kernel
theorem dX12_through_53 : decode cX12_through 53 = .ok (.aload_n 0, 1) := by decide +kernel
theorem dX12_through_54 : decode cX12_through 54 = .ok (.aload_n 0, 1) := by decide +kernel
theorem dX12_through_55 : decode cX12_through 55 = .ok (.getfield 70, 3) := by decide +kernel
theorem dX12_through_58 : decode cX12_through 58 = .ok (.iload_n 3, 1) := by decide +kernel
theorem dX12_through_59 : decode cX12_through 59 = .ok (.iaload, 1) := by decide +kernel
theorem dX12_through_60 : decode cX12_through 60 = .ok (.iconst (-1), 1) := by decide +kernel
theorem dX12_through_61 : decode cX12_through 61 = .ok (.invokevirtual 388, 3) := by decide +kernel
theorem dX12_through_64 : decode cX12_through 64 = .ok (.aload_n 0, 1) := by decide +kernel
theorem dX12_through_65 : decode cX12_through 65 = .ok (.getfield 94, 3) := by decide +kernel
theorem dX12_through_68 : decode cX12_through 68 = .ok (.aload_n 0, 1) := by decide +kernel
theorem dX12_through_69 : decode cX12_through 69 = .ok (.getfield 73, 3) := by decide +kernel
theorem dX12_through_72 : decode cX12_through 72 = .ok (.iload_n 3, 1) := by decide +kernel
theorem dX12_through_73 : decode cX12_through 73 = .ok (.iaload, 1) := by decide +kernel
theorem dX12_through_74 : decode cX12_through 74 = .ok (.iaload, 1) := by decide +kernel
theorem dX12_through_75 : decode cX12_through 75 = .ok (.aload_n 0, 1) := by decide +kernel
theorem dX12_through_76 : decode cX12_through 76 = .ok (.getfield 76, 3) := by decide +kernel
theorem dX12_through_79 : decode cX12_through 79 = .ok (.iload_n 3, 1) := by decide +kernel
theorem dX12_through_80 : decode cX12_through 80 = .ok (.iaload, 1) := by decide +kernel
theorem dX12_through_81 : decode cX12_through 81 = .ok (.if_icmp .le 6, 3) := by decide +kernel
theorem dX12_through_84 : decode cX12_through 84 = .ok (.goto 58, 3) := by decide +kernel
theorem dX12_through_87 : decode cX12_through 87 = .ok (.iconst 0, 1) := by decide +kernel
theorem dX12_through_88 : decode cX12_through 88 = .ok (.istore 4, 2) := by decide +kernel
theorem dX12_through_90 : decode cX12_through 90 = .ok (.iload 4, 2) := by decide +kernel
theorem dX12_through_92 : decode cX12_through 92 = .ok (.bipush 8, 2) := by decide +kernel
theorem dX12_through_94 : decode cX12_through 94 = .ok (.if_icmp .ge 48, 3) := by decide +kernel
theorem dX12_through_97 : decode cX12_through 97 = .ok (.aload_n 0, 1) := by decide +kernel
theorem dX12_through_98 : decode cX12_through 98 = .ok (.aload_n 0, 1) := by decide +kernel
theorem dX12_through_99 : decode cX12_through 99 = .ok (.getfield 70, 3) := by decide +kernel
theorem dX12_through_102 : decode cX12_through 102 = .ok (.iload_n 3, 1) := by decide +kernel
theorem dX12_through_103 : decode cX12_through 103 = .ok (.iaload, 1) := by decide +kernel
theorem dX12_through_104 : decode cX12_through 104 = .ok (.iload 4, 2) := by decide +kernel
theorem dX12_through_106 : decode cX12_through 106 = .ok (.invokevirtual 388, 3) := by decide +kernel
theorem dX12_through_109 : decode cX12_through 109 = .ok (.aload_n 0, 1) := by decide +kernel
theorem dX12_through_110 : decode cX12_through 110 = .ok (.getfield 94, 3) := by decide +kernel
theorem dX12_through_113 : decode cX12_through 113 = .ok (.aload_n 0, 1) := by decide +kernel
theorem dX12_through_114 : decode cX12_through 114 = .ok (.getfield 73, 3) := by decide +kernel
theorem dX12_through_117 : decode cX12_through 117 = .ok (.iload_n 3, 1) := by decide +kernel
theorem dX12_through_118 : decode cX12_through 118 = .ok (.iaload, 1) := by decide +kernel
theorem dX12_through_119 : decode cX12_through 119 = .ok (.iaload, 1) := by decide +kernel
theorem dX12_through_120 : decode cX12_through 120 = .ok (.aload_n 0, 1) := by decide +kernel
theorem dX12_through_121 : decode cX12_through 121 = .ok (.getfield 76, 3) := by decide +kernel
theorem dX12_through_124 : decode cX12_through 124 = .ok (.iload_n 3, 1) := by decide +kernel
theorem dX12_through_125 : decode cX12_through 125 = .ok (.iaload, 1) := by decide +kernel
theorem dX12_through_126 : decode cX12_through 126 = .ok (.if_icmp .le 10, 3) := by decide +kernel
theorem dX12_through_129 : decode cX12_through 129 = .ok (.iload_n 2, 1) := by decide +kernel
theorem dX12_through_130 : decode cX12_through 130 = .ok (.iconst 1, 1) := by decide +kernel
theorem dX12_through_131 : decode cX12_through 131 = .ok (.iload 4, 2) := by decide +kernel
theorem dX12_through_133 : decode cX12_through 133 = .ok (.ishl, 1) := by decide +kernel
theorem dX12_through_134 : decode cX12_through 134 = .ok (.ior, 1) := by decide +kernel
theorem dX12_through_135 : decode cX12_through 135 = .ok (.istore_n 2, 1) := by decide +kernel
theorem dX12_through_136 : decode cX12_through 136 = .ok (.iinc 4 1, 3) := by decide +kernel
theorem dX12_through_139 : decode cX12_through 139 = .ok (.goto (-49), 3) := by decide +kernel
theorem dX12_through_142 : decode cX12_through 142 = .ok (.iinc 3 1, 3) := by decide +kernel
theorem dX12_through_145 : decode cX12_through 145 = .ok (.goto (-122), 3) := by decide +kernel
theorem dX12_through_148 : decode cX12_through 148 = .ok (.iload_n 2, 1) := by decide +kernel
theorem dX12_through_149 : decode cX12_through 149 = .ok (.ireturn, 1) := by decide +kernel
theorem dX12_candidate_0 : decode cX12_candidate 0 = .ok (.aload_n 0, 1) := by decide +kernel
theorem dX12_candidate_1 : decode cX12_candidate 1 = .ok (.iconst 0, 1) := by decide +kernel
theorem dX12_candidate_2 : decode cX12_candidate 2 = .ok (.putfield 110, 3) := by decide +kernel
theorem dX12_candidate_5 : decode cX12_candidate 5 = .ok (.aload_n 0, 1) := by decide +kernel
theorem dX12_candidate_6 : decode cX12_candidate 6 = .ok (.iload_n 1, 1) := by decide +kernel
theorem dX12_candidate_7 : decode cX12_candidate 7 = .ok (.invokevirtual 293, 3) := by decide +kernel
theorem dX12_candidate_10 : decode cX12_candidate 10 = .ok (.ifCond .eq 12, 3) := by decide +kernel
theorem dX12_candidate_13 : decode cX12_candidate 13 = .ok (.aload_n 0, 1) := by decide +kernel
theorem dX12_candidate_14 : decode cX12_candidate 14 = .ok (.getfield 281, 3) := by decide +kernel
theorem dX12_candidate_17 : decode cX12_candidate 17 = .ok (.bipush 8, 2) := by decide +kernel
theorem dX12_candidate_19 : decode cX12_candidate 19 = .ok (.if_icmp .ne 5, 3) := by decide +kernel
theorem dX12_candidate_22 : decode cX12_candidate 22 = .ok (.iconst (-1), 1) := by decide +kernel
theorem dX12_candidate_23 : decode cX12_candidate 23 = .ok (.ireturn, 1) := by decide +kernel
theorem dX12_candidate_24 : decode cX12_candidate 24 = .ok (.iconst 0, 1) := by decide +kernel
theorem dX12_candidate_25 : decode cX12_candidate 25 = .ok (.istore_n 2, 1) := by decide +kernel
theorem dX12_candidate_26 : decode cX12_candidate 26 = .ok (.iload_n 2, 1) := by decide +kernel
theorem dX12_candidate_27 : decode cX12_candidate 27 = .ok (.aload_n 0, 1) := by decide +kernel
theorem dX12_candidate_28 : decode cX12_candidate 28 = .ok (.getfield 281, 3) := by decide +kernel
theorem dX12_candidate_31 : decode cX12_candidate 31 = .ok (.if_icmp .ge 21, 3) := by decide +kernel
theorem dX12_candidate_34 : decode cX12_candidate 34 = .ok (.aload_n 0, 1) := by decide +kernel
theorem dX12_candidate_35 : decode cX12_candidate 35 = .ok (.getfield 61, 3) := by decide +kernel
theorem dX12_candidate_38 : decode cX12_candidate 38 = .ok (.iload_n 2, 1) := by decide +kernel
theorem dX12_candidate_39 : decode cX12_candidate 39 = .ok (.iaload, 1) := by decide +kernel
theorem dX12_candidate_40 : decode cX12_candidate 40 = .ok (.iload_n 1, 1) := by decide +kernel
theorem dX12_candidate_41 : decode cX12_candidate 41 = .ok (.if_icmp .ne 5, 3) := by decide +kernel
theorem dX12_candidate_44 : decode cX12_candidate 44 = .ok (.iconst (-1), 1) := by decide +kernel
theorem dX12_candidate_45 : decode cX12_candidate 45 = .ok (.ireturn, 1) := by decide +kernel
theorem dX12_candidate_46 : decode cX12_candidate 46 = .ok (.iinc 2 1, 3) := by decide +kernel
theorem dX12_candidate_49 : decode cX12_candidate 49 = .ok (.goto (-23), 3) := by decide +kernel
theorem dX12_candidate_52 : decode cX12_candidate 52 = .ok (.aload_n 0, 1) := by decide +kernel
theorem dX12_candidate_53 : decode cX12_candidate 53 = .ok (.getfield 61, 3) := by decide +kernel
theorem dX12_candidate_56 : decode cX12_candidate 56 = .ok (.aload_n 0, 1) := by decide +kernel
theorem dX12_candidate_57 : decode cX12_candidate 57 = .ok (.getfield 281, 3) := by decide +kernel
theorem dX12_candidate_60 : decode cX12_candidate 60 = .ok (.iload_n 1, 1) := by decide +kernel
theorem dX12_candidate_61 : decode cX12_candidate 61 = .ok (.iastore, 1) := by decide +kernel
theorem dX12_candidate_62 : decode cX12_candidate 62 = .ok (.aload_n 0, 1) := by decide +kernel
theorem dX12_candidate_63 : decode cX12_candidate 63 = .ok (.dup, 1) := by decide +kernel
theorem dX12_candidate_64 : decode cX12_candidate 64 = .ok (.getfield 281, 3) := by decide +kernel
theorem dX12_candidate_67 : decode cX12_candidate 67 = .ok (.iconst 1, 1) := by decide +kernel
theorem dX12_candidate_68 : decode cX12_candidate 68 = .ok (.iadd, 1) := by decide +kernel
theorem dX12_candidate_69 : decode cX12_candidate 69 = .ok (.putfield 281, 3) := by decide +kernel
theorem dX12_candidate_72 : decode cX12_candidate 72 = .ok (.aload_n 0, 1) := by decide +kernel
theorem dX12_candidate_73 : decode cX12_candidate 73 = .ok (.getfield 281, 3) := by decide +kernel
theorem dX12_candidate_76 : decode cX12_candidate 76 = .ok (.iconst 1, 1) := by decide +kernel
theorem dX12_candidate_77 : decode cX12_candidate 77 = .ok (.isub, 1) := by decide +kernel
theorem dX12_candidate_78 : decode cX12_candidate 78 = .ok (.ireturn, 1) := by decide +kernel
theorem dX12_paces_0 : decode cX12_paces 0 = .ok (.iconst 0, 1) := by decide +kernel
theorem dX12_paces_1 : decode cX12_paces 1 = .ok (.istore_n 2, 1) := by decide +kernel
theorem dX12_paces_2 : decode cX12_paces 2 = .ok (.iload_n 2, 1) := by decide +kernel
theorem dX12_paces_3 : decode cX12_paces 3 = .ok (.iconst 2, 1) := by decide +kernel
theorem dX12_paces_4 : decode cX12_paces 4 = .ok (.if_icmp .ge 165, 3) := by decide +kernel
theorem dX12_paces_7 : decode cX12_paces 7 = .ok (.iload_n 2, 1) := by decide +kernel
theorem dX12_paces_8 : decode cX12_paces 8 = .ok (.ifCond .ne 7, 3) := by decide +kernel
theorem dX12_paces_11 : decode cX12_paces 11 = .ok (.iload_n 1, 1) := by decide +kernel
theorem dX12_paces_12 : decode cX12_paces 12 = .ok (.goto 11, 3) := by decide +kernel
theorem dX12_paces_15 : decode cX12_paces 15 = .ok (.aload_n 0, 1) := by decide +kernel
theorem dX12_paces_16 : decode cX12_paces 16 = .ok (.invokevirtual 375, 3) := by decide +kernel
theorem dX12_paces_19 : decode cX12_paces 19 = .ok (.iload_n 1, 1) := by decide +kernel
theorem dX12_paces_20 : decode cX12_paces 20 = .ok (.iconst (-1), 1) := by decide +kernel
theorem dX12_paces_21 : decode cX12_paces 21 = .ok (.ixor, 1) := by decide +kernel
theorem dX12_paces_22 : decode cX12_paces 22 = .ok (.iand, 1) := by decide +kernel
theorem dX12_paces_23 : decode cX12_paces 23 = .ok (.istore_n 3, 1) := by decide +kernel
theorem dX12_paces_24 : decode cX12_paces 24 = .ok (.iconst 0, 1) := by decide +kernel
theorem dX12_paces_25 : decode cX12_paces 25 = .ok (.istore 4, 2) := by decide +kernel
theorem dX12_paces_27 : decode cX12_paces 27 = .ok (.iload 4, 2) := by decide +kernel
theorem dX12_paces_29 : decode cX12_paces 29 = .ok (.aload_n 0, 1) := by decide +kernel
theorem dX12_paces_30 : decode cX12_paces 30 = .ok (.invokevirtual 287, 3) := by decide +kernel
theorem dX12_paces_33 : decode cX12_paces 33 = .ok (.if_icmp .ge 36, 3) := by decide +kernel
theorem dX12_paces_36 : decode cX12_paces 36 = .ok (.aload_n 0, 1) := by decide +kernel
theorem dX12_paces_37 : decode cX12_paces 37 = .ok (.getfield 103, 3) := by decide +kernel
theorem dX12_paces_40 : decode cX12_paces 40 = .ok (.iconst 2, 1) := by decide +kernel
theorem dX12_paces_41 : decode cX12_paces 41 = .ok (.iload 4, 2) := by decide +kernel
theorem dX12_paces_43 : decode cX12_paces 43 = .ok (.imul, 1) := by decide +kernel
theorem dX12_paces_44 : decode cX12_paces 44 = .ok (.iload_n 2, 1) := by decide +kernel
theorem dX12_paces_45 : decode cX12_paces 45 = .ok (.iadd, 1) := by decide +kernel
theorem dX12_paces_46 : decode cX12_paces 46 = .ok (.iload_n 3, 1) := by decide +kernel
theorem dX12_paces_47 : decode cX12_paces 47 = .ok (.iload 4, 2) := by decide +kernel
theorem dX12_paces_49 : decode cX12_paces 49 = .ok (.ishr, 1) := by decide +kernel
theorem dX12_paces_50 : decode cX12_paces 50 = .ok (.iconst 1, 1) := by decide +kernel
theorem dX12_paces_51 : decode cX12_paces 51 = .ok (.iand, 1) := by decide +kernel
theorem dX12_paces_52 : decode cX12_paces 52 = .ok (.iconst 1, 1) := by decide +kernel
theorem dX12_paces_53 : decode cX12_paces 53 = .ok (.if_icmp .ne 7, 3) := by decide +kernel
theorem dX12_paces_56 : decode cX12_paces 56 = .ok (.iconst 0, 1) := by decide +kernel
theorem dX12_paces_57 : decode cX12_paces 57 = .ok (.goto 5, 3) := by decide +kernel
theorem dX12_paces_60 : decode cX12_paces 60 = .ok (.bipush 99, 2) := by decide +kernel
theorem dX12_paces_62 : decode cX12_paces 62 = .ok (.iastore, 1) := by decide +kernel
theorem dX12_paces_63 : decode cX12_paces 63 = .ok (.iinc 4 1, 3) := by decide +kernel
theorem dX12_paces_66 : decode cX12_paces 66 = .ok (.goto (-39), 3) := by decide +kernel
theorem dX12_paces_69 : decode cX12_paces 69 = .ok (.iconst 1, 1) := by decide +kernel
theorem dX12_paces_70 : decode cX12_paces 70 = .ok (.istore 4, 2) := by decide +kernel
theorem dX12_paces_72 : decode cX12_paces 72 = .ok (.iload 4, 2) := by decide +kernel
theorem dX12_paces_74 : decode cX12_paces 74 = .ok (.bipush 10, 2) := by decide +kernel
theorem dX12_paces_76 : decode cX12_paces 76 = .ok (.if_icmp .ge 87, 3) := by decide +kernel
theorem dX12_paces_79 : decode cX12_paces 79 = .ok (.iload_n 3, 1) := by decide +kernel
theorem dX12_paces_80 : decode cX12_paces 80 = .ok (.aload_n 0, 1) := by decide +kernel
theorem dX12_paces_81 : decode cX12_paces 81 = .ok (.iload_n 3, 1) := by decide +kernel
theorem dX12_paces_82 : decode cX12_paces 82 = .ok (.invokevirtual 357, 3) := by decide +kernel
theorem dX12_paces_85 : decode cX12_paces 85 = .ok (.ior, 1) := by decide +kernel
theorem dX12_paces_86 : decode cX12_paces 86 = .ok (.istore 5, 2) := by decide +kernel
theorem dX12_paces_88 : decode cX12_paces 88 = .ok (.iconst 0, 1) := by decide +kernel
theorem dX12_paces_89 : decode cX12_paces 89 = .ok (.istore 6, 2) := by decide +kernel
theorem dX12_paces_91 : decode cX12_paces 91 = .ok (.iload 6, 2) := by decide +kernel
theorem dX12_paces_93 : decode cX12_paces 93 = .ok (.aload_n 0, 1) := by decide +kernel
theorem dX12_paces_94 : decode cX12_paces 94 = .ok (.invokevirtual 287, 3) := by decide +kernel
theorem dX12_paces_97 : decode cX12_paces 97 = .ok (.if_icmp .ge 49, 3) := by decide +kernel
theorem dX12_paces_100 : decode cX12_paces 100 = .ok (.iload 5, 2) := by decide +kernel
theorem dX12_paces_102 : decode cX12_paces 102 = .ok (.iload 6, 2) := by decide +kernel
theorem dX12_paces_104 : decode cX12_paces 104 = .ok (.ishr, 1) := by decide +kernel
theorem dX12_paces_105 : decode cX12_paces 105 = .ok (.iconst 1, 1) := by decide +kernel
theorem dX12_paces_106 : decode cX12_paces 106 = .ok (.iand, 1) := by decide +kernel
theorem dX12_paces_107 : decode cX12_paces 107 = .ok (.iconst 1, 1) := by decide +kernel
theorem dX12_paces_108 : decode cX12_paces 108 = .ok (.if_icmp .ne 32, 3) := by decide +kernel
theorem dX12_paces_111 : decode cX12_paces 111 = .ok (.aload_n 0, 1) := by decide +kernel
theorem dX12_paces_112 : decode cX12_paces 112 = .ok (.getfield 103, 3) := by decide +kernel
theorem dX12_paces_115 : decode cX12_paces 115 = .ok (.iconst 2, 1) := by decide +kernel
theorem dX12_paces_116 : decode cX12_paces 116 = .ok (.iload 6, 2) := by decide +kernel
theorem dX12_paces_118 : decode cX12_paces 118 = .ok (.imul, 1) := by decide +kernel
theorem dX12_paces_119 : decode cX12_paces 119 = .ok (.iload_n 2, 1) := by decide +kernel
theorem dX12_paces_120 : decode cX12_paces 120 = .ok (.iadd, 1) := by decide +kernel
theorem dX12_paces_121 : decode cX12_paces 121 = .ok (.iaload, 1) := by decide +kernel
theorem dX12_paces_122 : decode cX12_paces 122 = .ok (.bipush 99, 2) := by decide +kernel
theorem dX12_paces_124 : decode cX12_paces 124 = .ok (.if_icmp .ne 16, 3) := by decide +kernel
theorem dX12_paces_127 : decode cX12_paces 127 = .ok (.aload_n 0, 1) := by decide +kernel
theorem dX12_paces_128 : decode cX12_paces 128 = .ok (.getfield 103, 3) := by decide +kernel
theorem dX12_paces_131 : decode cX12_paces 131 = .ok (.iconst 2, 1) := by decide +kernel
theorem dX12_paces_132 : decode cX12_paces 132 = .ok (.iload 6, 2) := by decide +kernel
theorem dX12_paces_134 : decode cX12_paces 134 = .ok (.imul, 1) := by decide +kernel
theorem dX12_paces_135 : decode cX12_paces 135 = .ok (.iload_n 2, 1) := by decide +kernel
theorem dX12_paces_136 : decode cX12_paces 136 = .ok (.iadd, 1) := by decide +kernel
theorem dX12_paces_137 : decode cX12_paces 137 = .ok (.iload 4, 2) := by decide +kernel
theorem dX12_paces_139 : decode cX12_paces 139 = .ok (.iastore, 1) := by decide +kernel
theorem dX12_paces_140 : decode cX12_paces 140 = .ok (.iinc 6 1, 3) := by decide +kernel
theorem dX12_paces_143 : decode cX12_paces 143 = .ok (.goto (-52), 3) := by decide +kernel
theorem dX12_paces_146 : decode cX12_paces 146 = .ok (.iload_n 3, 1) := by decide +kernel
theorem dX12_paces_147 : decode cX12_paces 147 = .ok (.ifCond .ne 7, 3) := by decide +kernel
theorem dX12_paces_150 : decode cX12_paces 150 = .ok (.iconst 0, 1) := by decide +kernel
theorem dX12_paces_151 : decode cX12_paces 151 = .ok (.goto 5, 3) := by decide +kernel
theorem dX12_paces_154 : decode cX12_paces 154 = .ok (.iload 5, 2) := by decide +kernel
theorem dX12_paces_156 : decode cX12_paces 156 = .ok (.istore_n 3, 1) := by decide +kernel
theorem dX12_paces_157 : decode cX12_paces 157 = .ok (.iinc 4 1, 3) := by decide +kernel
theorem dX12_paces_160 : decode cX12_paces 160 = .ok (.goto (-88), 3) := by decide +kernel
theorem dX12_paces_163 : decode cX12_paces 163 = .ok (.iinc 2 1, 3) := by decide +kernel
theorem dX12_paces_166 : decode cX12_paces 166 = .ok (.goto (-164), 3) := by decide +kernel
theorem dX12_paces_169 : decode cX12_paces 169 = .ok (.return_, 1) := by decide +kernel
theorem dX12_goal_0 : decode cX12_goal 0 = .ok (.iconst (-1), 1) := by decide +kernel
theorem dX12_goal_1 : decode cX12_goal 1 = .ok (.istore_n 3, 1) := by decide +kernel
theorem dX12_goal_2 : decode cX12_goal 2 = .ok (.iconst 0, 1) := by decide +kernel
theorem dX12_goal_3 : decode cX12_goal 3 = .ok (.istore 4, 2) := by decide +kernel
theorem dX12_goal_5 : decode cX12_goal 5 = .ok (.iload 4, 2) := by decide +kernel
theorem dX12_goal_7 : decode cX12_goal 7 = .ok (.aload_n 0, 1) := by decide +kernel
theorem dX12_goal_8 : decode cX12_goal 8 = .ok (.invokevirtual 287, 3) := by decide +kernel
theorem dX12_goal_11 : decode cX12_goal 11 = .ok (.if_icmp .ge 51, 3) := by decide +kernel
theorem dX12_goal_14 : decode cX12_goal 14 = .ok (.aload_n 0, 1) := by decide +kernel
theorem dX12_goal_15 : decode cX12_goal 15 = .ok (.iload 4, 2) := by decide +kernel
theorem dX12_goal_17 : decode cX12_goal 17 = .ok (.iload_n 1, 1) := by decide +kernel
theorem dX12_goal_18 : decode cX12_goal 18 = .ok (.invokevirtual 394, 3) := by decide +kernel
theorem dX12_goal_21 : decode cX12_goal 21 = .ok (.ifCond .eq 35, 3) := by decide +kernel
theorem dX12_goal_24 : decode cX12_goal 24 = .ok (.iload_n 3, 1) := by decide +kernel
theorem dX12_goal_25 : decode cX12_goal 25 = .ok (.iconst (-1), 1) := by decide +kernel
theorem dX12_goal_26 : decode cX12_goal 26 = .ok (.if_icmp .eq 27, 3) := by decide +kernel
theorem dX12_goal_29 : decode cX12_goal 29 = .ok (.aload_n 0, 1) := by decide +kernel
theorem dX12_goal_30 : decode cX12_goal 30 = .ok (.getfield 103, 3) := by decide +kernel
theorem dX12_goal_33 : decode cX12_goal 33 = .ok (.iconst 2, 1) := by decide +kernel
theorem dX12_goal_34 : decode cX12_goal 34 = .ok (.iload 4, 2) := by decide +kernel
theorem dX12_goal_36 : decode cX12_goal 36 = .ok (.imul, 1) := by decide +kernel
theorem dX12_goal_37 : decode cX12_goal 37 = .ok (.iload_n 2, 1) := by decide +kernel
theorem dX12_goal_38 : decode cX12_goal 38 = .ok (.iadd, 1) := by decide +kernel
theorem dX12_goal_39 : decode cX12_goal 39 = .ok (.iaload, 1) := by decide +kernel
theorem dX12_goal_40 : decode cX12_goal 40 = .ok (.aload_n 0, 1) := by decide +kernel
theorem dX12_goal_41 : decode cX12_goal 41 = .ok (.getfield 103, 3) := by decide +kernel
theorem dX12_goal_44 : decode cX12_goal 44 = .ok (.iconst 2, 1) := by decide +kernel
theorem dX12_goal_45 : decode cX12_goal 45 = .ok (.iload_n 3, 1) := by decide +kernel
theorem dX12_goal_46 : decode cX12_goal 46 = .ok (.imul, 1) := by decide +kernel
theorem dX12_goal_47 : decode cX12_goal 47 = .ok (.iload_n 2, 1) := by decide +kernel
theorem dX12_goal_48 : decode cX12_goal 48 = .ok (.iadd, 1) := by decide +kernel
theorem dX12_goal_49 : decode cX12_goal 49 = .ok (.iaload, 1) := by decide +kernel
theorem dX12_goal_50 : decode cX12_goal 50 = .ok (.if_icmp .ge 6, 3) := by decide +kernel
theorem dX12_goal_53 : decode cX12_goal 53 = .ok (.iload 4, 2) := by decide +kernel
theorem dX12_goal_55 : decode cX12_goal 55 = .ok (.istore_n 3, 1) := by decide +kernel
theorem dX12_goal_56 : decode cX12_goal 56 = .ok (.iinc 4 1, 3) := by decide +kernel
theorem dX12_goal_59 : decode cX12_goal 59 = .ok (.goto (-54), 3) := by decide +kernel
theorem dX12_goal_62 : decode cX12_goal 62 = .ok (.iload_n 3, 1) := by decide +kernel
theorem dX12_goal_63 : decode cX12_goal 63 = .ok (.ireturn, 1) := by decide +kernel
theorem dX12_leaves_0 : decode cX12_leaves 0 = .ok (.aload_n 0, 1) := by decide +kernel
theorem dX12_leaves_1 : decode cX12_leaves 1 = .ok (.iload_n 1, 1) := by decide +kernel
theorem dX12_leaves_2 : decode cX12_leaves 2 = .ok (.iload_n 2, 1) := by decide +kernel
theorem dX12_leaves_3 : decode cX12_leaves 3 = .ok (.invokevirtual 397, 3) := by decide +kernel
theorem dX12_leaves_6 : decode cX12_leaves 6 = .ok (.istore 4, 2) := by decide +kernel
theorem dX12_leaves_8 : decode cX12_leaves 8 = .ok (.aload_n 0, 1) := by decide +kernel
theorem dX12_leaves_9 : decode cX12_leaves 9 = .ok (.getfield 97, 3) := by decide +kernel
theorem dX12_leaves_12 : decode cX12_leaves 12 = .ok (.iconst 2, 1) := by decide +kernel
theorem dX12_leaves_13 : decode cX12_leaves 13 = .ok (.iload_n 1, 1) := by decide +kernel
theorem dX12_leaves_14 : decode cX12_leaves 14 = .ok (.imul, 1) := by decide +kernel
theorem dX12_leaves_15 : decode cX12_leaves 15 = .ok (.iload_n 2, 1) := by decide +kernel
theorem dX12_leaves_16 : decode cX12_leaves 16 = .ok (.iadd, 1) := by decide +kernel
theorem dX12_leaves_17 : decode cX12_leaves 17 = .ok (.iaload, 1) := by decide +kernel
theorem dX12_leaves_18 : decode cX12_leaves 18 = .ok (.aload_n 0, 1) := by decide +kernel
theorem dX12_leaves_19 : decode cX12_leaves 19 = .ok (.getfield 19, 3) := by decide +kernel
theorem dX12_leaves_22 : decode cX12_leaves 22 = .ok (.iconst 4, 1) := by decide +kernel
theorem dX12_leaves_23 : decode cX12_leaves 23 = .ok (.iaload, 1) := by decide +kernel
theorem dX12_leaves_24 : decode cX12_leaves 24 = .ok (.imul, 1) := by decide +kernel
theorem dX12_leaves_25 : decode cX12_leaves 25 = .ok (.bipush 99, 2) := by decide +kernel
theorem dX12_leaves_27 : decode cX12_leaves 27 = .ok (.iadd, 1) := by decide +kernel
theorem dX12_leaves_28 : decode cX12_leaves 28 = .ok (.bipush 100, 2) := by decide +kernel
theorem dX12_leaves_30 : decode cX12_leaves 30 = .ok (.idiv, 1) := by decide +kernel
theorem dX12_leaves_31 : decode cX12_leaves 31 = .ok (.istore 5, 2) := by decide +kernel
theorem dX12_leaves_33 : decode cX12_leaves 33 = .ok (.iload 5, 2) := by decide +kernel
theorem dX12_leaves_35 : decode cX12_leaves 35 = .ok (.ifCond .eq 18, 3) := by decide +kernel
theorem dX12_leaves_38 : decode cX12_leaves 38 = .ok (.aload_n 0, 1) := by decide +kernel
theorem dX12_leaves_39 : decode cX12_leaves 39 = .ok (.getfield 103, 3) := by decide +kernel
theorem dX12_leaves_42 : decode cX12_leaves 42 = .ok (.iconst 2, 1) := by decide +kernel
theorem dX12_leaves_43 : decode cX12_leaves 43 = .ok (.iload_n 1, 1) := by decide +kernel
theorem dX12_leaves_44 : decode cX12_leaves 44 = .ok (.imul, 1) := by decide +kernel
theorem dX12_leaves_45 : decode cX12_leaves 45 = .ok (.iload_n 2, 1) := by decide +kernel
theorem dX12_leaves_46 : decode cX12_leaves 46 = .ok (.iadd, 1) := by decide +kernel
theorem dX12_leaves_47 : decode cX12_leaves 47 = .ok (.iaload, 1) := by decide +kernel
theorem dX12_leaves_48 : decode cX12_leaves 48 = .ok (.bipush 99, 2) := by decide +kernel
theorem dX12_leaves_50 : decode cX12_leaves 50 = .ok (.if_icmp .ne 4, 3) := by decide +kernel
theorem dX12_leaves_53 : decode cX12_leaves 53 = .ok (.return_, 1) := by decide +kernel
theorem dX12_leaves_54 : decode cX12_leaves 54 = .ok (.iload_n 3, 1) := by decide +kernel
theorem dX12_leaves_55 : decode cX12_leaves 55 = .ok (.iload_n 1, 1) := by decide +kernel
theorem dX12_leaves_56 : decode cX12_leaves 56 = .ok (.ishr, 1) := by decide +kernel
theorem dX12_leaves_57 : decode cX12_leaves 57 = .ok (.iconst 1, 1) := by decide +kernel
theorem dX12_leaves_58 : decode cX12_leaves 58 = .ok (.iand, 1) := by decide +kernel
theorem dX12_leaves_59 : decode cX12_leaves 59 = .ok (.iconst 1, 1) := by decide +kernel
theorem dX12_leaves_60 : decode cX12_leaves 60 = .ok (.if_icmp .ne 7, 3) := by decide +kernel
theorem dX12_leaves_63 : decode cX12_leaves 63 = .ok (.iconst 0, 1) := by decide +kernel
theorem dX12_leaves_64 : decode cX12_leaves 64 = .ok (.goto 18, 3) := by decide +kernel
theorem dX12_leaves_67 : decode cX12_leaves 67 = .ok (.iload 5, 2) := by decide +kernel
theorem dX12_leaves_69 : decode cX12_leaves 69 = .ok (.aload_n 0, 1) := by decide +kernel
theorem dX12_leaves_70 : decode cX12_leaves 70 = .ok (.getfield 19, 3) := by decide +kernel
theorem dX12_leaves_73 : decode cX12_leaves 73 = .ok (.iconst 5, 1) := by decide +kernel
theorem dX12_leaves_74 : decode cX12_leaves 74 = .ok (.iaload, 1) := by decide +kernel
theorem dX12_leaves_75 : decode cX12_leaves 75 = .ok (.imul, 1) := by decide +kernel
theorem dX12_leaves_76 : decode cX12_leaves 76 = .ok (.bipush 99, 2) := by decide +kernel
theorem dX12_leaves_78 : decode cX12_leaves 78 = .ok (.iadd, 1) := by decide +kernel
theorem dX12_leaves_79 : decode cX12_leaves 79 = .ok (.bipush 100, 2) := by decide +kernel
theorem dX12_leaves_81 : decode cX12_leaves 81 = .ok (.idiv, 1) := by decide +kernel
theorem dX12_leaves_82 : decode cX12_leaves 82 = .ok (.istore 6, 2) := by decide +kernel
theorem dX12_leaves_84 : decode cX12_leaves 84 = .ok (.aload_n 0, 1) := by decide +kernel
theorem dX12_leaves_85 : decode cX12_leaves 85 = .ok (.dup, 1) := by decide +kernel
theorem dX12_leaves_86 : decode cX12_leaves 86 = .ok (.getfield 400, 3) := by decide +kernel
theorem dX12_leaves_89 : decode cX12_leaves 89 = .ok (.iload 6, 2) := by decide +kernel
theorem dX12_leaves_91 : decode cX12_leaves 91 = .ok (.iadd, 1) := by decide +kernel
theorem dX12_leaves_92 : decode cX12_leaves 92 = .ok (.putfield 400, 3) := by decide +kernel
theorem dX12_leaves_95 : decode cX12_leaves 95 = .ok (.aload_n 0, 1) := by decide +kernel
theorem dX12_leaves_96 : decode cX12_leaves 96 = .ok (.getfield 100, 3) := by decide +kernel
theorem dX12_leaves_99 : decode cX12_leaves 99 = .ok (.iconst 2, 1) := by decide +kernel
theorem dX12_leaves_100 : decode cX12_leaves 100 = .ok (.iload_n 1, 1) := by decide +kernel
theorem dX12_leaves_101 : decode cX12_leaves 101 = .ok (.imul, 1) := by decide +kernel
theorem dX12_leaves_102 : decode cX12_leaves 102 = .ok (.iload_n 2, 1) := by decide +kernel
theorem dX12_leaves_103 : decode cX12_leaves 103 = .ok (.iadd, 1) := by decide +kernel
theorem dX12_leaves_104 : decode cX12_leaves 104 = .ok (.dup2, 1) := by decide +kernel
theorem dX12_leaves_105 : decode cX12_leaves 105 = .ok (.iaload, 1) := by decide +kernel
theorem dX12_leaves_106 : decode cX12_leaves 106 = .ok (.iload 5, 2) := by decide +kernel
theorem dX12_leaves_108 : decode cX12_leaves 108 = .ok (.isub, 1) := by decide +kernel
theorem dX12_leaves_109 : decode cX12_leaves 109 = .ok (.iastore, 1) := by decide +kernel
theorem dX12_leaves_110 : decode cX12_leaves 110 = .ok (.aload_n 0, 1) := by decide +kernel
theorem dX12_leaves_111 : decode cX12_leaves 111 = .ok (.getfield 100, 3) := by decide +kernel
theorem dX12_leaves_114 : decode cX12_leaves 114 = .ok (.iconst 2, 1) := by decide +kernel
theorem dX12_leaves_115 : decode cX12_leaves 115 = .ok (.iload 4, 2) := by decide +kernel
theorem dX12_leaves_117 : decode cX12_leaves 117 = .ok (.imul, 1) := by decide +kernel
theorem dX12_leaves_118 : decode cX12_leaves 118 = .ok (.iload_n 2, 1) := by decide +kernel
theorem dX12_leaves_119 : decode cX12_leaves 119 = .ok (.iadd, 1) := by decide +kernel
theorem dX12_leaves_120 : decode cX12_leaves 120 = .ok (.dup2, 1) := by decide +kernel
theorem dX12_leaves_121 : decode cX12_leaves 121 = .ok (.iaload, 1) := by decide +kernel
theorem dX12_leaves_122 : decode cX12_leaves 122 = .ok (.iload 5, 2) := by decide +kernel
theorem dX12_leaves_124 : decode cX12_leaves 124 = .ok (.iload 6, 2) := by decide +kernel
theorem dX12_leaves_126 : decode cX12_leaves 126 = .ok (.isub, 1) := by decide +kernel
theorem dX12_leaves_127 : decode cX12_leaves 127 = .ok (.iadd, 1) := by decide +kernel
theorem dX12_leaves_128 : decode cX12_leaves 128 = .ok (.iastore, 1) := by decide +kernel
theorem dX12_leaves_129 : decode cX12_leaves 129 = .ok (.return_, 1) := by decide +kernel
theorem dX12_flees_0 : decode cX12_flees 0 = .ok (.aload_n 0, 1) := by decide +kernel
theorem dX12_flees_1 : decode cX12_flees 1 = .ok (.iconst 0, 1) := by decide +kernel
theorem dX12_flees_2 : decode cX12_flees 2 = .ok (.putfield 400, 3) := by decide +kernel
theorem dX12_flees_5 : decode cX12_flees 5 = .ok (.iconst 0, 1) := by decide +kernel
theorem dX12_flees_6 : decode cX12_flees 6 = .ok (.istore 4, 2) := by decide +kernel
theorem dX12_flees_8 : decode cX12_flees 8 = .ok (.iload 4, 2) := by decide +kernel
theorem dX12_flees_10 : decode cX12_flees 10 = .ok (.iconst 2, 1) := by decide +kernel
theorem dX12_flees_11 : decode cX12_flees 11 = .ok (.aload_n 0, 1) := by decide +kernel
theorem dX12_flees_12 : decode cX12_flees 12 = .ok (.invokevirtual 287, 3) := by decide +kernel
theorem dX12_flees_15 : decode cX12_flees 15 = .ok (.imul, 1) := by decide +kernel
theorem dX12_flees_16 : decode cX12_flees 16 = .ok (.if_icmp .ge 23, 3) := by decide +kernel
theorem dX12_flees_19 : decode cX12_flees 19 = .ok (.aload_n 0, 1) := by decide +kernel
theorem dX12_flees_20 : decode cX12_flees 20 = .ok (.getfield 97, 3) := by decide +kernel
theorem dX12_flees_23 : decode cX12_flees 23 = .ok (.iload 4, 2) := by decide +kernel
theorem dX12_flees_25 : decode cX12_flees 25 = .ok (.aload_n 0, 1) := by decide +kernel
theorem dX12_flees_26 : decode cX12_flees 26 = .ok (.getfield 88, 3) := by decide +kernel
theorem dX12_flees_29 : decode cX12_flees 29 = .ok (.iload 4, 2) := by decide +kernel
theorem dX12_flees_31 : decode cX12_flees 31 = .ok (.iaload, 1) := by decide +kernel
theorem dX12_flees_32 : decode cX12_flees 32 = .ok (.iastore, 1) := by decide +kernel
theorem dX12_flees_33 : decode cX12_flees 33 = .ok (.iinc 4 1, 3) := by decide +kernel
theorem dX12_flees_36 : decode cX12_flees 36 = .ok (.goto (-28), 3) := by decide +kernel
theorem dX12_flees_39 : decode cX12_flees 39 = .ok (.aload_n 0, 1) := by decide +kernel
theorem dX12_flees_40 : decode cX12_flees 40 = .ok (.iload_n 1, 1) := by decide +kernel
theorem dX12_flees_41 : decode cX12_flees 41 = .ok (.invokevirtual 403, 3) := by decide +kernel
theorem dX12_flees_44 : decode cX12_flees 44 = .ok (.iconst 0, 1) := by decide +kernel
theorem dX12_flees_45 : decode cX12_flees 45 = .ok (.istore 4, 2) := by decide +kernel
theorem dX12_flees_47 : decode cX12_flees 47 = .ok (.iload 4, 2) := by decide +kernel
theorem dX12_flees_49 : decode cX12_flees 49 = .ok (.iload_n 2, 1) := by decide +kernel
theorem dX12_flees_50 : decode cX12_flees 50 = .ok (.if_icmp .ge 110, 3) := by decide +kernel
theorem dX12_flees_53 : decode cX12_flees 53 = .ok (.iconst 0, 1) := by decide +kernel
theorem dX12_flees_54 : decode cX12_flees 54 = .ok (.istore 5, 2) := by decide +kernel
theorem dX12_flees_56 : decode cX12_flees 56 = .ok (.iload 5, 2) := by decide +kernel
theorem dX12_flees_58 : decode cX12_flees 58 = .ok (.iconst 2, 1) := by decide +kernel
theorem dX12_flees_59 : decode cX12_flees 59 = .ok (.aload_n 0, 1) := by decide +kernel
theorem dX12_flees_60 : decode cX12_flees 60 = .ok (.invokevirtual 287, 3) := by decide +kernel
theorem dX12_flees_63 : decode cX12_flees 63 = .ok (.imul, 1) := by decide +kernel
theorem dX12_flees_64 : decode cX12_flees 64 = .ok (.if_icmp .ge 23, 3) := by decide +kernel
theorem dX12_flees_67 : decode cX12_flees 67 = .ok (.aload_n 0, 1) := by decide +kernel
theorem dX12_flees_68 : decode cX12_flees 68 = .ok (.getfield 100, 3) := by decide +kernel
theorem dX12_flees_71 : decode cX12_flees 71 = .ok (.iload 5, 2) := by decide +kernel
theorem dX12_flees_73 : decode cX12_flees 73 = .ok (.aload_n 0, 1) := by decide +kernel
theorem dX12_flees_74 : decode cX12_flees 74 = .ok (.getfield 97, 3) := by decide +kernel
theorem dX12_flees_77 : decode cX12_flees 77 = .ok (.iload 5, 2) := by decide +kernel
theorem dX12_flees_79 : decode cX12_flees 79 = .ok (.iaload, 1) := by decide +kernel
theorem dX12_flees_80 : decode cX12_flees 80 = .ok (.iastore, 1) := by decide +kernel
theorem dX12_flees_81 : decode cX12_flees 81 = .ok (.iinc 5 1, 3) := by decide +kernel
theorem dX12_flees_84 : decode cX12_flees 84 = .ok (.goto (-28), 3) := by decide +kernel
theorem dX12_flees_87 : decode cX12_flees 87 = .ok (.iconst 0, 1) := by decide +kernel
theorem dX12_flees_88 : decode cX12_flees 88 = .ok (.istore 5, 2) := by decide +kernel
theorem dX12_flees_90 : decode cX12_flees 90 = .ok (.iload 5, 2) := by decide +kernel
theorem dX12_flees_92 : decode cX12_flees 92 = .ok (.aload_n 0, 1) := by decide +kernel
theorem dX12_flees_93 : decode cX12_flees 93 = .ok (.invokevirtual 287, 3) := by decide +kernel
theorem dX12_flees_96 : decode cX12_flees 96 = .ok (.if_icmp .ge 24, 3) := by decide +kernel
theorem dX12_flees_99 : decode cX12_flees 99 = .ok (.aload_n 0, 1) := by decide +kernel
theorem dX12_flees_100 : decode cX12_flees 100 = .ok (.iload 5, 2) := by decide +kernel
theorem dX12_flees_102 : decode cX12_flees 102 = .ok (.iconst 1, 1) := by decide +kernel
theorem dX12_flees_103 : decode cX12_flees 103 = .ok (.iload_n 1, 1) := by decide +kernel
theorem dX12_flees_104 : decode cX12_flees 104 = .ok (.iload 5, 2) := by decide +kernel
theorem dX12_flees_106 : decode cX12_flees 106 = .ok (.invokestatic 354, 3) := by decide +kernel
theorem dX12_flees_109 : decode cX12_flees 109 = .ok (.isub, 1) := by decide +kernel
theorem dX12_flees_110 : decode cX12_flees 110 = .ok (.iload_n 3, 1) := by decide +kernel
theorem dX12_flees_111 : decode cX12_flees 111 = .ok (.invokevirtual 406, 3) := by decide +kernel
theorem dX12_flees_114 : decode cX12_flees 114 = .ok (.iinc 5 1, 3) := by decide +kernel
theorem dX12_flees_117 : decode cX12_flees 117 = .ok (.goto (-27), 3) := by decide +kernel
theorem dX12_flees_120 : decode cX12_flees 120 = .ok (.iconst 0, 1) := by decide +kernel
theorem dX12_flees_121 : decode cX12_flees 121 = .ok (.istore 5, 2) := by decide +kernel
theorem dX12_flees_123 : decode cX12_flees 123 = .ok (.iload 5, 2) := by decide +kernel
theorem dX12_flees_125 : decode cX12_flees 125 = .ok (.iconst 2, 1) := by decide +kernel
theorem dX12_flees_126 : decode cX12_flees 126 = .ok (.aload_n 0, 1) := by decide +kernel
theorem dX12_flees_127 : decode cX12_flees 127 = .ok (.invokevirtual 287, 3) := by decide +kernel
theorem dX12_flees_130 : decode cX12_flees 130 = .ok (.imul, 1) := by decide +kernel
theorem dX12_flees_131 : decode cX12_flees 131 = .ok (.if_icmp .ge 23, 3) := by decide +kernel
theorem dX12_flees_134 : decode cX12_flees 134 = .ok (.aload_n 0, 1) := by decide +kernel
theorem dX12_flees_135 : decode cX12_flees 135 = .ok (.getfield 97, 3) := by decide +kernel
theorem dX12_flees_138 : decode cX12_flees 138 = .ok (.iload 5, 2) := by decide +kernel
theorem dX12_flees_140 : decode cX12_flees 140 = .ok (.aload_n 0, 1) := by decide +kernel
theorem dX12_flees_141 : decode cX12_flees 141 = .ok (.getfield 100, 3) := by decide +kernel
theorem dX12_flees_144 : decode cX12_flees 144 = .ok (.iload 5, 2) := by decide +kernel
theorem dX12_flees_146 : decode cX12_flees 146 = .ok (.iaload, 1) := by decide +kernel
theorem dX12_flees_147 : decode cX12_flees 147 = .ok (.iastore, 1) := by decide +kernel
theorem dX12_flees_148 : decode cX12_flees 148 = .ok (.iinc 5 1, 3) := by decide +kernel
theorem dX12_flees_151 : decode cX12_flees 151 = .ok (.goto (-28), 3) := by decide +kernel
theorem dX12_flees_154 : decode cX12_flees 154 = .ok (.iinc 4 1, 3) := by decide +kernel
theorem dX12_flees_157 : decode cX12_flees 157 = .ok (.goto (-110), 3) := by decide +kernel
theorem dX12_flees_160 : decode cX12_flees 160 = .ok (.return_, 1) := by decide +kernel
theorem dX12_flight_0 : decode cX12_flight 0 = .ok (.aload_n 0, 1) := by decide +kernel
theorem dX12_flight_1 : decode cX12_flight 1 = .ok (.iconst 0, 1) := by decide +kernel
theorem dX12_flight_2 : decode cX12_flight 2 = .ok (.putfield 110, 3) := by decide +kernel
theorem dX12_flight_5 : decode cX12_flight 5 = .ok (.aload_n 0, 1) := by decide +kernel
theorem dX12_flight_6 : decode cX12_flight 6 = .ok (.iload_n 1, 1) := by decide +kernel
theorem dX12_flight_7 : decode cX12_flight 7 = .ok (.invokevirtual 349, 3) := by decide +kernel
theorem dX12_flight_10 : decode cX12_flight 10 = .ok (.ifCond .eq 32, 3) := by decide +kernel
theorem dX12_flight_13 : decode cX12_flight 13 = .ok (.iload_n 2, 1) := by decide +kernel
theorem dX12_flight_14 : decode cX12_flight 14 = .ok (.ifCond .lt 28, 3) := by decide +kernel
theorem dX12_flight_17 : decode cX12_flight 17 = .ok (.iload_n 2, 1) := by decide +kernel
theorem dX12_flight_18 : decode cX12_flight 18 = .ok (.bipush 20, 2) := by decide +kernel
theorem dX12_flight_20 : decode cX12_flight 20 = .ok (.if_icmp .gt 22, 3) := by decide +kernel
theorem dX12_flight_23 : decode cX12_flight 23 = .ok (.iload 4, 2) := by decide +kernel
theorem dX12_flight_25 : decode cX12_flight 25 = .ok (.invokestatic 325, 3) := by decide +kernel
theorem dX12_flight_28 : decode cX12_flight 28 = .ok (.ifCond .eq 14, 3) := by decide +kernel
theorem dX12_flight_31 : decode cX12_flight 31 = .ok (.iload 5, 2) := by decide +kernel
theorem dX12_flight_33 : decode cX12_flight 33 = .ok (.ifCond .lt 9, 3) := by decide +kernel
theorem dX12_flight_36 : decode cX12_flight 36 = .ok (.iload 5, 2) := by decide +kernel
theorem dX12_flight_38 : decode cX12_flight 38 = .ok (.iconst 2, 1) := by decide +kernel
theorem dX12_flight_39 : decode cX12_flight 39 = .ok (.if_icmp .le 5, 3) := by decide +kernel
theorem dX12_flight_42 : decode cX12_flight 42 = .ok (.iconst (-1), 1) := by decide +kernel
theorem dX12_flight_43 : decode cX12_flight 43 = .ok (.ireturn, 1) := by decide +kernel
theorem dX12_flight_44 : decode cX12_flight 44 = .ok (.aload_n 0, 1) := by decide +kernel
theorem dX12_flight_45 : decode cX12_flight 45 = .ok (.iload 4, 2) := by decide +kernel
theorem dX12_flight_47 : decode cX12_flight 47 = .ok (.invokevirtual 340, 3) := by decide +kernel
theorem dX12_flight_50 : decode cX12_flight 50 = .ok (.aload_n 0, 1) := by decide +kernel
theorem dX12_flight_51 : decode cX12_flight 51 = .ok (.iload_n 1, 1) := by decide +kernel
theorem dX12_flight_52 : decode cX12_flight 52 = .ok (.iload_n 2, 1) := by decide +kernel
theorem dX12_flight_53 : decode cX12_flight 53 = .ok (.aload_n 0, 1) := by decide +kernel
theorem dX12_flight_54 : decode cX12_flight 54 = .ok (.iload_n 3, 1) := by decide +kernel
theorem dX12_flight_55 : decode cX12_flight 55 = .ok (.invokevirtual 410, 3) := by decide +kernel
theorem dX12_flight_58 : decode cX12_flight 58 = .ok (.invokevirtual 413, 3) := by decide +kernel
theorem dX12_flight_61 : decode cX12_flight 61 = .ok (.iload 5, 2) := by decide +kernel
theorem dX12_flight_63 : decode cX12_flight 63 = .ok (.ifCond .ne 8, 3) := by decide +kernel
theorem dX12_flight_66 : decode cX12_flight 66 = .ok (.aload_n 0, 1) := by decide +kernel
theorem dX12_flight_67 : decode cX12_flight 67 = .ok (.getfield 400, 3) := by decide +kernel
theorem dX12_flight_70 : decode cX12_flight 70 = .ok (.ireturn, 1) := by decide +kernel
theorem dX12_flight_71 : decode cX12_flight 71 = .ok (.iconst 0, 1) := by decide +kernel
theorem dX12_flight_72 : decode cX12_flight 72 = .ok (.istore 6, 2) := by decide +kernel
theorem dX12_flight_74 : decode cX12_flight 74 = .ok (.iconst 0, 1) := by decide +kernel
theorem dX12_flight_75 : decode cX12_flight 75 = .ok (.istore 7, 2) := by decide +kernel
theorem dX12_flight_77 : decode cX12_flight 77 = .ok (.iconst 0, 1) := by decide +kernel
theorem dX12_flight_78 : decode cX12_flight 78 = .ok (.istore 8, 2) := by decide +kernel
theorem dX12_flight_80 : decode cX12_flight 80 = .ok (.iload 8, 2) := by decide +kernel
theorem dX12_flight_82 : decode cX12_flight 82 = .ok (.aload_n 0, 1) := by decide +kernel
theorem dX12_flight_83 : decode cX12_flight 83 = .ok (.invokevirtual 287, 3) := by decide +kernel
theorem dX12_flight_86 : decode cX12_flight 86 = .ok (.if_icmp .ge 60, 3) := by decide +kernel
theorem dX12_flight_89 : decode cX12_flight 89 = .ok (.iload 6, 2) := by decide +kernel
theorem dX12_flight_91 : decode cX12_flight 91 = .ok (.aload_n 0, 1) := by decide +kernel
theorem dX12_flight_92 : decode cX12_flight 92 = .ok (.getfield 97, 3) := by decide +kernel
theorem dX12_flight_95 : decode cX12_flight 95 = .ok (.iconst 2, 1) := by decide +kernel
theorem dX12_flight_96 : decode cX12_flight 96 = .ok (.iload 8, 2) := by decide +kernel
theorem dX12_flight_98 : decode cX12_flight 98 = .ok (.imul, 1) := by decide +kernel
theorem dX12_flight_99 : decode cX12_flight 99 = .ok (.iconst 1, 1) := by decide +kernel
theorem dX12_flight_100 : decode cX12_flight 100 = .ok (.iadd, 1) := by decide +kernel
theorem dX12_flight_101 : decode cX12_flight 101 = .ok (.iload_n 1, 1) := by decide +kernel
theorem dX12_flight_102 : decode cX12_flight 102 = .ok (.iload 8, 2) := by decide +kernel
theorem dX12_flight_104 : decode cX12_flight 104 = .ok (.invokestatic 354, 3) := by decide +kernel
theorem dX12_flight_107 : decode cX12_flight 107 = .ok (.isub, 1) := by decide +kernel
theorem dX12_flight_108 : decode cX12_flight 108 = .ok (.iaload, 1) := by decide +kernel
theorem dX12_flight_109 : decode cX12_flight 109 = .ok (.iadd, 1) := by decide +kernel
theorem dX12_flight_110 : decode cX12_flight 110 = .ok (.istore 6, 2) := by decide +kernel
theorem dX12_flight_112 : decode cX12_flight 112 = .ok (.iload 7, 2) := by decide +kernel
theorem dX12_flight_114 : decode cX12_flight 114 = .ok (.aload_n 0, 1) := by decide +kernel
theorem dX12_flight_115 : decode cX12_flight 115 = .ok (.getfield 97, 3) := by decide +kernel
theorem dX12_flight_118 : decode cX12_flight 118 = .ok (.iconst 2, 1) := by decide +kernel
theorem dX12_flight_119 : decode cX12_flight 119 = .ok (.iload 8, 2) := by decide +kernel
theorem dX12_flight_121 : decode cX12_flight 121 = .ok (.imul, 1) := by decide +kernel
theorem dX12_flight_122 : decode cX12_flight 122 = .ok (.iaload, 1) := by decide +kernel
theorem dX12_flight_123 : decode cX12_flight 123 = .ok (.aload_n 0, 1) := by decide +kernel
theorem dX12_flight_124 : decode cX12_flight 124 = .ok (.getfield 97, 3) := by decide +kernel
theorem dX12_flight_127 : decode cX12_flight 127 = .ok (.iconst 2, 1) := by decide +kernel
theorem dX12_flight_128 : decode cX12_flight 128 = .ok (.iload 8, 2) := by decide +kernel
theorem dX12_flight_130 : decode cX12_flight 130 = .ok (.imul, 1) := by decide +kernel
theorem dX12_flight_131 : decode cX12_flight 131 = .ok (.iconst 1, 1) := by decide +kernel
theorem dX12_flight_132 : decode cX12_flight 132 = .ok (.iadd, 1) := by decide +kernel
theorem dX12_flight_133 : decode cX12_flight 133 = .ok (.iaload, 1) := by decide +kernel
theorem dX12_flight_134 : decode cX12_flight 134 = .ok (.iadd, 1) := by decide +kernel
theorem dX12_flight_135 : decode cX12_flight 135 = .ok (.invokestatic 312, 3) := by decide +kernel
theorem dX12_flight_138 : decode cX12_flight 138 = .ok (.istore 7, 2) := by decide +kernel
theorem dX12_flight_140 : decode cX12_flight 140 = .ok (.iinc 8 1, 3) := by decide +kernel
theorem dX12_flight_143 : decode cX12_flight 143 = .ok (.goto (-63), 3) := by decide +kernel
theorem dX12_flight_146 : decode cX12_flight 146 = .ok (.iload 5, 2) := by decide +kernel
theorem dX12_flight_148 : decode cX12_flight 148 = .ok (.iconst 1, 1) := by decide +kernel
theorem dX12_flight_149 : decode cX12_flight 149 = .ok (.if_icmp .ne 8, 3) := by decide +kernel
theorem dX12_flight_152 : decode cX12_flight 152 = .ok (.iload 6, 2) := by decide +kernel
theorem dX12_flight_154 : decode cX12_flight 154 = .ok (.goto 5, 3) := by decide +kernel
theorem dX12_flight_157 : decode cX12_flight 157 = .ok (.iload 7, 2) := by decide +kernel
theorem dX12_flight_159 : decode cX12_flight 159 = .ok (.ireturn, 1) := by decide +kernel
theorem dX12_guarded_0 : decode cX12_guarded 0 = .ok (.iconst 0, 1) := by decide +kernel
theorem dX12_guarded_1 : decode cX12_guarded 1 = .ok (.istore_n 2, 1) := by decide +kernel
theorem dX12_guarded_2 : decode cX12_guarded 2 = .ok (.iconst 0, 1) := by decide +kernel
theorem dX12_guarded_3 : decode cX12_guarded 3 = .ok (.istore_n 3, 1) := by decide +kernel
theorem dX12_guarded_4 : decode cX12_guarded 4 = .ok (.iload_n 3, 1) := by decide +kernel
theorem dX12_guarded_5 : decode cX12_guarded 5 = .ok (.aload_n 0, 1) := by decide +kernel
theorem dX12_guarded_6 : decode cX12_guarded 6 = .ok (.getfield 281, 3) := by decide +kernel
theorem dX12_guarded_9 : decode cX12_guarded 9 = .ok (.if_icmp .ge 29, 3) := by decide +kernel
theorem dX12_guarded_12 : decode cX12_guarded 12 = .ok (.iload_n 1, 1) := by decide +kernel
theorem dX12_guarded_13 : decode cX12_guarded 13 = .ok (.iload_n 3, 1) := by decide +kernel
theorem dX12_guarded_14 : decode cX12_guarded 14 = .ok (.ishr, 1) := by decide +kernel
theorem dX12_guarded_15 : decode cX12_guarded 15 = .ok (.iconst 1, 1) := by decide +kernel
theorem dX12_guarded_16 : decode cX12_guarded 16 = .ok (.iand, 1) := by decide +kernel
theorem dX12_guarded_17 : decode cX12_guarded 17 = .ok (.iconst 1, 1) := by decide +kernel
theorem dX12_guarded_18 : decode cX12_guarded 18 = .ok (.if_icmp .ne 14, 3) := by decide +kernel
theorem dX12_guarded_21 : decode cX12_guarded 21 = .ok (.iload_n 2, 1) := by decide +kernel
theorem dX12_guarded_22 : decode cX12_guarded 22 = .ok (.iconst 1, 1) := by decide +kernel
theorem dX12_guarded_23 : decode cX12_guarded 23 = .ok (.aload_n 0, 1) := by decide +kernel
theorem dX12_guarded_24 : decode cX12_guarded 24 = .ok (.getfield 61, 3) := by decide +kernel
theorem dX12_guarded_27 : decode cX12_guarded 27 = .ok (.iload_n 3, 1) := by decide +kernel
theorem dX12_guarded_28 : decode cX12_guarded 28 = .ok (.iaload, 1) := by decide +kernel
theorem dX12_guarded_29 : decode cX12_guarded 29 = .ok (.ishl, 1) := by decide +kernel
theorem dX12_guarded_30 : decode cX12_guarded 30 = .ok (.ior, 1) := by decide +kernel
theorem dX12_guarded_31 : decode cX12_guarded 31 = .ok (.istore_n 2, 1) := by decide +kernel
theorem dX12_guarded_32 : decode cX12_guarded 32 = .ok (.iinc 3 1, 3) := by decide +kernel
theorem dX12_guarded_35 : decode cX12_guarded 35 = .ok (.goto (-31), 3) := by decide +kernel
theorem dX12_guarded_38 : decode cX12_guarded 38 = .ok (.iload_n 2, 1) := by decide +kernel
theorem dX12_guarded_39 : decode cX12_guarded 39 = .ok (.ireturn, 1) := by decide +kernel
theorem dX12_guards_0 : decode cX12_guards 0 = .ok (.aload_n 0, 1) := by decide +kernel
theorem dX12_guards_1 : decode cX12_guards 1 = .ok (.iconst 0, 1) := by decide +kernel
theorem dX12_guards_2 : decode cX12_guards 2 = .ok (.putfield 110, 3) := by decide +kernel
theorem dX12_guards_5 : decode cX12_guards 5 = .ok (.iload_n 1, 1) := by decide +kernel
theorem dX12_guards_6 : decode cX12_guards 6 = .ok (.ifCond .lt 54, 3) := by decide +kernel
theorem dX12_guards_9 : decode cX12_guards 9 = .ok (.iload_n 1, 1) := by decide +kernel
theorem dX12_guards_10 : decode cX12_guards 10 = .ok (.bipush 8, 2) := by decide +kernel
theorem dX12_guards_12 : decode cX12_guards 12 = .ok (.if_icmp .gt 48, 3) := by decide +kernel
theorem dX12_guards_15 : decode cX12_guards 15 = .ok (.iload_n 2, 1) := by decide +kernel
theorem dX12_guards_16 : decode cX12_guards 16 = .ok (.iconst 1, 1) := by decide +kernel
theorem dX12_guards_17 : decode cX12_guards 17 = .ok (.if_icmp .lt 43, 3) := by decide +kernel
theorem dX12_guards_20 : decode cX12_guards 20 = .ok (.iload_n 2, 1) := by decide +kernel
theorem dX12_guards_21 : decode cX12_guards 21 = .ok (.iconst 1, 1) := by decide +kernel
theorem dX12_guards_22 : decode cX12_guards 22 = .ok (.aload_n 0, 1) := by decide +kernel
theorem dX12_guards_23 : decode cX12_guards 23 = .ok (.getfield 278, 3) := by decide +kernel
theorem dX12_guards_26 : decode cX12_guards 26 = .ok (.ishl, 1) := by decide +kernel
theorem dX12_guards_27 : decode cX12_guards 27 = .ok (.if_icmp .ge 33, 3) := by decide +kernel
theorem dX12_guards_30 : decode cX12_guards 30 = .ok (.iload_n 3, 1) := by decide +kernel
theorem dX12_guards_31 : decode cX12_guards 31 = .ok (.iconst 1, 1) := by decide +kernel
theorem dX12_guards_32 : decode cX12_guards 32 = .ok (.if_icmp .lt 28, 3) := by decide +kernel
theorem dX12_guards_35 : decode cX12_guards 35 = .ok (.iload_n 3, 1) := by decide +kernel
theorem dX12_guards_36 : decode cX12_guards 36 = .ok (.bipush 20, 2) := by decide +kernel
theorem dX12_guards_38 : decode cX12_guards 38 = .ok (.if_icmp .gt 22, 3) := by decide +kernel
theorem dX12_guards_41 : decode cX12_guards 41 = .ok (.iload 4, 2) := by decide +kernel
theorem dX12_guards_43 : decode cX12_guards 43 = .ok (.invokestatic 325, 3) := by decide +kernel
theorem dX12_guards_46 : decode cX12_guards 46 = .ok (.ifCond .eq 14, 3) := by decide +kernel
theorem dX12_guards_49 : decode cX12_guards 49 = .ok (.iload 5, 2) := by decide +kernel
theorem dX12_guards_51 : decode cX12_guards 51 = .ok (.ifCond .lt 9, 3) := by decide +kernel
theorem dX12_guards_54 : decode cX12_guards 54 = .ok (.iload 5, 2) := by decide +kernel
theorem dX12_guards_56 : decode cX12_guards 56 = .ok (.iconst 1, 1) := by decide +kernel
theorem dX12_guards_57 : decode cX12_guards 57 = .ok (.if_icmp .le 5, 3) := by decide +kernel
theorem dX12_guards_60 : decode cX12_guards 60 = .ok (.iconst (-1), 1) := by decide +kernel
theorem dX12_guards_61 : decode cX12_guards 61 = .ok (.ireturn, 1) := by decide +kernel
theorem dX12_guards_62 : decode cX12_guards 62 = .ok (.aload_n 0, 1) := by decide +kernel
theorem dX12_guards_63 : decode cX12_guards 63 = .ok (.iload 4, 2) := by decide +kernel
theorem dX12_guards_65 : decode cX12_guards 65 = .ok (.invokevirtual 340, 3) := by decide +kernel
theorem dX12_guards_68 : decode cX12_guards 68 = .ok (.iconst (-1), 1) := by decide +kernel
theorem dX12_guards_69 : decode cX12_guards 69 = .ok (.istore 6, 2) := by decide +kernel
theorem dX12_guards_71 : decode cX12_guards 71 = .ok (.iconst 0, 1) := by decide +kernel
theorem dX12_guards_72 : decode cX12_guards 72 = .ok (.istore 7, 2) := by decide +kernel
theorem dX12_guards_74 : decode cX12_guards 74 = .ok (.iconst 0, 1) := by decide +kernel
theorem dX12_guards_75 : decode cX12_guards 75 = .ok (.istore 8, 2) := by decide +kernel
theorem dX12_guards_77 : decode cX12_guards 77 = .ok (.iload 8, 2) := by decide +kernel
theorem dX12_guards_79 : decode cX12_guards 79 = .ok (.iconst 1, 1) := by decide +kernel
theorem dX12_guards_80 : decode cX12_guards 80 = .ok (.aload_n 0, 1) := by decide +kernel
theorem dX12_guards_81 : decode cX12_guards 81 = .ok (.getfield 281, 3) := by decide +kernel
theorem dX12_guards_84 : decode cX12_guards 84 = .ok (.ishl, 1) := by decide +kernel
theorem dX12_guards_85 : decode cX12_guards 85 = .ok (.if_icmp .ge 127, 3) := by decide +kernel
theorem dX12_guards_88 : decode cX12_guards 88 = .ok (.iload 8, 2) := by decide +kernel
theorem dX12_guards_90 : decode cX12_guards 90 = .ok (.invokestatic 346, 3) := by decide +kernel
theorem dX12_guards_93 : decode cX12_guards 93 = .ok (.iload_n 1, 1) := by decide +kernel
theorem dX12_guards_94 : decode cX12_guards 94 = .ok (.if_icmp .le 6, 3) := by decide +kernel
theorem dX12_guards_97 : decode cX12_guards 97 = .ok (.goto 109, 3) := by decide +kernel
theorem dX12_guards_100 : decode cX12_guards 100 = .ok (.iconst 0, 1) := by decide +kernel
theorem dX12_guards_101 : decode cX12_guards 101 = .ok (.istore 9, 2) := by decide +kernel
theorem dX12_guards_103 : decode cX12_guards 103 = .ok (.iconst 0, 1) := by decide +kernel
theorem dX12_guards_104 : decode cX12_guards 104 = .ok (.istore 10, 2) := by decide +kernel
theorem dX12_guards_106 : decode cX12_guards 106 = .ok (.iload 10, 2) := by decide +kernel
theorem dX12_guards_108 : decode cX12_guards 108 = .ok (.aload_n 0, 1) := by decide +kernel
theorem dX12_guards_109 : decode cX12_guards 109 = .ok (.getfield 278, 3) := by decide +kernel
theorem dX12_guards_112 : decode cX12_guards 112 = .ok (.if_icmp .ge 50, 3) := by decide +kernel
theorem dX12_guards_115 : decode cX12_guards 115 = .ok (.iload_n 2, 1) := by decide +kernel
theorem dX12_guards_116 : decode cX12_guards 116 = .ok (.iload 10, 2) := by decide +kernel
theorem dX12_guards_118 : decode cX12_guards 118 = .ok (.ishr, 1) := by decide +kernel
theorem dX12_guards_119 : decode cX12_guards 119 = .ok (.iconst 1, 1) := by decide +kernel
theorem dX12_guards_120 : decode cX12_guards 120 = .ok (.iand, 1) := by decide +kernel
theorem dX12_guards_121 : decode cX12_guards 121 = .ok (.ifCond .ne 6, 3) := by decide +kernel
theorem dX12_guards_124 : decode cX12_guards 124 = .ok (.goto 32, 3) := by decide +kernel
theorem dX12_guards_127 : decode cX12_guards 127 = .ok (.aload_n 0, 1) := by decide +kernel
theorem dX12_guards_128 : decode cX12_guards 128 = .ok (.aload_n 0, 1) := by decide +kernel
theorem dX12_guards_129 : decode cX12_guards 129 = .ok (.getfield 55, 3) := by decide +kernel
theorem dX12_guards_132 : decode cX12_guards 132 = .ok (.iload 10, 2) := by decide +kernel
theorem dX12_guards_134 : decode cX12_guards 134 = .ok (.iaload, 1) := by decide +kernel
theorem dX12_guards_135 : decode cX12_guards 135 = .ok (.iload_n 3, 1) := by decide +kernel
theorem dX12_guards_136 : decode cX12_guards 136 = .ok (.aload_n 0, 1) := by decide +kernel
theorem dX12_guards_137 : decode cX12_guards 137 = .ok (.iload 8, 2) := by decide +kernel
theorem dX12_guards_139 : decode cX12_guards 139 = .ok (.invokevirtual 410, 3) := by decide +kernel
theorem dX12_guards_142 : decode cX12_guards 142 = .ok (.invokevirtual 413, 3) := by decide +kernel
theorem dX12_guards_145 : decode cX12_guards 145 = .ok (.iload 9, 2) := by decide +kernel
theorem dX12_guards_147 : decode cX12_guards 147 = .ok (.aload_n 0, 1) := by decide +kernel
theorem dX12_guards_148 : decode cX12_guards 148 = .ok (.getfield 400, 3) := by decide +kernel
theorem dX12_guards_151 : decode cX12_guards 151 = .ok (.invokestatic 312, 3) := by decide +kernel
theorem dX12_guards_154 : decode cX12_guards 154 = .ok (.istore 9, 2) := by decide +kernel
theorem dX12_guards_156 : decode cX12_guards 156 = .ok (.iinc 10 1, 3) := by decide +kernel
theorem dX12_guards_159 : decode cX12_guards 159 = .ok (.goto (-53), 3) := by decide +kernel
theorem dX12_guards_162 : decode cX12_guards 162 = .ok (.iload 6, 2) := by decide +kernel
theorem dX12_guards_164 : decode cX12_guards 164 = .ok (.iconst (-1), 1) := by decide +kernel
theorem dX12_guards_165 : decode cX12_guards 165 = .ok (.if_icmp .eq 33, 3) := by decide +kernel
theorem dX12_guards_168 : decode cX12_guards 168 = .ok (.iload 9, 2) := by decide +kernel
theorem dX12_guards_170 : decode cX12_guards 170 = .ok (.iload 7, 2) := by decide +kernel
theorem dX12_guards_172 : decode cX12_guards 172 = .ok (.if_icmp .gt 34, 3) := by decide +kernel
theorem dX12_guards_175 : decode cX12_guards 175 = .ok (.iload 9, 2) := by decide +kernel
theorem dX12_guards_177 : decode cX12_guards 177 = .ok (.iload 7, 2) := by decide +kernel
theorem dX12_guards_179 : decode cX12_guards 179 = .ok (.if_icmp .ne 19, 3) := by decide +kernel
theorem dX12_guards_182 : decode cX12_guards 182 = .ok (.iload 8, 2) := by decide +kernel
theorem dX12_guards_184 : decode cX12_guards 184 = .ok (.invokestatic 346, 3) := by decide +kernel
theorem dX12_guards_187 : decode cX12_guards 187 = .ok (.iload 6, 2) := by decide +kernel
theorem dX12_guards_189 : decode cX12_guards 189 = .ok (.invokestatic 346, 3) := by decide +kernel
theorem dX12_guards_192 : decode cX12_guards 192 = .ok (.if_icmp .lt 6, 3) := by decide +kernel
theorem dX12_guards_195 : decode cX12_guards 195 = .ok (.goto 11, 3) := by decide +kernel
theorem dX12_guards_198 : decode cX12_guards 198 = .ok (.iload 8, 2) := by decide +kernel
theorem dX12_guards_200 : decode cX12_guards 200 = .ok (.istore 6, 2) := by decide +kernel
theorem dX12_guards_202 : decode cX12_guards 202 = .ok (.iload 9, 2) := by decide +kernel
theorem dX12_guards_204 : decode cX12_guards 204 = .ok (.istore 7, 2) := by decide +kernel
theorem dX12_guards_206 : decode cX12_guards 206 = .ok (.iinc 8 1, 3) := by decide +kernel
theorem dX12_guards_209 : decode cX12_guards 209 = .ok (.goto (-132), 3) := by decide +kernel
theorem dX12_guards_212 : decode cX12_guards 212 = .ok (.iload 5, 2) := by decide +kernel
theorem dX12_guards_214 : decode cX12_guards 214 = .ok (.ifCond .ne 8, 3) := by decide +kernel
theorem dX12_guards_217 : decode cX12_guards 217 = .ok (.iload 6, 2) := by decide +kernel
theorem dX12_guards_219 : decode cX12_guards 219 = .ok (.goto 5, 3) := by decide +kernel
theorem dX12_guards_222 : decode cX12_guards 222 = .ok (.iload 7, 2) := by decide +kernel
theorem dX12_guards_224 : decode cX12_guards 224 = .ok (.ireturn, 1) := by decide +kernel
theorem dX12_counted_0 : decode cX12_counted 0 = .ok (.aload_n 0, 1) := by decide +kernel
theorem dX12_counted_1 : decode cX12_counted 1 = .ok (.iconst 0, 1) := by decide +kernel
theorem dX12_counted_2 : decode cX12_counted 2 = .ok (.putfield 110, 3) := by decide +kernel
theorem dX12_counted_5 : decode cX12_counted 5 = .ok (.iload_n 1, 1) := by decide +kernel
theorem dX12_counted_6 : decode cX12_counted 6 = .ok (.tableswitch 99 0 8 #[50, 55, 60, 65, 70, 75, 80, 85, 92], 50) := by decide +kernel
theorem dX12_counted_56 : decode cX12_counted 56 = .ok (.aload_n 0, 1) := by decide +kernel
theorem dX12_counted_57 : decode cX12_counted 57 = .ok (.getfield 290, 3) := by decide +kernel
theorem dX12_counted_60 : decode cX12_counted 60 = .ok (.ireturn, 1) := by decide +kernel
theorem dX12_counted_61 : decode cX12_counted 61 = .ok (.aload_n 0, 1) := by decide +kernel
theorem dX12_counted_62 : decode cX12_counted 62 = .ok (.invokevirtual 287, 3) := by decide +kernel
theorem dX12_counted_65 : decode cX12_counted 65 = .ok (.ireturn, 1) := by decide +kernel
theorem dX12_counted_66 : decode cX12_counted 66 = .ok (.aload_n 0, 1) := by decide +kernel
theorem dX12_counted_67 : decode cX12_counted 67 = .ok (.getfield 284, 3) := by decide +kernel
theorem dX12_counted_70 : decode cX12_counted 70 = .ok (.ireturn, 1) := by decide +kernel
theorem dX12_counted_71 : decode cX12_counted 71 = .ok (.aload_n 0, 1) := by decide +kernel
theorem dX12_counted_72 : decode cX12_counted 72 = .ok (.getfield 275, 3) := by decide +kernel
theorem dX12_counted_75 : decode cX12_counted 75 = .ok (.ireturn, 1) := by decide +kernel
theorem dX12_counted_76 : decode cX12_counted 76 = .ok (.aload_n 0, 1) := by decide +kernel
theorem dX12_counted_77 : decode cX12_counted 77 = .ok (.getfield 278, 3) := by decide +kernel
theorem dX12_counted_80 : decode cX12_counted 80 = .ok (.ireturn, 1) := by decide +kernel
theorem dX12_counted_81 : decode cX12_counted 81 = .ok (.aload_n 0, 1) := by decide +kernel
theorem dX12_counted_82 : decode cX12_counted 82 = .ok (.getfield 281, 3) := by decide +kernel
theorem dX12_counted_85 : decode cX12_counted 85 = .ok (.ireturn, 1) := by decide +kernel
theorem dX12_counted_86 : decode cX12_counted 86 = .ok (.aload_n 0, 1) := by decide +kernel
theorem dX12_counted_87 : decode cX12_counted 87 = .ok (.getfield 242, 3) := by decide +kernel
theorem dX12_counted_90 : decode cX12_counted 90 = .ok (.ireturn, 1) := by decide +kernel
theorem dX12_counted_91 : decode cX12_counted 91 = .ok (.aload_n 0, 1) := by decide +kernel
theorem dX12_counted_92 : decode cX12_counted 92 = .ok (.getfield 19, 3) := by decide +kernel
theorem dX12_counted_95 : decode cX12_counted 95 = .ok (.iconst 4, 1) := by decide +kernel
theorem dX12_counted_96 : decode cX12_counted 96 = .ok (.iaload, 1) := by decide +kernel
theorem dX12_counted_97 : decode cX12_counted 97 = .ok (.ireturn, 1) := by decide +kernel
theorem dX12_counted_98 : decode cX12_counted 98 = .ok (.aload_n 0, 1) := by decide +kernel
theorem dX12_counted_99 : decode cX12_counted 99 = .ok (.getfield 19, 3) := by decide +kernel
theorem dX12_counted_102 : decode cX12_counted 102 = .ok (.iconst 5, 1) := by decide +kernel
theorem dX12_counted_103 : decode cX12_counted 103 = .ok (.iaload, 1) := by decide +kernel
theorem dX12_counted_104 : decode cX12_counted 104 = .ok (.ireturn, 1) := by decide +kernel
theorem dX12_counted_105 : decode cX12_counted 105 = .ok (.iconst (-1), 1) := by decide +kernel
theorem dX12_counted_106 : decode cX12_counted 106 = .ok (.ireturn, 1) := by decide +kernel
