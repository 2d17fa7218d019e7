theorem dX8_init_0 : decode cX8_init 0 = .ok (.aload_n 0, 1) := by decide +kernel
theorem dX8_init_1 : decode cX8_init 1 = .ok (.invokespecial 1, 3) := by decide +kernel
theorem dX8_init_4 : decode cX8_init 4 = .ok (.aload_n 0, 1) := by decide +kernel
theorem dX8_init_5 : decode cX8_init 5 = .ok (.bipush 107, 2) := by decide +kernel
theorem dX8_init_7 : decode cX8_init 7 = .ok (.newarray .int, 2) := by decide +kernel
theorem dX8_init_9 : decode cX8_init 9 = .ok (.putfield 7, 3) := by decide +kernel
theorem dX8_init_12 : decode cX8_init 12 = .ok (.aload_n 0, 1) := by decide +kernel
theorem dX8_init_13 : decode cX8_init 13 = .ok (.bipush 107, 2) := by decide +kernel
theorem dX8_init_15 : decode cX8_init 15 = .ok (.newarray .int, 2) := by decide +kernel
theorem dX8_init_17 : decode cX8_init 17 = .ok (.putfield 13, 3) := by decide +kernel
theorem dX8_init_20 : decode cX8_init 20 = .ok (.aload_n 0, 1) := by decide +kernel
theorem dX8_init_21 : decode cX8_init 21 = .ok (.sipush 642, 3) := by decide +kernel
theorem dX8_init_24 : decode cX8_init 24 = .ok (.newarray .int, 2) := by decide +kernel
theorem dX8_init_26 : decode cX8_init 26 = .ok (.putfield 16, 3) := by decide +kernel
theorem dX8_init_29 : decode cX8_init 29 = .ok (.aload_n 0, 1) := by decide +kernel
theorem dX8_init_30 : decode cX8_init 30 = .ok (.sipush 214, 3) := by decide +kernel
theorem dX8_init_33 : decode cX8_init 33 = .ok (.newarray .int, 2) := by decide +kernel
theorem dX8_init_35 : decode cX8_init 35 = .ok (.putfield 19, 3) := by decide +kernel
theorem dX8_init_38 : decode cX8_init 38 = .ok (.aload_n 0, 1) := by decide +kernel
theorem dX8_init_39 : decode cX8_init 39 = .ok (.iconst 2, 1) := by decide +kernel
theorem dX8_init_40 : decode cX8_init 40 = .ok (.newarray .int, 2) := by decide +kernel
theorem dX8_init_42 : decode cX8_init 42 = .ok (.putfield 22, 3) := by decide +kernel
theorem dX8_init_45 : decode cX8_init 45 = .ok (.aload_n 0, 1) := by decide +kernel
theorem dX8_init_46 : decode cX8_init 46 = .ok (.bipush 80, 2) := by decide +kernel
theorem dX8_init_48 : decode cX8_init 48 = .ok (.newarray .int, 2) := by decide +kernel
theorem dX8_init_50 : decode cX8_init 50 = .ok (.putfield 25, 3) := by decide +kernel
theorem dX8_init_53 : decode cX8_init 53 = .ok (.aload_n 0, 1) := by decide +kernel
theorem dX8_init_54 : decode cX8_init 54 = .ok (.iconst 4, 1) := by decide +kernel
theorem dX8_init_55 : decode cX8_init 55 = .ok (.newarray .int, 2) := by decide +kernel
theorem dX8_init_57 : decode cX8_init 57 = .ok (.putfield 28, 3) := by decide +kernel
theorem dX8_init_60 : decode cX8_init 60 = .ok (.aload_n 0, 1) := by decide +kernel
theorem dX8_init_61 : decode cX8_init 61 = .ok (.iconst 4, 1) := by decide +kernel
theorem dX8_init_62 : decode cX8_init 62 = .ok (.newarray .int, 2) := by decide +kernel
theorem dX8_init_64 : decode cX8_init 64 = .ok (.putfield 31, 3) := by decide +kernel
theorem dX8_init_67 : decode cX8_init 67 = .ok (.aload_n 0, 1) := by decide +kernel
theorem dX8_init_68 : decode cX8_init 68 = .ok (.getfield 7, 3) := by decide +kernel
theorem dX8_init_71 : decode cX8_init 71 = .ok (.iconst 0, 1) := by decide +kernel
theorem dX8_init_72 : decode cX8_init 72 = .ok (.bipush 20, 2) := by decide +kernel
theorem dX8_init_74 : decode cX8_init 74 = .ok (.iastore, 1) := by decide +kernel
theorem dX8_init_75 : decode cX8_init 75 = .ok (.aload_n 0, 1) := by decide +kernel
theorem dX8_init_76 : decode cX8_init 76 = .ok (.getfield 7, 3) := by decide +kernel
theorem dX8_init_79 : decode cX8_init 79 = .ok (.iconst 1, 1) := by decide +kernel
theorem dX8_init_80 : decode cX8_init 80 = .ok (.bipush 15, 2) := by decide +kernel
theorem dX8_init_82 : decode cX8_init 82 = .ok (.iastore, 1) := by decide +kernel
theorem dX8_init_83 : decode cX8_init 83 = .ok (.aload_n 0, 1) := by decide +kernel
theorem dX8_init_84 : decode cX8_init 84 = .ok (.getfield 7, 3) := by decide +kernel
theorem dX8_init_87 : decode cX8_init 87 = .ok (.iconst 2, 1) := by decide +kernel
theorem dX8_init_88 : decode cX8_init 88 = .ok (.bipush 6, 2) := by decide +kernel
theorem dX8_init_90 : decode cX8_init 90 = .ok (.iastore, 1) := by decide +kernel
theorem dX8_init_91 : decode cX8_init 91 = .ok (.aload_n 0, 1) := by decide +kernel
theorem dX8_init_92 : decode cX8_init 92 = .ok (.getfield 7, 3) := by decide +kernel
theorem dX8_init_95 : decode cX8_init 95 = .ok (.iconst 3, 1) := by decide +kernel
theorem dX8_init_96 : decode cX8_init 96 = .ok (.iconst 3, 1) := by decide +kernel
theorem dX8_init_97 : decode cX8_init 97 = .ok (.iastore, 1) := by decide +kernel
theorem dX8_init_98 : decode cX8_init 98 = .ok (.aload_n 0, 1) := by decide +kernel
theorem dX8_init_99 : decode cX8_init 99 = .ok (.getfield 7, 3) := by decide +kernel
theorem dX8_init_102 : decode cX8_init 102 = .ok (.iconst 4, 1) := by decide +kernel
theorem dX8_init_103 : decode cX8_init 103 = .ok (.iconst 4, 1) := by decide +kernel
theorem dX8_init_104 : decode cX8_init 104 = .ok (.iastore, 1) := by decide +kernel
theorem dX8_init_105 : decode cX8_init 105 = .ok (.aload_n 0, 1) := by decide +kernel
theorem dX8_init_106 : decode cX8_init 106 = .ok (.getfield 7, 3) := by decide +kernel
theorem dX8_init_109 : decode cX8_init 109 = .ok (.bipush 8, 2) := by decide +kernel
theorem dX8_init_111 : decode cX8_init 111 = .ok (.iconst 1, 1) := by decide +kernel
theorem dX8_init_112 : decode cX8_init 112 = .ok (.iastore, 1) := by decide +kernel
theorem dX8_init_113 : decode cX8_init 113 = .ok (.iconst 0, 1) := by decide +kernel
theorem dX8_init_114 : decode cX8_init 114 = .ok (.istore_n 1, 1) := by decide +kernel
theorem dX8_init_115 : decode cX8_init 115 = .ok (.iload_n 1, 1) := by decide +kernel
theorem dX8_init_116 : decode cX8_init 116 = .ok (.bipush 20, 2) := by decide +kernel
theorem dX8_init_118 : decode cX8_init 118 = .ok (.if_icmp .ge 31, 3) := by decide +kernel
theorem dX8_init_121 : decode cX8_init 121 = .ok (.aload_n 0, 1) := by decide +kernel
theorem dX8_init_122 : decode cX8_init 122 = .ok (.getfield 7, 3) := by decide +kernel
theorem dX8_init_125 : decode cX8_init 125 = .ok (.bipush 11, 2) := by decide +kernel
theorem dX8_init_127 : decode cX8_init 127 = .ok (.iload_n 1, 1) := by decide +kernel
theorem dX8_init_128 : decode cX8_init 128 = .ok (.iadd, 1) := by decide +kernel
theorem dX8_init_129 : decode cX8_init 129 = .ok (.bipush (-6), 2) := by decide +kernel
theorem dX8_init_131 : decode cX8_init 131 = .ok (.iastore, 1) := by decide +kernel
theorem dX8_init_132 : decode cX8_init 132 = .ok (.aload_n 0, 1) := by decide +kernel
theorem dX8_init_133 : decode cX8_init 133 = .ok (.getfield 7, 3) := by decide +kernel
theorem dX8_init_136 : decode cX8_init 136 = .ok (.bipush 31, 2) := by decide +kernel
theorem dX8_init_138 : decode cX8_init 138 = .ok (.iload_n 1, 1) := by decide +kernel
theorem dX8_init_139 : decode cX8_init 139 = .ok (.iadd, 1) := by decide +kernel
theorem dX8_init_140 : decode cX8_init 140 = .ok (.bipush (-6), 2) := by decide +kernel
theorem dX8_init_142 : decode cX8_init 142 = .ok (.iastore, 1) := by decide +kernel
theorem dX8_init_143 : decode cX8_init 143 = .ok (.iinc 1 1, 3) := by decide +kernel
theorem dX8_init_146 : decode cX8_init 146 = .ok (.goto (-31), 3) := by decide +kernel
theorem dX8_init_149 : decode cX8_init 149 = .ok (.return_, 1) := by decide +kernel
theorem dX8_moves_0 : decode cX8_moves 0 = .ok (.iconst 0, 1) := by decide +kernel
theorem dX8_moves_1 : decode cX8_moves 1 = .ok (.istore 4, 2) := by decide +kernel
theorem dX8_moves_3 : decode cX8_moves 3 = .ok (.iload 4, 2) := by decide +kernel
theorem dX8_moves_5 : decode cX8_moves 5 = .ok (.bipush 107, 2) := by decide +kernel
theorem dX8_moves_7 : decode cX8_moves 7 = .ok (.if_icmp .ge 21, 3) := by decide +kernel
theorem dX8_moves_10 : decode cX8_moves 10 = .ok (.aload_n 2, 1) := by decide +kernel
theorem dX8_moves_11 : decode cX8_moves 11 = .ok (.iload_n 3, 1) := by decide +kernel
theorem dX8_moves_12 : decode cX8_moves 12 = .ok (.iload 4, 2) := by decide +kernel
theorem dX8_moves_14 : decode cX8_moves 14 = .ok (.iadd, 1) := by decide +kernel
theorem dX8_moves_15 : decode cX8_moves 15 = .ok (.aload_n 0, 1) := by decide +kernel
theorem dX8_moves_16 : decode cX8_moves 16 = .ok (.iload_n 1, 1) := by decide +kernel
theorem dX8_moves_17 : decode cX8_moves 17 = .ok (.iload 4, 2) := by decide +kernel
theorem dX8_moves_19 : decode cX8_moves 19 = .ok (.iadd, 1) := by decide +kernel
theorem dX8_moves_20 : decode cX8_moves 20 = .ok (.iaload, 1) := by decide +kernel
theorem dX8_moves_21 : decode cX8_moves 21 = .ok (.iastore, 1) := by decide +kernel
theorem dX8_moves_22 : decode cX8_moves 22 = .ok (.iinc 4 1, 3) := by decide +kernel
theorem dX8_moves_25 : decode cX8_moves 25 = .ok (.goto (-22), 3) := by decide +kernel
theorem dX8_moves_28 : decode cX8_moves 28 = .ok (.return_, 1) := by decide +kernel
theorem dX8_within_0 : decode cX8_within 0 = .ok (.iload_n 0, 1) := by decide +kernel
theorem dX8_within_1 : decode cX8_within 1 = .ok (.iload_n 1, 1) := by decide +kernel
theorem dX8_within_2 : decode cX8_within 2 = .ok (.if_icmp .lt 12, 3) := by decide +kernel
theorem dX8_within_5 : decode cX8_within 5 = .ok (.iload_n 0, 1) := by decide +kernel
theorem dX8_within_6 : decode cX8_within 6 = .ok (.iload_n 2, 1) := by decide +kernel
theorem dX8_within_7 : decode cX8_within 7 = .ok (.if_icmp .gt 7, 3) := by decide +kernel
theorem dX8_within_10 : decode cX8_within 10 = .ok (.iconst 1, 1) := by decide +kernel
theorem dX8_within_11 : decode cX8_within 11 = .ok (.goto 4, 3) := by decide +kernel
theorem dX8_within_14 : decode cX8_within 14 = .ok (.iconst 0, 1) := by decide +kernel
theorem dX8_within_15 : decode cX8_within 15 = .ok (.ireturn, 1) := by decide +kernel
theorem dX8_record_0 : decode cX8_record 0 = .ok (.aload_n 0, 1) := by decide +kernel
theorem dX8_record_1 : decode cX8_record 1 = .ok (.getfield 34, 3) := by decide +kernel
theorem dX8_record_4 : decode cX8_record 4 = .ok (.bipush 6, 2) := by decide +kernel
theorem dX8_record_6 : decode cX8_record 6 = .ok (.if_icmp .ne 43, 3) := by decide +kernel
theorem dX8_record_9 : decode cX8_record 9 = .ok (.iconst 0, 1) := by decide +kernel
theorem dX8_record_10 : decode cX8_record 10 = .ok (.istore_n 1, 1) := by decide +kernel
theorem dX8_record_11 : decode cX8_record 11 = .ok (.iload_n 1, 1) := by decide +kernel
theorem dX8_record_12 : decode cX8_record 12 = .ok (.sipush 535, 3) := by decide +kernel
theorem dX8_record_15 : decode cX8_record 15 = .ok (.if_icmp .ge 24, 3) := by decide +kernel
theorem dX8_record_18 : decode cX8_record 18 = .ok (.aload_n 0, 1) := by decide +kernel
theorem dX8_record_19 : decode cX8_record 19 = .ok (.getfield 16, 3) := by decide +kernel
theorem dX8_record_22 : decode cX8_record 22 = .ok (.iload_n 1, 1) := by decide +kernel
theorem dX8_record_23 : decode cX8_record 23 = .ok (.aload_n 0, 1) := by decide +kernel
theorem dX8_record_24 : decode cX8_record 24 = .ok (.getfield 16, 3) := by decide +kernel
theorem dX8_record_27 : decode cX8_record 27 = .ok (.iload_n 1, 1) := by decide +kernel
theorem dX8_record_28 : decode cX8_record 28 = .ok (.bipush 107, 2) := by decide +kernel
theorem dX8_record_30 : decode cX8_record 30 = .ok (.iadd, 1) := by decide +kernel
theorem dX8_record_31 : decode cX8_record 31 = .ok (.iaload, 1) := by decide +kernel
theorem dX8_record_32 : decode cX8_record 32 = .ok (.iastore, 1) := by decide +kernel
theorem dX8_record_33 : decode cX8_record 33 = .ok (.iinc 1 1, 3) := by decide +kernel
theorem dX8_record_36 : decode cX8_record 36 = .ok (.goto (-25), 3) := by decide +kernel
theorem dX8_record_39 : decode cX8_record 39 = .ok (.aload_n 0, 1) := by decide +kernel
theorem dX8_record_40 : decode cX8_record 40 = .ok (.dup, 1) := by decide +kernel
theorem dX8_record_41 : decode cX8_record 41 = .ok (.getfield 34, 3) := by decide +kernel
theorem dX8_record_44 : decode cX8_record 44 = .ok (.iconst 1, 1) := by decide +kernel
theorem dX8_record_45 : decode cX8_record 45 = .ok (.isub, 1) := by decide +kernel
theorem dX8_record_46 : decode cX8_record 46 = .ok (.putfield 34, 3) := by decide +kernel
theorem dX8_record_49 : decode cX8_record 49 = .ok (.aload_n 0, 1) := by decide +kernel
theorem dX8_record_50 : decode cX8_record 50 = .ok (.getfield 7, 3) := by decide +kernel
theorem dX8_record_53 : decode cX8_record 53 = .ok (.iconst 0, 1) := by decide +kernel
theorem dX8_record_54 : decode cX8_record 54 = .ok (.aload_n 0, 1) := by decide +kernel
theorem dX8_record_55 : decode cX8_record 55 = .ok (.getfield 16, 3) := by decide +kernel
theorem dX8_record_58 : decode cX8_record 58 = .ok (.aload_n 0, 1) := by decide +kernel
theorem dX8_record_59 : decode cX8_record 59 = .ok (.getfield 34, 3) := by decide +kernel
theorem dX8_record_62 : decode cX8_record 62 = .ok (.bipush 107, 2) := by decide +kernel
theorem dX8_record_64 : decode cX8_record 64 = .ok (.imul, 1) := by decide +kernel
theorem dX8_record_65 : decode cX8_record 65 = .ok (.invokestatic 38, 3) := by decide +kernel
theorem dX8_record_68 : decode cX8_record 68 = .ok (.aload_n 0, 1) := by decide +kernel
theorem dX8_record_69 : decode cX8_record 69 = .ok (.dup, 1) := by decide +kernel
theorem dX8_record_70 : decode cX8_record 70 = .ok (.getfield 34, 3) := by decide +kernel
theorem dX8_record_73 : decode cX8_record 73 = .ok (.iconst 1, 1) := by decide +kernel
theorem dX8_record_74 : decode cX8_record 74 = .ok (.iadd, 1) := by decide +kernel
theorem dX8_record_75 : decode cX8_record 75 = .ok (.putfield 34, 3) := by decide +kernel
theorem dX8_record_78 : decode cX8_record 78 = .ok (.return_, 1) := by decide +kernel
theorem dX8_isSquare_0 : decode cX8_isSquare 0 = .ok (.iload_n 0, 1) := by decide +kernel
theorem dX8_isSquare_1 : decode cX8_isSquare 1 = .ok (.iconst 0, 1) := by decide +kernel
theorem dX8_isSquare_2 : decode cX8_isSquare 2 = .ok (.bipush 19, 2) := by decide +kernel
theorem dX8_isSquare_4 : decode cX8_isSquare 4 = .ok (.invokestatic 42, 3) := by decide +kernel
theorem dX8_isSquare_7 : decode cX8_isSquare 7 = .ok (.ireturn, 1) := by decide +kernel
theorem dX8_sortOf_0 : decode cX8_sortOf 0 = .ok (.iload_n 0, 1) := by decide +kernel
theorem dX8_sortOf_1 : decode cX8_sortOf 1 = .ok (.bipush 10, 2) := by decide +kernel
theorem dX8_sortOf_3 : decode cX8_sortOf 3 = .ok (.irem, 1) := by decide +kernel
theorem dX8_sortOf_4 : decode cX8_sortOf 4 = .ok (.ifCond .ne 7, 3) := by decide +kernel
theorem dX8_sortOf_7 : decode cX8_sortOf 7 = .ok (.iconst 0, 1) := by decide +kernel
theorem dX8_sortOf_8 : decode cX8_sortOf 8 = .ok (.goto 16, 3) := by decide +kernel
theorem dX8_sortOf_11 : decode cX8_sortOf 11 = .ok (.iload_n 0, 1) := by decide +kernel
theorem dX8_sortOf_12 : decode cX8_sortOf 12 = .ok (.bipush 10, 2) := by decide +kernel
theorem dX8_sortOf_14 : decode cX8_sortOf 14 = .ok (.irem, 1) := by decide +kernel
theorem dX8_sortOf_15 : decode cX8_sortOf 15 = .ok (.iconst 5, 1) := by decide +kernel
theorem dX8_sortOf_16 : decode cX8_sortOf 16 = .ok (.if_icmp .ne 7, 3) := by decide +kernel
theorem dX8_sortOf_19 : decode cX8_sortOf 19 = .ok (.iconst 2, 1) := by decide +kernel
theorem dX8_sortOf_20 : decode cX8_sortOf 20 = .ok (.goto 4, 3) := by decide +kernel
theorem dX8_sortOf_23 : decode cX8_sortOf 23 = .ok (.iconst 1, 1) := by decide +kernel
theorem dX8_sortOf_24 : decode cX8_sortOf 24 = .ok (.ireturn, 1) := by decide +kernel
theorem dX8_isPlayer_0 : decode cX8_isPlayer 0 = .ok (.iload_n 1, 1) := by decide +kernel
theorem dX8_isPlayer_1 : decode cX8_isPlayer 1 = .ok (.iconst 0, 1) := by decide +kernel
theorem dX8_isPlayer_2 : decode cX8_isPlayer 2 = .ok (.aload_n 0, 1) := by decide +kernel
theorem dX8_isPlayer_3 : decode cX8_isPlayer 3 = .ok (.getfield 7, 3) := by decide +kernel
theorem dX8_isPlayer_6 : decode cX8_isPlayer 6 = .ok (.bipush 6, 2) := by decide +kernel
theorem dX8_isPlayer_8 : decode cX8_isPlayer 8 = .ok (.iaload, 1) := by decide +kernel
theorem dX8_isPlayer_9 : decode cX8_isPlayer 9 = .ok (.iconst 1, 1) := by decide +kernel
theorem dX8_isPlayer_10 : decode cX8_isPlayer 10 = .ok (.isub, 1) := by decide +kernel
theorem dX8_isPlayer_11 : decode cX8_isPlayer 11 = .ok (.invokestatic 42, 3) := by decide +kernel
theorem dX8_isPlayer_14 : decode cX8_isPlayer 14 = .ok (.ireturn, 1) := by decide +kernel
theorem dX8_playerPart_0 : decode cX8_playerPart 0 = .ok (.aload_n 0, 1) := by decide +kernel
theorem dX8_playerPart_1 : decode cX8_playerPart 1 = .ok (.getfield 7, 3) := by decide +kernel
theorem dX8_playerPart_4 : decode cX8_playerPart 4 = .ok (.bipush 51, 2) := by decide +kernel
theorem dX8_playerPart_6 : decode cX8_playerPart 6 = .ok (.bipush 6, 2) := by decide +kernel
theorem dX8_playerPart_8 : decode cX8_playerPart 8 = .ok (.iload_n 1, 1) := by decide +kernel
theorem dX8_playerPart_9 : decode cX8_playerPart 9 = .ok (.imul, 1) := by decide +kernel
theorem dX8_playerPart_10 : decode cX8_playerPart 10 = .ok (.iadd, 1) := by decide +kernel
theorem dX8_playerPart_11 : decode cX8_playerPart 11 = .ok (.iload_n 2, 1) := by decide +kernel
theorem dX8_playerPart_12 : decode cX8_playerPart 12 = .ok (.iadd, 1) := by decide +kernel
theorem dX8_playerPart_13 : decode cX8_playerPart 13 = .ok (.iaload, 1) := by decide +kernel
theorem dX8_playerPart_14 : decode cX8_playerPart 14 = .ok (.ireturn, 1) := by decide +kernel
theorem dX8_adds_0 : decode cX8_adds 0 = .ok (.aload_n 0, 1) := by decide +kernel
theorem dX8_adds_1 : decode cX8_adds 1 = .ok (.getfield 7, 3) := by decide +kernel
theorem dX8_adds_4 : decode cX8_adds 4 = .ok (.bipush 51, 2) := by decide +kernel
theorem dX8_adds_6 : decode cX8_adds 6 = .ok (.bipush 6, 2) := by decide +kernel
theorem dX8_adds_8 : decode cX8_adds 8 = .ok (.iload_n 1, 1) := by decide +kernel
theorem dX8_adds_9 : decode cX8_adds 9 = .ok (.imul, 1) := by decide +kernel
theorem dX8_adds_10 : decode cX8_adds 10 = .ok (.iadd, 1) := by decide +kernel
theorem dX8_adds_11 : decode cX8_adds 11 = .ok (.iload_n 2, 1) := by decide +kernel
theorem dX8_adds_12 : decode cX8_adds 12 = .ok (.iadd, 1) := by decide +kernel
theorem dX8_adds_13 : decode cX8_adds 13 = .ok (.dup2, 1) := by decide +kernel
theorem dX8_adds_14 : decode cX8_adds 14 = .ok (.iaload, 1) := by decide +kernel
theorem dX8_adds_15 : decode cX8_adds 15 = .ok (.iload_n 3, 1) := by decide +kernel
theorem dX8_adds_16 : decode cX8_adds 16 = .ok (.iadd, 1) := by decide +kernel
theorem dX8_adds_17 : decode cX8_adds 17 = .ok (.iastore, 1) := by decide +kernel
theorem dX8_adds_18 : decode cX8_adds 18 = .ok (.return_, 1) := by decide +kernel
theorem dX8_debtOf_0 : decode cX8_debtOf 0 = .ok (.aload_n 0, 1) := by decide +kernel
theorem dX8_debtOf_1 : decode cX8_debtOf 1 = .ok (.getfield 7, 3) := by decide +kernel
theorem dX8_debtOf_4 : decode cX8_debtOf 4 = .ok (.bipush 75, 2) := by decide +kernel
theorem dX8_debtOf_6 : decode cX8_debtOf 6 = .ok (.iconst 4, 1) := by decide +kernel
theorem dX8_debtOf_7 : decode cX8_debtOf 7 = .ok (.iload_n 1, 1) := by decide +kernel
theorem dX8_debtOf_8 : decode cX8_debtOf 8 = .ok (.imul, 1) := by decide +kernel
theorem dX8_debtOf_9 : decode cX8_debtOf 9 = .ok (.iadd, 1) := by decide +kernel
theorem dX8_debtOf_10 : decode cX8_debtOf 10 = .ok (.iload_n 2, 1) := by decide +kernel
theorem dX8_debtOf_11 : decode cX8_debtOf 11 = .ok (.iadd, 1) := by decide +kernel
theorem dX8_debtOf_12 : decode cX8_debtOf 12 = .ok (.iaload, 1) := by decide +kernel
theorem dX8_debtOf_13 : decode cX8_debtOf 13 = .ok (.ireturn, 1) := by decide +kernel
theorem dX8_ageOf_0 : decode cX8_ageOf 0 = .ok (.aload_n 0, 1) := by decide +kernel
theorem dX8_ageOf_1 : decode cX8_ageOf 1 = .ok (.getfield 7, 3) := by decide +kernel
theorem dX8_ageOf_4 : decode cX8_ageOf 4 = .ok (.bipush 91, 2) := by decide +kernel
theorem dX8_ageOf_6 : decode cX8_ageOf 6 = .ok (.iconst 4, 1) := by decide +kernel
theorem dX8_ageOf_7 : decode cX8_ageOf 7 = .ok (.iload_n 1, 1) := by decide +kernel
theorem dX8_ageOf_8 : decode cX8_ageOf 8 = .ok (.imul, 1) := by decide +kernel
theorem dX8_ageOf_9 : decode cX8_ageOf 9 = .ok (.iadd, 1) := by decide +kernel
theorem dX8_ageOf_10 : decode cX8_ageOf 10 = .ok (.iload_n 2, 1) := by decide +kernel
theorem dX8_ageOf_11 : decode cX8_ageOf 11 = .ok (.iadd, 1) := by decide +kernel
theorem dX8_ageOf_12 : decode cX8_ageOf 12 = .ok (.iaload, 1) := by decide +kernel
theorem dX8_ageOf_13 : decode cX8_ageOf 13 = .ok (.ireturn, 1) := by decide +kernel
theorem dX8_addsDebt_0 : decode cX8_addsDebt 0 = .ok (.aload_n 0, 1) := by decide +kernel
theorem dX8_addsDebt_1 : decode cX8_addsDebt 1 = .ok (.iload_n 1, 1) := by decide +kernel
theorem dX8_addsDebt_2 : decode cX8_addsDebt 2 = .ok (.iload_n 2, 1) := by decide +kernel
theorem dX8_addsDebt_3 : decode cX8_addsDebt 3 = .ok (.invokevirtual 46, 3) := by decide +kernel
theorem dX8_addsDebt_6 : decode cX8_addsDebt 6 = .ok (.istore 4, 2) := by decide +kernel
theorem dX8_addsDebt_8 : decode cX8_addsDebt 8 = .ok (.aload_n 0, 1) := by decide +kernel
theorem dX8_addsDebt_9 : decode cX8_addsDebt 9 = .ok (.getfield 7, 3) := by decide +kernel
theorem dX8_addsDebt_12 : decode cX8_addsDebt 12 = .ok (.bipush 75, 2) := by decide +kernel
theorem dX8_addsDebt_14 : decode cX8_addsDebt 14 = .ok (.iconst 4, 1) := by decide +kernel
theorem dX8_addsDebt_15 : decode cX8_addsDebt 15 = .ok (.iload_n 1, 1) := by decide +kernel
theorem dX8_addsDebt_16 : decode cX8_addsDebt 16 = .ok (.imul, 1) := by decide +kernel
theorem dX8_addsDebt_17 : decode cX8_addsDebt 17 = .ok (.iadd, 1) := by decide +kernel
theorem dX8_addsDebt_18 : decode cX8_addsDebt 18 = .ok (.iload_n 2, 1) := by decide +kernel
theorem dX8_addsDebt_19 : decode cX8_addsDebt 19 = .ok (.iadd, 1) := by decide +kernel
theorem dX8_addsDebt_20 : decode cX8_addsDebt 20 = .ok (.iload 4, 2) := by decide +kernel
theorem dX8_addsDebt_22 : decode cX8_addsDebt 22 = .ok (.iload_n 3, 1) := by decide +kernel
theorem dX8_addsDebt_23 : decode cX8_addsDebt 23 = .ok (.iadd, 1) := by decide +kernel
theorem dX8_addsDebt_24 : decode cX8_addsDebt 24 = .ok (.iastore, 1) := by decide +kernel
theorem dX8_addsDebt_25 : decode cX8_addsDebt 25 = .ok (.iload 4, 2) := by decide +kernel
theorem dX8_addsDebt_27 : decode cX8_addsDebt 27 = .ok (.ifCond .eq 10, 3) := by decide +kernel
theorem dX8_addsDebt_30 : decode cX8_addsDebt 30 = .ok (.iload 4, 2) := by decide +kernel
theorem dX8_addsDebt_32 : decode cX8_addsDebt 32 = .ok (.iload_n 3, 1) := by decide +kernel
theorem dX8_addsDebt_33 : decode cX8_addsDebt 33 = .ok (.iadd, 1) := by decide +kernel
theorem dX8_addsDebt_34 : decode cX8_addsDebt 34 = .ok (.ifCond .ne 17, 3) := by decide +kernel
theorem dX8_addsDebt_37 : decode cX8_addsDebt 37 = .ok (.aload_n 0, 1) := by decide +kernel
theorem dX8_addsDebt_38 : decode cX8_addsDebt 38 = .ok (.getfield 7, 3) := by decide +kernel
theorem dX8_addsDebt_41 : decode cX8_addsDebt 41 = .ok (.bipush 91, 2) := by decide +kernel
theorem dX8_addsDebt_43 : decode cX8_addsDebt 43 = .ok (.iconst 4, 1) := by decide +kernel
theorem dX8_addsDebt_44 : decode cX8_addsDebt 44 = .ok (.iload_n 1, 1) := by decide +kernel
theorem dX8_addsDebt_45 : decode cX8_addsDebt 45 = .ok (.imul, 1) := by decide +kernel
theorem dX8_addsDebt_46 : decode cX8_addsDebt 46 = .ok (.iadd, 1) := by decide +kernel
theorem dX8_addsDebt_47 : decode cX8_addsDebt 47 = .ok (.iload_n 2, 1) := by decide +kernel
theorem dX8_addsDebt_48 : decode cX8_addsDebt 48 = .ok (.iadd, 1) := by decide +kernel
theorem dX8_addsDebt_49 : decode cX8_addsDebt 49 = .ok (.iconst 0, 1) := by decide +kernel
theorem dX8_addsDebt_50 : decode cX8_addsDebt 50 = .ok (.iastore, 1) := by decide +kernel
theorem dX8_addsDebt_51 : decode cX8_addsDebt 51 = .ok (.return_, 1) := by decide +kernel
theorem dX8_owns_0 : decode cX8_owns 0 = .ok (.aload_n 0, 1) := by decide +kernel
theorem dX8_owns_1 : decode cX8_owns 1 = .ok (.getfield 7, 3) := by decide +kernel
theorem dX8_owns_4 : decode cX8_owns 4 = .ok (.bipush 11, 2) := by decide +kernel
theorem dX8_owns_6 : decode cX8_owns 6 = .ok (.iload_n 2, 1) := by decide +kernel
theorem dX8_owns_7 : decode cX8_owns 7 = .ok (.iadd, 1) := by decide +kernel
theorem dX8_owns_8 : decode cX8_owns 8 = .ok (.iaload, 1) := by decide +kernel
theorem dX8_owns_9 : decode cX8_owns 9 = .ok (.iload_n 1, 1) := by decide +kernel
theorem dX8_owns_10 : decode cX8_owns 10 = .ok (.if_icmp .eq 16, 3) := by decide +kernel
theorem dX8_owns_13 : decode cX8_owns 13 = .ok (.aload_n 0, 1) := by decide +kernel
theorem dX8_owns_14 : decode cX8_owns 14 = .ok (.getfield 7, 3) := by decide +kernel
theorem dX8_owns_17 : decode cX8_owns 17 = .ok (.bipush 31, 2) := by decide +kernel
theorem dX8_owns_19 : decode cX8_owns 19 = .ok (.iload_n 2, 1) := by decide +kernel
theorem dX8_owns_20 : decode cX8_owns 20 = .ok (.iadd, 1) := by decide +kernel
theorem dX8_owns_21 : decode cX8_owns 21 = .ok (.iaload, 1) := by decide +kernel
theorem dX8_owns_22 : decode cX8_owns 22 = .ok (.iload_n 1, 1) := by decide +kernel
theorem dX8_owns_23 : decode cX8_owns 23 = .ok (.if_icmp .ne 7, 3) := by decide +kernel
theorem dX8_owns_26 : decode cX8_owns 26 = .ok (.iconst 1, 1) := by decide +kernel
theorem dX8_owns_27 : decode cX8_owns 27 = .ok (.goto 4, 3) := by decide +kernel
theorem dX8_owns_30 : decode cX8_owns 30 = .ok (.iconst 0, 1) := by decide +kernel
theorem dX8_owns_31 : decode cX8_owns 31 = .ok (.ireturn, 1) := by decide +kernel
theorem dX8_ownedBy_0 : decode cX8_ownedBy 0 = .ok (.iconst 0, 1) := by decide +kernel
theorem dX8_ownedBy_1 : decode cX8_ownedBy 1 = .ok (.istore_n 2, 1) := by decide +kernel
theorem dX8_ownedBy_2 : decode cX8_ownedBy 2 = .ok (.iconst 0, 1) := by decide +kernel
theorem dX8_ownedBy_3 : decode cX8_ownedBy 3 = .ok (.istore_n 3, 1) := by decide +kernel
theorem dX8_ownedBy_4 : decode cX8_ownedBy 4 = .ok (.iload_n 3, 1) := by decide +kernel
theorem dX8_ownedBy_5 : decode cX8_ownedBy 5 = .ok (.bipush 20, 2) := by decide +kernel
theorem dX8_ownedBy_7 : decode cX8_ownedBy 7 = .ok (.if_icmp .ge 28, 3) := by decide +kernel
theorem dX8_ownedBy_10 : decode cX8_ownedBy 10 = .ok (.iload_n 2, 1) := by decide +kernel
theorem dX8_ownedBy_11 : decode cX8_ownedBy 11 = .ok (.aload_n 0, 1) := by decide +kernel
theorem dX8_ownedBy_12 : decode cX8_ownedBy 12 = .ok (.iload_n 1, 1) := by decide +kernel
theorem dX8_ownedBy_13 : decode cX8_ownedBy 13 = .ok (.iload_n 3, 1) := by decide +kernel
theorem dX8_ownedBy_14 : decode cX8_ownedBy 14 = .ok (.invokevirtual 50, 3) := by decide +kernel
theorem dX8_ownedBy_17 : decode cX8_ownedBy 17 = .ok (.ifCond .eq 9, 3) := by decide +kernel
theorem dX8_ownedBy_20 : decode cX8_ownedBy 20 = .ok (.iconst 1, 1) := by decide +kernel
theorem dX8_ownedBy_21 : decode cX8_ownedBy 21 = .ok (.iload_n 3, 1) := by decide +kernel
theorem dX8_ownedBy_22 : decode cX8_ownedBy 22 = .ok (.ishl, 1) := by decide +kernel
theorem dX8_ownedBy_23 : decode cX8_ownedBy 23 = .ok (.goto 4, 3) := by decide +kernel
theorem dX8_ownedBy_26 : decode cX8_ownedBy 26 = .ok (.iconst 0, 1) := by decide +kernel
theorem dX8_ownedBy_27 : decode cX8_ownedBy 27 = .ok (.ior, 1) := by decide +kernel
theorem dX8_ownedBy_28 : decode cX8_ownedBy 28 = .ok (.istore_n 2, 1) := by decide +kernel
theorem dX8_ownedBy_29 : decode cX8_ownedBy 29 = .ok (.iinc 3 1, 3) := by decide +kernel
theorem dX8_ownedBy_32 : decode cX8_ownedBy 32 = .ok (.goto (-28), 3) := by decide +kernel
theorem dX8_ownedBy_35 : decode cX8_ownedBy 35 = .ok (.iload_n 2, 1) := by decide +kernel
theorem dX8_ownedBy_36 : decode cX8_ownedBy 36 = .ok (.ireturn, 1) := by decide +kernel
theorem dX8_lowestOf_0 : decode cX8_lowestOf 0 = .ok (.bipush (-6), 2) := by decide +kernel
theorem dX8_lowestOf_2 : decode cX8_lowestOf 2 = .ok (.istore_n 2, 1) := by decide +kernel
theorem dX8_lowestOf_3 : decode cX8_lowestOf 3 = .ok (.bipush 19, 2) := by decide +kernel
theorem dX8_lowestOf_5 : decode cX8_lowestOf 5 = .ok (.istore_n 3, 1) := by decide +kernel
theorem dX8_lowestOf_6 : decode cX8_lowestOf 6 = .ok (.iload_n 3, 1) := by decide +kernel
theorem dX8_lowestOf_7 : decode cX8_lowestOf 7 = .ok (.ifCond .lt 24, 3) := by decide +kernel
theorem dX8_lowestOf_10 : decode cX8_lowestOf 10 = .ok (.aload_n 0, 1) := by decide +kernel
theorem dX8_lowestOf_11 : decode cX8_lowestOf 11 = .ok (.iload_n 1, 1) := by decide +kernel
theorem dX8_lowestOf_12 : decode cX8_lowestOf 12 = .ok (.iload_n 3, 1) := by decide +kernel
theorem dX8_lowestOf_13 : decode cX8_lowestOf 13 = .ok (.invokevirtual 50, 3) := by decide +kernel
theorem dX8_lowestOf_16 : decode cX8_lowestOf 16 = .ok (.ifCond .eq 7, 3) := by decide +kernel
theorem dX8_lowestOf_19 : decode cX8_lowestOf 19 = .ok (.iload_n 3, 1) := by decide +kernel
theorem dX8_lowestOf_20 : decode cX8_lowestOf 20 = .ok (.goto 4, 3) := by decide +kernel
theorem dX8_lowestOf_23 : decode cX8_lowestOf 23 = .ok (.iload_n 2, 1) := by decide +kernel
theorem dX8_lowestOf_24 : decode cX8_lowestOf 24 = .ok (.istore_n 2, 1) := by decide +kernel
theorem dX8_lowestOf_25 : decode cX8_lowestOf 25 = .ok (.iinc 3 (-1), 3) := by decide +kernel
theorem dX8_lowestOf_28 : decode cX8_lowestOf 28 = .ok (.goto (-22), 3) := by decide +kernel
theorem dX8_lowestOf_31 : decode cX8_lowestOf 31 = .ok (.iload_n 2, 1) := by decide +kernel
theorem dX8_lowestOf_32 : decode cX8_lowestOf 32 = .ok (.ireturn, 1) := by decide +kernel
theorem dX8_standingAt_0 : decode cX8_standingAt 0 = .ok (.iconst 0, 1) := by decide +kernel
theorem dX8_standingAt_1 : decode cX8_standingAt 1 = .ok (.istore_n 2, 1) := by decide +kernel
theorem dX8_standingAt_2 : decode cX8_standingAt 2 = .ok (.iconst 0, 1) := by decide +kernel
theorem dX8_standingAt_3 : decode cX8_standingAt 3 = .ok (.istore_n 3, 1) := by decide +kernel
theorem dX8_standingAt_4 : decode cX8_standingAt 4 = .ok (.iload_n 3, 1) := by decide +kernel
theorem dX8_standingAt_5 : decode cX8_standingAt 5 = .ok (.aload_n 0, 1) := by decide +kernel
theorem dX8_standingAt_6 : decode cX8_standingAt 6 = .ok (.getfield 7, 3) := by decide +kernel
theorem dX8_standingAt_9 : decode cX8_standingAt 9 = .ok (.bipush 6, 2) := by decide +kernel
theorem dX8_standingAt_11 : decode cX8_standingAt 11 = .ok (.iaload, 1) := by decide +kernel
theorem dX8_standingAt_12 : decode cX8_standingAt 12 = .ok (.if_icmp .ge 29, 3) := by decide +kernel
theorem dX8_standingAt_15 : decode cX8_standingAt 15 = .ok (.iload_n 2, 1) := by decide +kernel
theorem dX8_standingAt_16 : decode cX8_standingAt 16 = .ok (.aload_n 0, 1) := by decide +kernel
theorem dX8_standingAt_17 : decode cX8_standingAt 17 = .ok (.iload_n 3, 1) := by decide +kernel
theorem dX8_standingAt_18 : decode cX8_standingAt 18 = .ok (.iconst 1, 1) := by decide +kernel
theorem dX8_standingAt_19 : decode cX8_standingAt 19 = .ok (.invokevirtual 54, 3) := by decide +kernel
theorem dX8_standingAt_22 : decode cX8_standingAt 22 = .ok (.iload_n 1, 1) := by decide +kernel
theorem dX8_standingAt_23 : decode cX8_standingAt 23 = .ok (.if_icmp .ne 9, 3) := by decide +kernel
theorem dX8_standingAt_26 : decode cX8_standingAt 26 = .ok (.iconst 1, 1) := by decide +kernel
theorem dX8_standingAt_27 : decode cX8_standingAt 27 = .ok (.iload_n 3, 1) := by decide +kernel
theorem dX8_standingAt_28 : decode cX8_standingAt 28 = .ok (.ishl, 1) := by decide +kernel
theorem dX8_standingAt_29 : decode cX8_standingAt 29 = .ok (.goto 4, 3) := by decide +kernel
theorem dX8_standingAt_32 : decode cX8_standingAt 32 = .ok (.iconst 0, 1) := by decide +kernel
theorem dX8_standingAt_33 : decode cX8_standingAt 33 = .ok (.ior, 1) := by decide +kernel
theorem dX8_standingAt_34 : decode cX8_standingAt 34 = .ok (.istore_n 2, 1) := by decide +kernel
theorem dX8_standingAt_35 : decode cX8_standingAt 35 = .ok (.iinc 3 1, 3) := by decide +kernel
theorem dX8_standingAt_38 : decode cX8_standingAt 38 = .ok (.goto (-34), 3) := by decide +kernel
theorem dX8_standingAt_41 : decode cX8_standingAt 41 = .ok (.iload_n 2, 1) := by decide +kernel
theorem dX8_standingAt_42 : decode cX8_standingAt 42 = .ok (.ireturn, 1) := by decide +kernel
theorem dX8_tollOf_0 : decode cX8_tollOf 0 = .ok (.aload_n 0, 1) := by decide +kernel
theorem dX8_tollOf_1 : decode cX8_tollOf 1 = .ok (.getfield 7, 3) := by decide +kernel
theorem dX8_tollOf_4 : decode cX8_tollOf 4 = .ok (.bipush 11, 2) := by decide +kernel
theorem dX8_tollOf_6 : decode cX8_tollOf 6 = .ok (.iload_n 1, 1) := by decide +kernel
theorem dX8_tollOf_7 : decode cX8_tollOf 7 = .ok (.iadd, 1) := by decide +kernel
theorem dX8_tollOf_8 : decode cX8_tollOf 8 = .ok (.iaload, 1) := by decide +kernel
theorem dX8_tollOf_9 : decode cX8_tollOf 9 = .ok (.istore_n 2, 1) := by decide +kernel
theorem dX8_tollOf_10 : decode cX8_tollOf 10 = .ok (.iload_n 2, 1) := by decide +kernel
theorem dX8_tollOf_11 : decode cX8_tollOf 11 = .ok (.bipush (-6), 2) := by decide +kernel
theorem dX8_tollOf_13 : decode cX8_tollOf 13 = .ok (.if_icmp .ne 5, 3) := by decide +kernel
theorem dX8_tollOf_16 : decode cX8_tollOf 16 = .ok (.iconst 0, 1) := by decide +kernel
theorem dX8_tollOf_17 : decode cX8_tollOf 17 = .ok (.ireturn, 1) := by decide +kernel
theorem dX8_tollOf_18 : decode cX8_tollOf 18 = .ok (.iconst 1, 1) := by decide +kernel
theorem dX8_tollOf_19 : decode cX8_tollOf 19 = .ok (.istore_n 3, 1) := by decide +kernel
theorem dX8_tollOf_20 : decode cX8_tollOf 20 = .ok (.iload_n 1, 1) := by decide +kernel
theorem dX8_tollOf_21 : decode cX8_tollOf 21 = .ok (.iconst 5, 1) := by decide +kernel
theorem dX8_tollOf_22 : decode cX8_tollOf 22 = .ok (.idiv, 1) := by decide +kernel
theorem dX8_tollOf_23 : decode cX8_tollOf 23 = .ok (.iconst 5, 1) := by decide +kernel
theorem dX8_tollOf_24 : decode cX8_tollOf 24 = .ok (.imul, 1) := by decide +kernel
theorem dX8_tollOf_25 : decode cX8_tollOf 25 = .ok (.istore 4, 2) := by decide +kernel
theorem dX8_tollOf_27 : decode cX8_tollOf 27 = .ok (.iload 4, 2) := by decide +kernel
theorem dX8_tollOf_29 : decode cX8_tollOf 29 = .ok (.iload_n 1, 1) := by decide +kernel
theorem dX8_tollOf_30 : decode cX8_tollOf 30 = .ok (.iconst 5, 1) := by decide +kernel
theorem dX8_tollOf_31 : decode cX8_tollOf 31 = .ok (.idiv, 1) := by decide +kernel
theorem dX8_tollOf_32 : decode cX8_tollOf 32 = .ok (.iconst 5, 1) := by decide +kernel
theorem dX8_tollOf_33 : decode cX8_tollOf 33 = .ok (.imul, 1) := by decide +kernel
theorem dX8_tollOf_34 : decode cX8_tollOf 34 = .ok (.iconst 5, 1) := by decide +kernel
theorem dX8_tollOf_35 : decode cX8_tollOf 35 = .ok (.iadd, 1) := by decide +kernel
theorem dX8_tollOf_36 : decode cX8_tollOf 36 = .ok (.if_icmp .ge 40, 3) := by decide +kernel
theorem dX8_tollOf_39 : decode cX8_tollOf 39 = .ok (.iload_n 3, 1) := by decide +kernel
theorem dX8_tollOf_40 : decode cX8_tollOf 40 = .ok (.iload 4, 2) := by decide +kernel
theorem dX8_tollOf_42 : decode cX8_tollOf 42 = .ok (.invokestatic 57, 3) := by decide +kernel
theorem dX8_tollOf_45 : decode cX8_tollOf 45 = .ok (.iconst 1, 1) := by decide +kernel
theorem dX8_tollOf_46 : decode cX8_tollOf 46 = .ok (.if_icmp .ne 21, 3) := by decide +kernel
theorem dX8_tollOf_49 : decode cX8_tollOf 49 = .ok (.aload_n 0, 1) := by decide +kernel
theorem dX8_tollOf_50 : decode cX8_tollOf 50 = .ok (.getfield 7, 3) := by decide +kernel
theorem dX8_tollOf_53 : decode cX8_tollOf 53 = .ok (.bipush 11, 2) := by decide +kernel
theorem dX8_tollOf_55 : decode cX8_tollOf 55 = .ok (.iload 4, 2) := by decide +kernel
theorem dX8_tollOf_57 : decode cX8_tollOf 57 = .ok (.iadd, 1) := by decide +kernel
theorem dX8_tollOf_58 : decode cX8_tollOf 58 = .ok (.iaload, 1) := by decide +kernel
theorem dX8_tollOf_59 : decode cX8_tollOf 59 = .ok (.iload_n 2, 1) := by decide +kernel
theorem dX8_tollOf_60 : decode cX8_tollOf 60 = .ok (.if_icmp .ne 7, 3) := by decide +kernel
theorem dX8_tollOf_63 : decode cX8_tollOf 63 = .ok (.iconst 1, 1) := by decide +kernel
theorem dX8_tollOf_64 : decode cX8_tollOf 64 = .ok (.goto 4, 3) := by decide +kernel
theorem dX8_tollOf_67 : decode cX8_tollOf 67 = .ok (.iconst 0, 1) := by decide +kernel
theorem dX8_tollOf_68 : decode cX8_tollOf 68 = .ok (.iadd, 1) := by decide +kernel
theorem dX8_tollOf_69 : decode cX8_tollOf 69 = .ok (.istore_n 3, 1) := by decide +kernel
theorem dX8_tollOf_70 : decode cX8_tollOf 70 = .ok (.iinc 4 1, 3) := by decide +kernel
theorem dX8_tollOf_73 : decode cX8_tollOf 73 = .ok (.goto (-46), 3) := by decide +kernel
theorem dX8_tollOf_76 : decode cX8_tollOf 76 = .ok (.aload_n 0, 1) := by decide +kernel
theorem dX8_tollOf_77 : decode cX8_tollOf 77 = .ok (.getfield 7, 3) := by decide +kernel
theorem dX8_tollOf_80 : decode cX8_tollOf 80 = .ok (.iconst 2, 1) := by decide +kernel
theorem dX8_tollOf_81 : decode cX8_tollOf 81 = .ok (.iaload, 1) := by decide +kernel
theorem dX8_tollOf_82 : decode cX8_tollOf 82 = .ok (.iload_n 3, 1) := by decide +kernel
theorem dX8_tollOf_83 : decode cX8_tollOf 83 = .ok (.imul, 1) := by decide +kernel
theorem dX8_tollOf_84 : decode cX8_tollOf 84 = .ok (.ireturn, 1) := by decide +kernel
theorem dX8_owedBy_0 : decode cX8_owedBy 0 = .ok (.iconst 0, 1) := by decide +kernel
theorem dX8_owedBy_1 : decode cX8_owedBy 1 = .ok (.istore_n 2, 1) := by decide +kernel
theorem dX8_owedBy_2 : decode cX8_owedBy 2 = .ok (.iconst 0, 1) := by decide +kernel
theorem dX8_owedBy_3 : decode cX8_owedBy 3 = .ok (.istore_n 3, 1) := by decide +kernel
theorem dX8_owedBy_4 : decode cX8_owedBy 4 = .ok (.iload_n 3, 1) := by decide +kernel
theorem dX8_owedBy_5 : decode cX8_owedBy 5 = .ok (.aload_n 0, 1) := by decide +kernel
theorem dX8_owedBy_6 : decode cX8_owedBy 6 = .ok (.getfield 7, 3) := by decide +kernel
theorem dX8_owedBy_9 : decode cX8_owedBy 9 = .ok (.bipush 6, 2) := by decide +kernel
theorem dX8_owedBy_11 : decode cX8_owedBy 11 = .ok (.iaload, 1) := by decide +kernel
theorem dX8_owedBy_12 : decode cX8_owedBy 12 = .ok (.if_icmp .ge 18, 3) := by decide +kernel
theorem dX8_owedBy_15 : decode cX8_owedBy 15 = .ok (.iload_n 2, 1) := by decide +kernel
theorem dX8_owedBy_16 : decode cX8_owedBy 16 = .ok (.aload_n 0, 1) := by decide +kernel
theorem dX8_owedBy_17 : decode cX8_owedBy 17 = .ok (.iload_n 1, 1) := by decide +kernel
theorem dX8_owedBy_18 : decode cX8_owedBy 18 = .ok (.iload_n 3, 1) := by decide +kernel
theorem dX8_owedBy_19 : decode cX8_owedBy 19 = .ok (.invokevirtual 46, 3) := by decide +kernel
theorem dX8_owedBy_22 : decode cX8_owedBy 22 = .ok (.iadd, 1) := by decide +kernel
theorem dX8_owedBy_23 : decode cX8_owedBy 23 = .ok (.istore_n 2, 1) := by decide +kernel
theorem dX8_owedBy_24 : decode cX8_owedBy 24 = .ok (.iinc 3 1, 3) := by decide +kernel
theorem dX8_owedBy_27 : decode cX8_owedBy 27 = .ok (.goto (-23), 3) := by decide +kernel
theorem dX8_owedBy_30 : decode cX8_owedBy 30 = .ok (.iload_n 2, 1) := by decide +kernel
theorem dX8_owedBy_31 : decode cX8_owedBy 31 = .ok (.ireturn, 1) := by decide +kernel
theorem dX8_owedTo_0 : decode cX8_owedTo 0 = .ok (.iconst 0, 1) := by decide +kernel
theorem dX8_owedTo_1 : decode cX8_owedTo 1 = .ok (.istore_n 2, 1) := by decide +kernel
theorem dX8_owedTo_2 : decode cX8_owedTo 2 = .ok (.iconst 0, 1) := by decide +kernel
theorem dX8_owedTo_3 : decode cX8_owedTo 3 = .ok (.istore_n 3, 1) := by decide +kernel
theorem dX8_owedTo_4 : decode cX8_owedTo 4 = .ok (.iload_n 3, 1) := by decide +kernel
theorem dX8_owedTo_5 : decode cX8_owedTo 5 = .ok (.aload_n 0, 1) := by decide +kernel
theorem dX8_owedTo_6 : decode cX8_owedTo 6 = .ok (.getfield 7, 3) := by decide +kernel
theorem dX8_owedTo_9 : decode cX8_owedTo 9 = .ok (.bipush 6, 2) := by decide +kernel
theorem dX8_owedTo_11 : decode cX8_owedTo 11 = .ok (.iaload, 1) := by decide +kernel
theorem dX8_owedTo_12 : decode cX8_owedTo 12 = .ok (.if_icmp .ge 18, 3) := by decide +kernel
theorem dX8_owedTo_15 : decode cX8_owedTo 15 = .ok (.iload_n 2, 1) := by decide +kernel
theorem dX8_owedTo_16 : decode cX8_owedTo 16 = .ok (.aload_n 0, 1) := by decide +kernel
theorem dX8_owedTo_17 : decode cX8_owedTo 17 = .ok (.iload_n 3, 1) := by decide +kernel
theorem dX8_owedTo_18 : decode cX8_owedTo 18 = .ok (.iload_n 1, 1) := by decide +kernel
theorem dX8_owedTo_19 : decode cX8_owedTo 19 = .ok (.invokevirtual 46, 3) := by decide +kernel
theorem dX8_owedTo_22 : decode cX8_owedTo 22 = .ok (.iadd, 1) := by decide +kernel
theorem dX8_owedTo_23 : decode cX8_owedTo 23 = .ok (.istore_n 2, 1) := by decide +kernel
theorem dX8_owedTo_24 : decode cX8_owedTo 24 = .ok (.iinc 3 1, 3) := by decide +kernel
theorem dX8_owedTo_27 : decode cX8_owedTo 27 = .ok (.goto (-23), 3) := by decide +kernel
theorem dX8_owedTo_30 : decode cX8_owedTo 30 = .ok (.iload_n 2, 1) := by decide +kernel
theorem dX8_owedTo_31 : decode cX8_owedTo 31 = .ok (.ireturn, 1) := by decide +kernel
theorem dX8_sumOf_0 : decode cX8_sumOf 0 = .ok (.iconst 0, 1) := by decide +kernel
theorem dX8_sumOf_1 : decode cX8_sumOf 1 = .ok (.istore_n 2, 1) := by decide +kernel
theorem dX8_sumOf_2 : decode cX8_sumOf 2 = .ok (.iconst 0, 1) := by decide +kernel
theorem dX8_sumOf_3 : decode cX8_sumOf 3 = .ok (.istore_n 3, 1) := by decide +kernel
theorem dX8_sumOf_4 : decode cX8_sumOf 4 = .ok (.iload_n 3, 1) := by decide +kernel
theorem dX8_sumOf_5 : decode cX8_sumOf 5 = .ok (.aload_n 0, 1) := by decide +kernel
theorem dX8_sumOf_6 : decode cX8_sumOf 6 = .ok (.getfield 7, 3) := by decide +kernel
theorem dX8_sumOf_9 : decode cX8_sumOf 9 = .ok (.bipush 6, 2) := by decide +kernel
theorem dX8_sumOf_11 : decode cX8_sumOf 11 = .ok (.iaload, 1) := by decide +kernel
theorem dX8_sumOf_12 : decode cX8_sumOf 12 = .ok (.if_icmp .ge 18, 3) := by decide +kernel
theorem dX8_sumOf_15 : decode cX8_sumOf 15 = .ok (.iload_n 2, 1) := by decide +kernel
theorem dX8_sumOf_16 : decode cX8_sumOf 16 = .ok (.aload_n 0, 1) := by decide +kernel
theorem dX8_sumOf_17 : decode cX8_sumOf 17 = .ok (.iload_n 3, 1) := by decide +kernel
theorem dX8_sumOf_18 : decode cX8_sumOf 18 = .ok (.iload_n 1, 1) := by decide +kernel
theorem dX8_sumOf_19 : decode cX8_sumOf 19 = .ok (.invokevirtual 54, 3) := by decide +kernel
theorem dX8_sumOf_22 : decode cX8_sumOf 22 = .ok (.iadd, 1) := by decide +kernel
theorem dX8_sumOf_23 : decode cX8_sumOf 23 = .ok (.istore_n 2, 1) := by decide +kernel
theorem dX8_sumOf_24 : decode cX8_sumOf 24 = .ok (.iinc 3 1, 3) := by decide +kernel
theorem dX8_sumOf_27 : decode cX8_sumOf 27 = .ok (.goto (-23), 3) := by decide +kernel
theorem dX8_sumOf_30 : decode cX8_sumOf 30 = .ok (.iload_n 2, 1) := by decide +kernel
theorem dX8_sumOf_31 : decode cX8_sumOf 31 = .ok (.ireturn, 1) := by decide +kernel
theorem dX8_sumOfDebts_0 : decode cX8_sumOfDebts 0 = .ok (.iconst 0, 1) := by decide +kernel
theorem dX8_sumOfDebts_1 : decode cX8_sumOfDebts 1 = .ok (.istore_n 1, 1) := by decide +kernel
theorem dX8_sumOfDebts_2 : decode cX8_sumOfDebts 2 = .ok (.iconst 0, 1) := by decide +kernel
theorem dX8_sumOfDebts_3 : decode cX8_sumOfDebts 3 = .ok (.istore_n 2, 1) := by decide +kernel
theorem dX8_sumOfDebts_4 : decode cX8_sumOfDebts 4 = .ok (.iload_n 2, 1) := by decide +kernel
theorem dX8_sumOfDebts_5 : decode cX8_sumOfDebts 5 = .ok (.aload_n 0, 1) := by decide +kernel
theorem dX8_sumOfDebts_6 : decode cX8_sumOfDebts 6 = .ok (.getfield 7, 3) := by decide +kernel
theorem dX8_sumOfDebts_9 : decode cX8_sumOfDebts 9 = .ok (.bipush 6, 2) := by decide +kernel
theorem dX8_sumOfDebts_11 : decode cX8_sumOfDebts 11 = .ok (.iaload, 1) := by decide +kernel
theorem dX8_sumOfDebts_12 : decode cX8_sumOfDebts 12 = .ok (.if_icmp .ge 17, 3) := by decide +kernel
theorem dX8_sumOfDebts_15 : decode cX8_sumOfDebts 15 = .ok (.iload_n 1, 1) := by decide +kernel
theorem dX8_sumOfDebts_16 : decode cX8_sumOfDebts 16 = .ok (.aload_n 0, 1) := by decide +kernel
theorem dX8_sumOfDebts_17 : decode cX8_sumOfDebts 17 = .ok (.iload_n 2, 1) := by decide +kernel
theorem dX8_sumOfDebts_18 : decode cX8_sumOfDebts 18 = .ok (.invokevirtual 61, 3) := by decide +kernel
theorem dX8_sumOfDebts_21 : decode cX8_sumOfDebts 21 = .ok (.iadd, 1) := by decide +kernel
theorem dX8_sumOfDebts_22 : decode cX8_sumOfDebts 22 = .ok (.istore_n 1, 1) := by decide +kernel
theorem dX8_sumOfDebts_23 : decode cX8_sumOfDebts 23 = .ok (.iinc 2 1, 3) := by decide +kernel
theorem dX8_sumOfDebts_26 : decode cX8_sumOfDebts 26 = .ok (.goto (-22), 3) := by decide +kernel
theorem dX8_sumOfDebts_29 : decode cX8_sumOfDebts 29 = .ok (.iload_n 1, 1) := by decide +kernel
theorem dX8_sumOfDebts_30 : decode cX8_sumOfDebts 30 = .ok (.ireturn, 1) := by decide +kernel
theorem dX8_debtsMany_0 : decode cX8_debtsMany 0 = .ok (.iconst 0, 1) := by decide +kernel
theorem dX8_debtsMany_1 : decode cX8_debtsMany 1 = .ok (.istore_n 1, 1) := by decide +kernel
theorem dX8_debtsMany_2 : decode cX8_debtsMany 2 = .ok (.iconst 0, 1) := by decide +kernel
theorem dX8_debtsMany_3 : decode cX8_debtsMany 3 = .ok (.istore_n 2, 1) := by decide +kernel
theorem dX8_debtsMany_4 : decode cX8_debtsMany 4 = .ok (.iload_n 2, 1) := by decide +kernel
theorem dX8_debtsMany_5 : decode cX8_debtsMany 5 = .ok (.aload_n 0, 1) := by decide +kernel
theorem dX8_debtsMany_6 : decode cX8_debtsMany 6 = .ok (.getfield 7, 3) := by decide +kernel
theorem dX8_debtsMany_9 : decode cX8_debtsMany 9 = .ok (.bipush 6, 2) := by decide +kernel
theorem dX8_debtsMany_11 : decode cX8_debtsMany 11 = .ok (.iaload, 1) := by decide +kernel
theorem dX8_debtsMany_12 : decode cX8_debtsMany 12 = .ok (.if_icmp .ge 45, 3) := by decide +kernel
theorem dX8_debtsMany_15 : decode cX8_debtsMany 15 = .ok (.iconst 0, 1) := by decide +kernel
theorem dX8_debtsMany_16 : decode cX8_debtsMany 16 = .ok (.istore_n 3, 1) := by decide +kernel
theorem dX8_debtsMany_17 : decode cX8_debtsMany 17 = .ok (.iload_n 3, 1) := by decide +kernel
theorem dX8_debtsMany_18 : decode cX8_debtsMany 18 = .ok (.aload_n 0, 1) := by decide +kernel
theorem dX8_debtsMany_19 : decode cX8_debtsMany 19 = .ok (.getfield 7, 3) := by decide +kernel
theorem dX8_debtsMany_22 : decode cX8_debtsMany 22 = .ok (.bipush 6, 2) := by decide +kernel
theorem dX8_debtsMany_24 : decode cX8_debtsMany 24 = .ok (.iaload, 1) := by decide +kernel
theorem dX8_debtsMany_25 : decode cX8_debtsMany 25 = .ok (.if_icmp .ge 26, 3) := by decide +kernel
theorem dX8_debtsMany_28 : decode cX8_debtsMany 28 = .ok (.iload_n 1, 1) := by decide +kernel
theorem dX8_debtsMany_29 : decode cX8_debtsMany 29 = .ok (.aload_n 0, 1) := by decide +kernel
theorem dX8_debtsMany_30 : decode cX8_debtsMany 30 = .ok (.iload_n 2, 1) := by decide +kernel
theorem dX8_debtsMany_31 : decode cX8_debtsMany 31 = .ok (.iload_n 3, 1) := by decide +kernel
theorem dX8_debtsMany_32 : decode cX8_debtsMany 32 = .ok (.invokevirtual 46, 3) := by decide +kernel
theorem dX8_debtsMany_35 : decode cX8_debtsMany 35 = .ok (.ifCond .le 7, 3) := by decide +kernel
theorem dX8_debtsMany_38 : decode cX8_debtsMany 38 = .ok (.iconst 1, 1) := by decide +kernel
theorem dX8_debtsMany_39 : decode cX8_debtsMany 39 = .ok (.goto 4, 3) := by decide +kernel
theorem dX8_debtsMany_42 : decode cX8_debtsMany 42 = .ok (.iconst 0, 1) := by decide +kernel
theorem dX8_debtsMany_43 : decode cX8_debtsMany 43 = .ok (.iadd, 1) := by decide +kernel
theorem dX8_debtsMany_44 : decode cX8_debtsMany 44 = .ok (.istore_n 1, 1) := by decide +kernel
theorem dX8_debtsMany_45 : decode cX8_debtsMany 45 = .ok (.iinc 3 1, 3) := by decide +kernel
theorem dX8_debtsMany_48 : decode cX8_debtsMany 48 = .ok (.goto (-31), 3) := by decide +kernel
theorem dX8_debtsMany_51 : decode cX8_debtsMany 51 = .ok (.iinc 2 1, 3) := by decide +kernel
theorem dX8_debtsMany_54 : decode cX8_debtsMany 54 = .ok (.goto (-50), 3) := by decide +kernel
theorem dX8_debtsMany_57 : decode cX8_debtsMany 57 = .ok (.iload_n 1, 1) := by decide +kernel
theorem dX8_debtsMany_58 : decode cX8_debtsMany 58 = .ok (.ireturn, 1) := by decide +kernel
theorem dX8_die_0 : decode cX8_die 0 = .ok (.aload_n 0, 1) := by decide +kernel
theorem dX8_die_1 : decode cX8_die 1 = .ok (.getfield 7, 3) := by decide +kernel
theorem dX8_die_4 : decode cX8_die 4 = .ok (.bipush 8, 2) := by decide +kernel
theorem dX8_die_6 : decode cX8_die 6 = .ok (.bipush 75, 2) := by decide +kernel
theorem dX8_die_8 : decode cX8_die 8 = .ok (.aload_n 0, 1) := by decide +kernel
theorem dX8_die_9 : decode cX8_die 9 = .ok (.getfield 7, 3) := by decide +kernel
theorem dX8_die_12 : decode cX8_die 12 = .ok (.bipush 8, 2) := by decide +kernel
theorem dX8_die_14 : decode cX8_die 14 = .ok (.iaload, 1) := by decide +kernel
theorem dX8_die_15 : decode cX8_die 15 = .ok (.imul, 1) := by decide +kernel
theorem dX8_die_16 : decode cX8_die 16 = .ok (.bipush 74, 2) := by decide +kernel
theorem dX8_die_18 : decode cX8_die 18 = .ok (.iadd, 1) := by decide +kernel
theorem dX8_die_19 : decode cX8_die 19 = .ok (.ldc 64, 2) := by decide +kernel
theorem dX8_die_21 : decode cX8_die 21 = .ok (.irem, 1) := by decide +kernel
theorem dX8_die_22 : decode cX8_die 22 = .ok (.iastore, 1) := by decide +kernel
theorem dX8_die_23 : decode cX8_die 23 = .ok (.iconst 1, 1) := by decide +kernel
theorem dX8_die_24 : decode cX8_die 24 = .ok (.aload_n 0, 1) := by decide +kernel
theorem dX8_die_25 : decode cX8_die 25 = .ok (.getfield 7, 3) := by decide +kernel
theorem dX8_die_28 : decode cX8_die 28 = .ok (.bipush 8, 2) := by decide +kernel
theorem dX8_die_30 : decode cX8_die 30 = .ok (.iaload, 1) := by decide +kernel
theorem dX8_die_31 : decode cX8_die 31 = .ok (.bipush 8, 2) := by decide +kernel
theorem dX8_die_33 : decode cX8_die 33 = .ok (.idiv, 1) := by decide +kernel
theorem dX8_die_34 : decode cX8_die 34 = .ok (.bipush 6, 2) := by decide +kernel
theorem dX8_die_36 : decode cX8_die 36 = .ok (.irem, 1) := by decide +kernel
theorem dX8_die_37 : decode cX8_die 37 = .ok (.iadd, 1) := by decide +kernel
theorem dX8_die_38 : decode cX8_die 38 = .ok (.ireturn, 1) := by decide +kernel
theorem dX8_oldest_0 : decode cX8_oldest 0 = .ok (.bipush (-6), 2) := by decide +kernel
theorem dX8_oldest_2 : decode cX8_oldest 2 = .ok (.istore_n 3, 1) := by decide +kernel
theorem dX8_oldest_3 : decode cX8_oldest 3 = .ok (.iconst 0, 1) := by decide +kernel
theorem dX8_oldest_4 : decode cX8_oldest 4 = .ok (.istore 4, 2) := by decide +kernel
theorem dX8_oldest_6 : decode cX8_oldest 6 = .ok (.iload 4, 2) := by decide +kernel
theorem dX8_oldest_8 : decode cX8_oldest 8 = .ok (.aload_n 0, 1) := by decide +kernel
theorem dX8_oldest_9 : decode cX8_oldest 9 = .ok (.getfield 7, 3) := by decide +kernel
theorem dX8_oldest_12 : decode cX8_oldest 12 = .ok (.bipush 6, 2) := by decide +kernel
theorem dX8_oldest_14 : decode cX8_oldest 14 = .ok (.iaload, 1) := by decide +kernel
theorem dX8_oldest_15 : decode cX8_oldest 15 = .ok (.if_icmp .ge 69, 3) := by decide +kernel
theorem dX8_oldest_18 : decode cX8_oldest 18 = .ok (.aload_n 0, 1) := by decide +kernel
theorem dX8_oldest_19 : decode cX8_oldest 19 = .ok (.iload_n 1, 1) := by decide +kernel
theorem dX8_oldest_20 : decode cX8_oldest 20 = .ok (.iload 4, 2) := by decide +kernel
theorem dX8_oldest_22 : decode cX8_oldest 22 = .ok (.invokevirtual 46, 3) := by decide +kernel
theorem dX8_oldest_25 : decode cX8_oldest 25 = .ok (.ifCond .le 38, 3) := by decide +kernel
theorem dX8_oldest_28 : decode cX8_oldest 28 = .ok (.iload_n 2, 1) := by decide +kernel
theorem dX8_oldest_29 : decode cX8_oldest 29 = .ok (.iload 4, 2) := by decide +kernel
theorem dX8_oldest_31 : decode cX8_oldest 31 = .ok (.ishr, 1) := by decide +kernel
theorem dX8_oldest_32 : decode cX8_oldest 32 = .ok (.iconst 1, 1) := by decide +kernel
theorem dX8_oldest_33 : decode cX8_oldest 33 = .ok (.iand, 1) := by decide +kernel
theorem dX8_oldest_34 : decode cX8_oldest 34 = .ok (.ifCond .ne 29, 3) := by decide +kernel
theorem dX8_oldest_37 : decode cX8_oldest 37 = .ok (.iload_n 3, 1) := by decide +kernel
theorem dX8_oldest_38 : decode cX8_oldest 38 = .ok (.bipush (-6), 2) := by decide +kernel
theorem dX8_oldest_40 : decode cX8_oldest 40 = .ok (.if_icmp .eq 19, 3) := by decide +kernel
theorem dX8_oldest_43 : decode cX8_oldest 43 = .ok (.aload_n 0, 1) := by decide +kernel
theorem dX8_oldest_44 : decode cX8_oldest 44 = .ok (.iload_n 1, 1) := by decide +kernel
theorem dX8_oldest_45 : decode cX8_oldest 45 = .ok (.iload 4, 2) := by decide +kernel
theorem dX8_oldest_47 : decode cX8_oldest 47 = .ok (.invokevirtual 65, 3) := by decide +kernel
theorem dX8_oldest_50 : decode cX8_oldest 50 = .ok (.aload_n 0, 1) := by decide +kernel
theorem dX8_oldest_51 : decode cX8_oldest 51 = .ok (.iload_n 1, 1) := by decide +kernel
theorem dX8_oldest_52 : decode cX8_oldest 52 = .ok (.iload_n 3, 1) := by decide +kernel
theorem dX8_oldest_53 : decode cX8_oldest 53 = .ok (.invokevirtual 65, 3) := by decide +kernel
theorem dX8_oldest_56 : decode cX8_oldest 56 = .ok (.if_icmp .le 7, 3) := by decide +kernel
theorem dX8_oldest_59 : decode cX8_oldest 59 = .ok (.iconst 1, 1) := by decide +kernel
theorem dX8_oldest_60 : decode cX8_oldest 60 = .ok (.goto 4, 3) := by decide +kernel
theorem dX8_oldest_63 : decode cX8_oldest 63 = .ok (.iconst 0, 1) := by decide +kernel
theorem dX8_oldest_64 : decode cX8_oldest 64 = .ok (.istore 5, 2) := by decide +kernel
theorem dX8_oldest_66 : decode cX8_oldest 66 = .ok (.iload 5, 2) := by decide +kernel
theorem dX8_oldest_68 : decode cX8_oldest 68 = .ok (.ifCond .eq 8, 3) := by decide +kernel
theorem dX8_oldest_71 : decode cX8_oldest 71 = .ok (.iload 4, 2) := by decide +kernel
theorem dX8_oldest_73 : decode cX8_oldest 73 = .ok (.goto 4, 3) := by decide +kernel
theorem dX8_oldest_76 : decode cX8_oldest 76 = .ok (.iload_n 3, 1) := by decide +kernel
theorem dX8_oldest_77 : decode cX8_oldest 77 = .ok (.istore_n 3, 1) := by decide +kernel
theorem dX8_oldest_78 : decode cX8_oldest 78 = .ok (.iinc 4 1, 3) := by decide +kernel
theorem dX8_oldest_81 : decode cX8_oldest 81 = .ok (.goto (-75), 3) := by decide +kernel
theorem dX8_oldest_84 : decode cX8_oldest 84 = .ok (.iload_n 3, 1) := by decide +kernel
theorem dX8_oldest_85 : decode cX8_oldest 85 = .ok (.ireturn, 1) := by decide +kernel
theorem dX8_pays_0 : decode cX8_pays 0 = .ok (.iload_n 3, 1) := by decide +kernel
theorem dX8_pays_1 : decode cX8_pays 1 = .ok (.aload_n 0, 1) := by decide +kernel
theorem dX8_pays_2 : decode cX8_pays 2 = .ok (.iload_n 1, 1) := by decide +kernel
theorem dX8_pays_3 : decode cX8_pays 3 = .ok (.iconst 0, 1) := by decide +kernel
theorem dX8_pays_4 : decode cX8_pays 4 = .ok (.invokevirtual 54, 3) := by decide +kernel
theorem dX8_pays_7 : decode cX8_pays 7 = .ok (.if_icmp .ge 7, 3) := by decide +kernel
theorem dX8_pays_10 : decode cX8_pays 10 = .ok (.iload_n 3, 1) := by decide +kernel
theorem dX8_pays_11 : decode cX8_pays 11 = .ok (.goto 9, 3) := by decide +kernel
theorem dX8_pays_14 : decode cX8_pays 14 = .ok (.aload_n 0, 1) := by decide +kernel
theorem dX8_pays_15 : decode cX8_pays 15 = .ok (.iload_n 1, 1) := by decide +kernel
theorem dX8_pays_16 : decode cX8_pays 16 = .ok (.iconst 0, 1) := by decide +kernel
theorem dX8_pays_17 : decode cX8_pays 17 = .ok (.invokevirtual 54, 3) := by decide +kernel
theorem dX8_pays_20 : decode cX8_pays 20 = .ok (.istore 4, 2) := by decide +kernel
theorem dX8_pays_22 : decode cX8_pays 22 = .ok (.aload_n 0, 1) := by decide +kernel
theorem dX8_pays_23 : decode cX8_pays 23 = .ok (.iload_n 1, 1) := by decide +kernel
theorem dX8_pays_24 : decode cX8_pays 24 = .ok (.iconst 0, 1) := by decide +kernel
theorem dX8_pays_25 : decode cX8_pays 25 = .ok (.iload 4, 2) := by decide +kernel
theorem dX8_pays_27 : decode cX8_pays 27 = .ok (.ineg, 1) := by decide +kernel
theorem dX8_pays_28 : decode cX8_pays 28 = .ok (.invokevirtual 68, 3) := by decide +kernel
theorem dX8_pays_31 : decode cX8_pays 31 = .ok (.aload_n 0, 1) := by decide +kernel
theorem dX8_pays_32 : decode cX8_pays 32 = .ok (.iload_n 1, 1) := by decide +kernel
theorem dX8_pays_33 : decode cX8_pays 33 = .ok (.iconst 2, 1) := by decide +kernel
theorem dX8_pays_34 : decode cX8_pays 34 = .ok (.iload 4, 2) := by decide +kernel
theorem dX8_pays_36 : decode cX8_pays 36 = .ok (.invokevirtual 68, 3) := by decide +kernel
theorem dX8_pays_39 : decode cX8_pays 39 = .ok (.aload_n 0, 1) := by decide +kernel
theorem dX8_pays_40 : decode cX8_pays 40 = .ok (.iload_n 2, 1) := by decide +kernel
theorem dX8_pays_41 : decode cX8_pays 41 = .ok (.iconst 0, 1) := by decide +kernel
theorem dX8_pays_42 : decode cX8_pays 42 = .ok (.iload 4, 2) := by decide +kernel
theorem dX8_pays_44 : decode cX8_pays 44 = .ok (.invokevirtual 68, 3) := by decide +kernel
theorem dX8_pays_47 : decode cX8_pays 47 = .ok (.aload_n 0, 1) := by decide +kernel
theorem dX8_pays_48 : decode cX8_pays 48 = .ok (.iload_n 2, 1) := by decide +kernel
theorem dX8_pays_49 : decode cX8_pays 49 = .ok (.iconst 3, 1) := by decide +kernel
theorem dX8_pays_50 : decode cX8_pays 50 = .ok (.iload 4, 2) := by decide +kernel
theorem dX8_pays_52 : decode cX8_pays 52 = .ok (.invokevirtual 68, 3) := by decide +kernel
theorem dX8_pays_55 : decode cX8_pays 55 = .ok (.iload 4, 2) := by decide +kernel
theorem dX8_pays_57 : decode cX8_pays 57 = .ok (.ireturn, 1) := by decide +kernel
theorem dX8_paysDebts_0 : decode cX8_paysDebts 0 = .ok (.iconst 0, 1) := by decide +kernel
theorem dX8_paysDebts_1 : decode cX8_paysDebts 1 = .ok (.istore_n 2, 1) := by decide +kernel
theorem dX8_paysDebts_2 : decode cX8_paysDebts 2 = .ok (.aload_n 0, 1) := by decide +kernel
theorem dX8_paysDebts_3 : decode cX8_paysDebts 3 = .ok (.iload_n 1, 1) := by decide +kernel
theorem dX8_paysDebts_4 : decode cX8_paysDebts 4 = .ok (.iload_n 2, 1) := by decide +kernel
theorem dX8_paysDebts_5 : decode cX8_paysDebts 5 = .ok (.invokevirtual 72, 3) := by decide +kernel
theorem dX8_paysDebts_8 : decode cX8_paysDebts 8 = .ok (.istore_n 3, 1) := by decide +kernel
theorem dX8_paysDebts_9 : decode cX8_paysDebts 9 = .ok (.iload_n 3, 1) := by decide +kernel
theorem dX8_paysDebts_10 : decode cX8_paysDebts 10 = .ok (.bipush (-6), 2) := by decide +kernel
theorem dX8_paysDebts_12 : decode cX8_paysDebts 12 = .ok (.if_icmp .eq 38, 3) := by decide +kernel
theorem dX8_paysDebts_15 : decode cX8_paysDebts 15 = .ok (.iload_n 2, 1) := by decide +kernel
theorem dX8_paysDebts_16 : decode cX8_paysDebts 16 = .ok (.iconst 1, 1) := by decide +kernel
theorem dX8_paysDebts_17 : decode cX8_paysDebts 17 = .ok (.iload_n 3, 1) := by decide +kernel
theorem dX8_paysDebts_18 : decode cX8_paysDebts 18 = .ok (.ishl, 1) := by decide +kernel
theorem dX8_paysDebts_19 : decode cX8_paysDebts 19 = .ok (.ior, 1) := by decide +kernel
theorem dX8_paysDebts_20 : decode cX8_paysDebts 20 = .ok (.istore_n 2, 1) := by decide +kernel
theorem dX8_paysDebts_21 : decode cX8_paysDebts 21 = .ok (.aload_n 0, 1) := by decide +kernel
theorem dX8_paysDebts_22 : decode cX8_paysDebts 22 = .ok (.iload_n 1, 1) := by decide +kernel
theorem dX8_paysDebts_23 : decode cX8_paysDebts 23 = .ok (.iload_n 3, 1) := by decide +kernel
theorem dX8_paysDebts_24 : decode cX8_paysDebts 24 = .ok (.aload_n 0, 1) := by decide +kernel
theorem dX8_paysDebts_25 : decode cX8_paysDebts 25 = .ok (.iload_n 1, 1) := by decide +kernel
theorem dX8_paysDebts_26 : decode cX8_paysDebts 26 = .ok (.iload_n 3, 1) := by decide +kernel
theorem dX8_paysDebts_27 : decode cX8_paysDebts 27 = .ok (.aload_n 0, 1) := by decide +kernel
theorem dX8_paysDebts_28 : decode cX8_paysDebts 28 = .ok (.iload_n 1, 1) := by decide +kernel
theorem dX8_paysDebts_29 : decode cX8_paysDebts 29 = .ok (.iload_n 3, 1) := by decide +kernel
theorem dX8_paysDebts_30 : decode cX8_paysDebts 30 = .ok (.invokevirtual 46, 3) := by decide +kernel
theorem dX8_paysDebts_33 : decode cX8_paysDebts 33 = .ok (.invokevirtual 75, 3) := by decide +kernel
theorem dX8_paysDebts_36 : decode cX8_paysDebts 36 = .ok (.ineg, 1) := by decide +kernel
theorem dX8_paysDebts_37 : decode cX8_paysDebts 37 = .ok (.invokevirtual 79, 3) := by decide +kernel
theorem dX8_paysDebts_40 : decode cX8_paysDebts 40 = .ok (.aload_n 0, 1) := by decide +kernel
theorem dX8_paysDebts_41 : decode cX8_paysDebts 41 = .ok (.iload_n 1, 1) := by decide +kernel
theorem dX8_paysDebts_42 : decode cX8_paysDebts 42 = .ok (.iload_n 2, 1) := by decide +kernel
theorem dX8_paysDebts_43 : decode cX8_paysDebts 43 = .ok (.invokevirtual 72, 3) := by decide +kernel
theorem dX8_paysDebts_46 : decode cX8_paysDebts 46 = .ok (.istore_n 3, 1) := by decide +kernel
theorem dX8_paysDebts_47 : decode cX8_paysDebts 47 = .ok (.goto (-38), 3) := by decide +kernel
theorem dX8_paysDebts_50 : decode cX8_paysDebts 50 = .ok (.return_, 1) := by decide +kernel
theorem dX8_goes_0 : decode cX8_goes 0 = .ok (.aload_n 0, 1) := by decide +kernel
theorem dX8_goes_1 : decode cX8_goes 1 = .ok (.invokevirtual 82, 3) := by decide +kernel
theorem dX8_goes_4 : decode cX8_goes 4 = .ok (.istore_n 2, 1) := by decide +kernel
theorem dX8_goes_5 : decode cX8_goes 5 = .ok (.aload_n 0, 1) := by decide +kernel
theorem dX8_goes_6 : decode cX8_goes 6 = .ok (.iload_n 1, 1) := by decide +kernel
theorem dX8_goes_7 : decode cX8_goes 7 = .ok (.iconst 1, 1) := by decide +kernel
theorem dX8_goes_8 : decode cX8_goes 8 = .ok (.invokevirtual 54, 3) := by decide +kernel
theorem dX8_goes_11 : decode cX8_goes 11 = .ok (.iload_n 2, 1) := by decide +kernel
theorem dX8_goes_12 : decode cX8_goes 12 = .ok (.iadd, 1) := by decide +kernel
theorem dX8_goes_13 : decode cX8_goes 13 = .ok (.aload_n 0, 1) := by decide +kernel
theorem dX8_goes_14 : decode cX8_goes 14 = .ok (.invokevirtual 82, 3) := by decide +kernel
theorem dX8_goes_17 : decode cX8_goes 17 = .ok (.iadd, 1) := by decide +kernel
theorem dX8_goes_18 : decode cX8_goes 18 = .ok (.istore_n 3, 1) := by decide +kernel
theorem dX8_goes_19 : decode cX8_goes 19 = .ok (.iload_n 3, 1) := by decide +kernel
theorem dX8_goes_20 : decode cX8_goes 20 = .ok (.bipush 20, 2) := by decide +kernel
theorem dX8_goes_22 : decode cX8_goes 22 = .ok (.if_icmp .lt 31, 3) := by decide +kernel
theorem dX8_goes_25 : decode cX8_goes 25 = .ok (.aload_n 0, 1) := by decide +kernel
theorem dX8_goes_26 : decode cX8_goes 26 = .ok (.iload_n 1, 1) := by decide +kernel
theorem dX8_goes_27 : decode cX8_goes 27 = .ok (.iconst 0, 1) := by decide +kernel
theorem dX8_goes_28 : decode cX8_goes 28 = .ok (.aload_n 0, 1) := by decide +kernel
theorem dX8_goes_29 : decode cX8_goes 29 = .ok (.getfield 7, 3) := by decide +kernel
theorem dX8_goes_32 : decode cX8_goes 32 = .ok (.iconst 0, 1) := by decide +kernel
theorem dX8_goes_33 : decode cX8_goes 33 = .ok (.iaload, 1) := by decide +kernel
theorem dX8_goes_34 : decode cX8_goes 34 = .ok (.invokevirtual 68, 3) := by decide +kernel
theorem dX8_goes_37 : decode cX8_goes 37 = .ok (.aload_n 0, 1) := by decide +kernel
theorem dX8_goes_38 : decode cX8_goes 38 = .ok (.getfield 7, 3) := by decide +kernel
theorem dX8_goes_41 : decode cX8_goes 41 = .ok (.bipush 10, 2) := by decide +kernel
theorem dX8_goes_43 : decode cX8_goes 43 = .ok (.dup2, 1) := by decide +kernel
theorem dX8_goes_44 : decode cX8_goes 44 = .ok (.iaload, 1) := by decide +kernel
theorem dX8_goes_45 : decode cX8_goes 45 = .ok (.aload_n 0, 1) := by decide +kernel
theorem dX8_goes_46 : decode cX8_goes 46 = .ok (.getfield 7, 3) := by decide +kernel
theorem dX8_goes_49 : decode cX8_goes 49 = .ok (.iconst 0, 1) := by decide +kernel
theorem dX8_goes_50 : decode cX8_goes 50 = .ok (.iaload, 1) := by decide +kernel
theorem dX8_goes_51 : decode cX8_goes 51 = .ok (.iadd, 1) := by decide +kernel
theorem dX8_goes_52 : decode cX8_goes 52 = .ok (.iastore, 1) := by decide +kernel
theorem dX8_goes_53 : decode cX8_goes 53 = .ok (.aload_n 0, 1) := by decide +kernel
theorem dX8_goes_54 : decode cX8_goes 54 = .ok (.getfield 7, 3) := by decide +kernel
theorem dX8_goes_57 : decode cX8_goes 57 = .ok (.bipush 51, 2) := by decide +kernel
theorem dX8_goes_59 : decode cX8_goes 59 = .ok (.bipush 6, 2) := by decide +kernel
theorem dX8_goes_61 : decode cX8_goes 61 = .ok (.iload_n 1, 1) := by decide +kernel
theorem dX8_goes_62 : decode cX8_goes 62 = .ok (.imul, 1) := by decide +kernel
theorem dX8_goes_63 : decode cX8_goes 63 = .ok (.iadd, 1) := by decide +kernel
theorem dX8_goes_64 : decode cX8_goes 64 = .ok (.iconst 1, 1) := by decide +kernel
theorem dX8_goes_65 : decode cX8_goes 65 = .ok (.iadd, 1) := by decide +kernel
theorem dX8_goes_66 : decode cX8_goes 66 = .ok (.iload_n 3, 1) := by decide +kernel
theorem dX8_goes_67 : decode cX8_goes 67 = .ok (.bipush 20, 2) := by decide +kernel
theorem dX8_goes_69 : decode cX8_goes 69 = .ok (.irem, 1) := by decide +kernel
theorem dX8_goes_70 : decode cX8_goes 70 = .ok (.iastore, 1) := by decide +kernel
theorem dX8_goes_71 : decode cX8_goes 71 = .ok (.return_, 1) := by decide +kernel
theorem dX8_canBeClaimed_0 : decode cX8_canBeClaimed 0 = .ok (.iload_n 1, 1) := by decide +kernel
theorem dX8_canBeClaimed_1 : decode cX8_canBeClaimed 1 = .ok (.invokestatic 57, 3) := by decide +kernel
theorem dX8_canBeClaimed_4 : decode cX8_canBeClaimed 4 = .ok (.iconst 1, 1) := by decide +kernel
theorem dX8_canBeClaimed_5 : decode cX8_canBeClaimed 5 = .ok (.if_icmp .ne 25, 3) := by decide +kernel
theorem dX8_canBeClaimed_8 : decode cX8_canBeClaimed 8 = .ok (.aload_n 0, 1) := by decide +kernel
theorem dX8_canBeClaimed_9 : decode cX8_canBeClaimed 9 = .ok (.getfield 7, 3) := by decide +kernel
theorem dX8_canBeClaimed_12 : decode cX8_canBeClaimed 12 = .ok (.bipush 11, 2) := by decide +kernel
theorem dX8_canBeClaimed_14 : decode cX8_canBeClaimed 14 = .ok (.iload_n 1, 1) := by decide +kernel
theorem dX8_canBeClaimed_15 : decode cX8_canBeClaimed 15 = .ok (.iadd, 1) := by decide +kernel
theorem dX8_canBeClaimed_16 : decode cX8_canBeClaimed 16 = .ok (.iaload, 1) := by decide +kernel
theorem dX8_canBeClaimed_17 : decode cX8_canBeClaimed 17 = .ok (.bipush (-6), 2) := by decide +kernel
theorem dX8_canBeClaimed_19 : decode cX8_canBeClaimed 19 = .ok (.if_icmp .ne 7, 3) := by decide +kernel
theorem dX8_canBeClaimed_22 : decode cX8_canBeClaimed 22 = .ok (.iconst 1, 1) := by decide +kernel
theorem dX8_canBeClaimed_23 : decode cX8_canBeClaimed 23 = .ok (.goto 34, 3) := by decide +kernel
theorem dX8_canBeClaimed_26 : decode cX8_canBeClaimed 26 = .ok (.iconst 0, 1) := by decide +kernel
theorem dX8_canBeClaimed_27 : decode cX8_canBeClaimed 27 = .ok (.goto 30, 3) := by decide +kernel
theorem dX8_canBeClaimed_30 : decode cX8_canBeClaimed 30 = .ok (.iload_n 1, 1) := by decide +kernel
theorem dX8_canBeClaimed_31 : decode cX8_canBeClaimed 31 = .ok (.invokestatic 57, 3) := by decide +kernel
theorem dX8_canBeClaimed_34 : decode cX8_canBeClaimed 34 = .ok (.iconst 2, 1) := by decide +kernel
theorem dX8_canBeClaimed_35 : decode cX8_canBeClaimed 35 = .ok (.if_icmp .ne 21, 3) := by decide +kernel
theorem dX8_canBeClaimed_38 : decode cX8_canBeClaimed 38 = .ok (.aload_n 0, 1) := by decide +kernel
theorem dX8_canBeClaimed_39 : decode cX8_canBeClaimed 39 = .ok (.getfield 7, 3) := by decide +kernel
theorem dX8_canBeClaimed_42 : decode cX8_canBeClaimed 42 = .ok (.bipush 31, 2) := by decide +kernel
theorem dX8_canBeClaimed_44 : decode cX8_canBeClaimed 44 = .ok (.iload_n 1, 1) := by decide +kernel
theorem dX8_canBeClaimed_45 : decode cX8_canBeClaimed 45 = .ok (.iadd, 1) := by decide +kernel
theorem dX8_canBeClaimed_46 : decode cX8_canBeClaimed 46 = .ok (.iaload, 1) := by decide +kernel
theorem dX8_canBeClaimed_47 : decode cX8_canBeClaimed 47 = .ok (.bipush (-6), 2) := by decide +kernel
theorem dX8_canBeClaimed_49 : decode cX8_canBeClaimed 49 = .ok (.if_icmp .ne 7, 3) := by decide +kernel
theorem dX8_canBeClaimed_52 : decode cX8_canBeClaimed 52 = .ok (.iconst 1, 1) := by decide +kernel
theorem dX8_canBeClaimed_53 : decode cX8_canBeClaimed 53 = .ok (.goto 4, 3) := by decide +kernel
theorem dX8_canBeClaimed_56 : decode cX8_canBeClaimed 56 = .ok (.iconst 0, 1) := by decide +kernel
theorem dX8_canBeClaimed_57 : decode cX8_canBeClaimed 57 = .ok (.ireturn, 1) := by decide +kernel
theorem dX8_claims_0 : decode cX8_claims 0 = .ok (.aload_n 0, 1) := by decide +kernel
theorem dX8_claims_1 : decode cX8_claims 1 = .ok (.invokevirtual 82, 3) := by decide +kernel
theorem dX8_claims_4 : decode cX8_claims 4 = .ok (.istore_n 3, 1) := by decide +kernel
theorem dX8_claims_5 : decode cX8_claims 5 = .ok (.iload_n 3, 1) := by decide +kernel
theorem dX8_claims_6 : decode cX8_claims 6 = .ok (.aload_n 0, 1) := by decide +kernel
theorem dX8_claims_7 : decode cX8_claims 7 = .ok (.getfield 7, 3) := by decide +kernel
theorem dX8_claims_10 : decode cX8_claims 10 = .ok (.iconst 3, 1) := by decide +kernel
theorem dX8_claims_11 : decode cX8_claims 11 = .ok (.iaload, 1) := by decide +kernel
theorem dX8_claims_12 : decode cX8_claims 12 = .ok (.if_icmp .lt 18, 3) := by decide +kernel
theorem dX8_claims_15 : decode cX8_claims 15 = .ok (.aload_n 0, 1) := by decide +kernel
theorem dX8_claims_16 : decode cX8_claims 16 = .ok (.iload_n 1, 1) := by decide +kernel
theorem dX8_claims_17 : decode cX8_claims 17 = .ok (.iconst 0, 1) := by decide +kernel
theorem dX8_claims_18 : decode cX8_claims 18 = .ok (.invokevirtual 54, 3) := by decide +kernel
theorem dX8_claims_21 : decode cX8_claims 21 = .ok (.aload_n 0, 1) := by decide +kernel
theorem dX8_claims_22 : decode cX8_claims 22 = .ok (.getfield 7, 3) := by decide +kernel
theorem dX8_claims_25 : decode cX8_claims 25 = .ok (.iconst 1, 1) := by decide +kernel
theorem dX8_claims_26 : decode cX8_claims 26 = .ok (.iaload, 1) := by decide +kernel
theorem dX8_claims_27 : decode cX8_claims 27 = .ok (.if_icmp .ge 4, 3) := by decide +kernel
theorem dX8_claims_30 : decode cX8_claims 30 = .ok (.return_, 1) := by decide +kernel
theorem dX8_claims_31 : decode cX8_claims 31 = .ok (.aload_n 0, 1) := by decide +kernel
theorem dX8_claims_32 : decode cX8_claims 32 = .ok (.iload_n 1, 1) := by decide +kernel
theorem dX8_claims_33 : decode cX8_claims 33 = .ok (.iconst 0, 1) := by decide +kernel
theorem dX8_claims_34 : decode cX8_claims 34 = .ok (.aload_n 0, 1) := by decide +kernel
theorem dX8_claims_35 : decode cX8_claims 35 = .ok (.getfield 7, 3) := by decide +kernel
theorem dX8_claims_38 : decode cX8_claims 38 = .ok (.iconst 1, 1) := by decide +kernel
theorem dX8_claims_39 : decode cX8_claims 39 = .ok (.iaload, 1) := by decide +kernel
theorem dX8_claims_40 : decode cX8_claims 40 = .ok (.ineg, 1) := by decide +kernel
theorem dX8_claims_41 : decode cX8_claims 41 = .ok (.invokevirtual 68, 3) := by decide +kernel
theorem dX8_claims_44 : decode cX8_claims 44 = .ok (.aload_n 0, 1) := by decide +kernel
theorem dX8_claims_45 : decode cX8_claims 45 = .ok (.getfield 7, 3) := by decide +kernel
theorem dX8_claims_48 : decode cX8_claims 48 = .ok (.bipush 11, 2) := by decide +kernel
theorem dX8_claims_50 : decode cX8_claims 50 = .ok (.iload_n 2, 1) := by decide +kernel
theorem dX8_claims_51 : decode cX8_claims 51 = .ok (.iadd, 1) := by decide +kernel
theorem dX8_claims_52 : decode cX8_claims 52 = .ok (.iaload, 1) := by decide +kernel
theorem dX8_claims_53 : decode cX8_claims 53 = .ok (.bipush (-6), 2) := by decide +kernel
theorem dX8_claims_55 : decode cX8_claims 55 = .ok (.if_icmp .ne 32, 3) := by decide +kernel
theorem dX8_claims_58 : decode cX8_claims 58 = .ok (.aload_n 0, 1) := by decide +kernel
theorem dX8_claims_59 : decode cX8_claims 59 = .ok (.getfield 7, 3) := by decide +kernel
theorem dX8_claims_62 : decode cX8_claims 62 = .ok (.bipush 11, 2) := by decide +kernel
theorem dX8_claims_64 : decode cX8_claims 64 = .ok (.iload_n 2, 1) := by decide +kernel
theorem dX8_claims_65 : decode cX8_claims 65 = .ok (.iadd, 1) := by decide +kernel
theorem dX8_claims_66 : decode cX8_claims 66 = .ok (.iload_n 1, 1) := by decide +kernel
theorem dX8_claims_67 : decode cX8_claims 67 = .ok (.iastore, 1) := by decide +kernel
theorem dX8_claims_68 : decode cX8_claims 68 = .ok (.aload_n 0, 1) := by decide +kernel
theorem dX8_claims_69 : decode cX8_claims 69 = .ok (.getfield 7, 3) := by decide +kernel
theorem dX8_claims_72 : decode cX8_claims 72 = .ok (.bipush 9, 2) := by decide +kernel
theorem dX8_claims_74 : decode cX8_claims 74 = .ok (.dup2, 1) := by decide +kernel
theorem dX8_claims_75 : decode cX8_claims 75 = .ok (.iaload, 1) := by decide +kernel
theorem dX8_claims_76 : decode cX8_claims 76 = .ok (.aload_n 0, 1) := by decide +kernel
theorem dX8_claims_77 : decode cX8_claims 77 = .ok (.getfield 7, 3) := by decide +kernel
theorem dX8_claims_80 : decode cX8_claims 80 = .ok (.iconst 1, 1) := by decide +kernel
theorem dX8_claims_81 : decode cX8_claims 81 = .ok (.iaload, 1) := by decide +kernel
theorem dX8_claims_82 : decode cX8_claims 82 = .ok (.iadd, 1) := by decide +kernel
theorem dX8_claims_83 : decode cX8_claims 83 = .ok (.iastore, 1) := by decide +kernel
theorem dX8_claims_84 : decode cX8_claims 84 = .ok (.goto 33, 3) := by decide +kernel
theorem dX8_claims_87 : decode cX8_claims 87 = .ok (.aload_n 0, 1) := by decide +kernel
theorem dX8_claims_88 : decode cX8_claims 88 = .ok (.getfield 7, 3) := by decide +kernel
theorem dX8_claims_91 : decode cX8_claims 91 = .ok (.bipush 31, 2) := by decide +kernel
theorem dX8_claims_93 : decode cX8_claims 93 = .ok (.iload_n 2, 1) := by decide +kernel
theorem dX8_claims_94 : decode cX8_claims 94 = .ok (.iadd, 1) := by decide +kernel
theorem dX8_claims_95 : decode cX8_claims 95 = .ok (.iload_n 1, 1) := by decide +kernel
theorem dX8_claims_96 : decode cX8_claims 96 = .ok (.iastore, 1) := by decide +kernel
theorem dX8_claims_97 : decode cX8_claims 97 = .ok (.aload_n 0, 1) := by decide +kernel
theorem dX8_claims_98 : decode cX8_claims 98 = .ok (.aload_n 0, 1) := by decide +kernel
theorem dX8_claims_99 : decode cX8_claims 99 = .ok (.getfield 7, 3) := by decide +kernel
theorem dX8_claims_102 : decode cX8_claims 102 = .ok (.bipush 11, 2) := by decide +kernel
theorem dX8_claims_104 : decode cX8_claims 104 = .ok (.iload_n 2, 1) := by decide +kernel
theorem dX8_claims_105 : decode cX8_claims 105 = .ok (.iadd, 1) := by decide +kernel
theorem dX8_claims_106 : decode cX8_claims 106 = .ok (.iaload, 1) := by decide +kernel
theorem dX8_claims_107 : decode cX8_claims 107 = .ok (.iconst 0, 1) := by decide +kernel
theorem dX8_claims_108 : decode cX8_claims 108 = .ok (.aload_n 0, 1) := by decide +kernel
theorem dX8_claims_109 : decode cX8_claims 109 = .ok (.getfield 7, 3) := by decide +kernel
theorem dX8_claims_112 : decode cX8_claims 112 = .ok (.iconst 1, 1) := by decide +kernel
theorem dX8_claims_113 : decode cX8_claims 113 = .ok (.iaload, 1) := by decide +kernel
theorem dX8_claims_114 : decode cX8_claims 114 = .ok (.invokevirtual 68, 3) := by decide +kernel
theorem dX8_claims_117 : decode cX8_claims 117 = .ok (.return_, 1) := by decide +kernel
theorem dX8_paysToll_0 : decode cX8_paysToll 0 = .ok (.aload_n 0, 1) := by decide +kernel
theorem dX8_paysToll_1 : decode cX8_paysToll 1 = .ok (.iload_n 1, 1) := by decide +kernel
theorem dX8_paysToll_2 : decode cX8_paysToll 2 = .ok (.iload_n 2, 1) := by decide +kernel
theorem dX8_paysToll_3 : decode cX8_paysToll 3 = .ok (.iload_n 3, 1) := by decide +kernel
theorem dX8_paysToll_4 : decode cX8_paysToll 4 = .ok (.invokevirtual 75, 3) := by decide +kernel
theorem dX8_paysToll_7 : decode cX8_paysToll 7 = .ok (.istore 4, 2) := by decide +kernel
theorem dX8_paysToll_9 : decode cX8_paysToll 9 = .ok (.iload 4, 2) := by decide +kernel
theorem dX8_paysToll_11 : decode cX8_paysToll 11 = .ok (.iload_n 3, 1) := by decide +kernel
theorem dX8_paysToll_12 : decode cX8_paysToll 12 = .ok (.if_icmp .ge 13, 3) := by decide +kernel
theorem dX8_paysToll_15 : decode cX8_paysToll 15 = .ok (.aload_n 0, 1) := by decide +kernel
theorem dX8_paysToll_16 : decode cX8_paysToll 16 = .ok (.iload_n 1, 1) := by decide +kernel
theorem dX8_paysToll_17 : decode cX8_paysToll 17 = .ok (.iload_n 2, 1) := by decide +kernel
theorem dX8_paysToll_18 : decode cX8_paysToll 18 = .ok (.iload_n 3, 1) := by decide +kernel
theorem dX8_paysToll_19 : decode cX8_paysToll 19 = .ok (.iload 4, 2) := by decide +kernel
theorem dX8_paysToll_21 : decode cX8_paysToll 21 = .ok (.isub, 1) := by decide +kernel
theorem dX8_paysToll_22 : decode cX8_paysToll 22 = .ok (.invokevirtual 79, 3) := by decide +kernel
theorem dX8_paysToll_25 : decode cX8_paysToll 25 = .ok (.return_, 1) := by decide +kernel
theorem dX8_arrives_0 : decode cX8_arrives 0 = .ok (.aload_n 0, 1) := by decide +kernel
theorem dX8_arrives_1 : decode cX8_arrives 1 = .ok (.iload_n 1, 1) := by decide +kernel
theorem dX8_arrives_2 : decode cX8_arrives 2 = .ok (.iload_n 2, 1) := by decide +kernel
theorem dX8_arrives_3 : decode cX8_arrives 3 = .ok (.invokevirtual 50, 3) := by decide +kernel
theorem dX8_arrives_6 : decode cX8_arrives 6 = .ok (.ifCond .ne 17, 3) := by decide +kernel
theorem dX8_arrives_9 : decode cX8_arrives 9 = .ok (.aload_n 0, 1) := by decide +kernel
theorem dX8_arrives_10 : decode cX8_arrives 10 = .ok (.iload_n 2, 1) := by decide +kernel
theorem dX8_arrives_11 : decode cX8_arrives 11 = .ok (.invokevirtual 86, 3) := by decide +kernel
theorem dX8_arrives_14 : decode cX8_arrives 14 = .ok (.ifCond .eq 9, 3) := by decide +kernel
theorem dX8_arrives_17 : decode cX8_arrives 17 = .ok (.aload_n 0, 1) := by decide +kernel
theorem dX8_arrives_18 : decode cX8_arrives 18 = .ok (.iload_n 1, 1) := by decide +kernel
theorem dX8_arrives_19 : decode cX8_arrives 19 = .ok (.iload_n 2, 1) := by decide +kernel
theorem dX8_arrives_20 : decode cX8_arrives 20 = .ok (.invokevirtual 90, 3) := by decide +kernel
theorem dX8_arrives_23 : decode cX8_arrives 23 = .ok (.aload_n 0, 1) := by decide +kernel
theorem dX8_arrives_24 : decode cX8_arrives 24 = .ok (.iload_n 1, 1) := by decide +kernel
theorem dX8_arrives_25 : decode cX8_arrives 25 = .ok (.iload_n 2, 1) := by decide +kernel
theorem dX8_arrives_26 : decode cX8_arrives 26 = .ok (.invokevirtual 50, 3) := by decide +kernel
theorem dX8_arrives_29 : decode cX8_arrives 29 = .ok (.ifCond .ne 94, 3) := by decide +kernel
theorem dX8_arrives_32 : decode cX8_arrives 32 = .ok (.aload_n 0, 1) := by decide +kernel
theorem dX8_arrives_33 : decode cX8_arrives 33 = .ok (.getfield 7, 3) := by decide +kernel
theorem dX8_arrives_36 : decode cX8_arrives 36 = .ok (.bipush 11, 2) := by decide +kernel
theorem dX8_arrives_38 : decode cX8_arrives 38 = .ok (.iload_n 2, 1) := by decide +kernel
theorem dX8_arrives_39 : decode cX8_arrives 39 = .ok (.iadd, 1) := by decide +kernel
theorem dX8_arrives_40 : decode cX8_arrives 40 = .ok (.iaload, 1) := by decide +kernel
theorem dX8_arrives_41 : decode cX8_arrives 41 = .ok (.bipush (-6), 2) := by decide +kernel
theorem dX8_arrives_43 : decode cX8_arrives 43 = .ok (.if_icmp .eq 80, 3) := by decide +kernel
theorem dX8_arrives_46 : decode cX8_arrives 46 = .ok (.aload_n 0, 1) := by decide +kernel
theorem dX8_arrives_47 : decode cX8_arrives 47 = .ok (.iload_n 2, 1) := by decide +kernel
theorem dX8_arrives_48 : decode cX8_arrives 48 = .ok (.invokevirtual 94, 3) := by decide +kernel
theorem dX8_arrives_51 : decode cX8_arrives 51 = .ok (.istore_n 3, 1) := by decide +kernel
theorem dX8_arrives_52 : decode cX8_arrives 52 = .ok (.aload_n 0, 1) := by decide +kernel
theorem dX8_arrives_53 : decode cX8_arrives 53 = .ok (.getfield 7, 3) := by decide +kernel
theorem dX8_arrives_56 : decode cX8_arrives 56 = .ok (.bipush 31, 2) := by decide +kernel
theorem dX8_arrives_58 : decode cX8_arrives 58 = .ok (.iload_n 2, 1) := by decide +kernel
theorem dX8_arrives_59 : decode cX8_arrives 59 = .ok (.iadd, 1) := by decide +kernel
theorem dX8_arrives_60 : decode cX8_arrives 60 = .ok (.iaload, 1) := by decide +kernel
theorem dX8_arrives_61 : decode cX8_arrives 61 = .ok (.bipush (-6), 2) := by decide +kernel
theorem dX8_arrives_63 : decode cX8_arrives 63 = .ok (.if_icmp .ne 7, 3) := by decide +kernel
theorem dX8_arrives_66 : decode cX8_arrives 66 = .ok (.iconst 0, 1) := by decide +kernel
theorem dX8_arrives_67 : decode cX8_arrives 67 = .ok (.goto 6, 3) := by decide +kernel
theorem dX8_arrives_70 : decode cX8_arrives 70 = .ok (.iload_n 3, 1) := by decide +kernel
theorem dX8_arrives_71 : decode cX8_arrives 71 = .ok (.iconst 2, 1) := by decide +kernel
theorem dX8_arrives_72 : decode cX8_arrives 72 = .ok (.idiv, 1) := by decide +kernel
theorem dX8_arrives_73 : decode cX8_arrives 73 = .ok (.istore 4, 2) := by decide +kernel
theorem dX8_arrives_75 : decode cX8_arrives 75 = .ok (.aload_n 0, 1) := by decide +kernel
theorem dX8_arrives_76 : decode cX8_arrives 76 = .ok (.iload_n 1, 1) := by decide +kernel
theorem dX8_arrives_77 : decode cX8_arrives 77 = .ok (.aload_n 0, 1) := by decide +kernel
theorem dX8_arrives_78 : decode cX8_arrives 78 = .ok (.getfield 7, 3) := by decide +kernel
theorem dX8_arrives_81 : decode cX8_arrives 81 = .ok (.bipush 11, 2) := by decide +kernel
theorem dX8_arrives_83 : decode cX8_arrives 83 = .ok (.iload_n 2, 1) := by decide +kernel
theorem dX8_arrives_84 : decode cX8_arrives 84 = .ok (.iadd, 1) := by decide +kernel
theorem dX8_arrives_85 : decode cX8_arrives 85 = .ok (.iaload, 1) := by decide +kernel
theorem dX8_arrives_86 : decode cX8_arrives 86 = .ok (.iload_n 3, 1) := by decide +kernel
theorem dX8_arrives_87 : decode cX8_arrives 87 = .ok (.iload 4, 2) := by decide +kernel
theorem dX8_arrives_89 : decode cX8_arrives 89 = .ok (.isub, 1) := by decide +kernel
theorem dX8_arrives_90 : decode cX8_arrives 90 = .ok (.invokevirtual 97, 3) := by decide +kernel
theorem dX8_arrives_93 : decode cX8_arrives 93 = .ok (.aload_n 0, 1) := by decide +kernel
theorem dX8_arrives_94 : decode cX8_arrives 94 = .ok (.getfield 7, 3) := by decide +kernel
theorem dX8_arrives_97 : decode cX8_arrives 97 = .ok (.bipush 31, 2) := by decide +kernel
theorem dX8_arrives_99 : decode cX8_arrives 99 = .ok (.iload_n 2, 1) := by decide +kernel
theorem dX8_arrives_100 : decode cX8_arrives 100 = .ok (.iadd, 1) := by decide +kernel
theorem dX8_arrives_101 : decode cX8_arrives 101 = .ok (.iaload, 1) := by decide +kernel
theorem dX8_arrives_102 : decode cX8_arrives 102 = .ok (.bipush (-6), 2) := by decide +kernel
theorem dX8_arrives_104 : decode cX8_arrives 104 = .ok (.if_icmp .eq 19, 3) := by decide +kernel
theorem dX8_arrives_107 : decode cX8_arrives 107 = .ok (.aload_n 0, 1) := by decide +kernel
theorem dX8_arrives_108 : decode cX8_arrives 108 = .ok (.iload_n 1, 1) := by decide +kernel
theorem dX8_arrives_109 : decode cX8_arrives 109 = .ok (.aload_n 0, 1) := by decide +kernel
theorem dX8_arrives_110 : decode cX8_arrives 110 = .ok (.getfield 7, 3) := by decide +kernel
theorem dX8_arrives_113 : decode cX8_arrives 113 = .ok (.bipush 31, 2) := by decide +kernel
theorem dX8_arrives_115 : decode cX8_arrives 115 = .ok (.iload_n 2, 1) := by decide +kernel
theorem dX8_arrives_116 : decode cX8_arrives 116 = .ok (.iadd, 1) := by decide +kernel
theorem dX8_arrives_117 : decode cX8_arrives 117 = .ok (.iaload, 1) := by decide +kernel
theorem dX8_arrives_118 : decode cX8_arrives 118 = .ok (.iload 4, 2) := by decide +kernel
theorem dX8_arrives_120 : decode cX8_arrives 120 = .ok (.invokevirtual 97, 3) := by decide +kernel
theorem dX8_arrives_123 : decode cX8_arrives 123 = .ok (.return_, 1) := by decide +kernel
theorem dX8_hands_0 : decode cX8_hands 0 = .ok (.aload_n 0, 1) := by decide +kernel
theorem dX8_hands_1 : decode cX8_hands 1 = .ok (.getfield 7, 3) := by decide +kernel
theorem dX8_hands_4 : decode cX8_hands 4 = .ok (.bipush 11, 2) := by decide +kernel
theorem dX8_hands_6 : decode cX8_hands 6 = .ok (.iload_n 2, 1) := by decide +kernel
theorem dX8_hands_7 : decode cX8_hands 7 = .ok (.iadd, 1) := by decide +kernel
theorem dX8_hands_8 : decode cX8_hands 8 = .ok (.iaload, 1) := by decide +kernel
theorem dX8_hands_9 : decode cX8_hands 9 = .ok (.iload_n 1, 1) := by decide +kernel
theorem dX8_hands_10 : decode cX8_hands 10 = .ok (.if_icmp .ne 52, 3) := by decide +kernel
theorem dX8_hands_13 : decode cX8_hands 13 = .ok (.aload_n 0, 1) := by decide +kernel
theorem dX8_hands_14 : decode cX8_hands 14 = .ok (.getfield 7, 3) := by decide +kernel
theorem dX8_hands_17 : decode cX8_hands 17 = .ok (.bipush 11, 2) := by decide +kernel
theorem dX8_hands_19 : decode cX8_hands 19 = .ok (.iload_n 2, 1) := by decide +kernel
theorem dX8_hands_20 : decode cX8_hands 20 = .ok (.iadd, 1) := by decide +kernel
theorem dX8_hands_21 : decode cX8_hands 21 = .ok (.iload_n 3, 1) := by decide +kernel
theorem dX8_hands_22 : decode cX8_hands 22 = .ok (.iastore, 1) := by decide +kernel
theorem dX8_hands_23 : decode cX8_hands 23 = .ok (.aload_n 0, 1) := by decide +kernel
theorem dX8_hands_24 : decode cX8_hands 24 = .ok (.getfield 7, 3) := by decide +kernel
theorem dX8_hands_27 : decode cX8_hands 27 = .ok (.bipush 31, 2) := by decide +kernel
theorem dX8_hands_29 : decode cX8_hands 29 = .ok (.iload_n 2, 1) := by decide +kernel
theorem dX8_hands_30 : decode cX8_hands 30 = .ok (.iadd, 1) := by decide +kernel
theorem dX8_hands_31 : decode cX8_hands 31 = .ok (.aload_n 0, 1) := by decide +kernel
theorem dX8_hands_32 : decode cX8_hands 32 = .ok (.getfield 7, 3) := by decide +kernel
theorem dX8_hands_35 : decode cX8_hands 35 = .ok (.bipush 31, 2) := by decide +kernel
theorem dX8_hands_37 : decode cX8_hands 37 = .ok (.iload_n 2, 1) := by decide +kernel
theorem dX8_hands_38 : decode cX8_hands 38 = .ok (.iadd, 1) := by decide +kernel
theorem dX8_hands_39 : decode cX8_hands 39 = .ok (.iaload, 1) := by decide +kernel
theorem dX8_hands_40 : decode cX8_hands 40 = .ok (.iload_n 3, 1) := by decide +kernel
theorem dX8_hands_41 : decode cX8_hands 41 = .ok (.if_icmp .ne 8, 3) := by decide +kernel
theorem dX8_hands_44 : decode cX8_hands 44 = .ok (.bipush (-6), 2) := by decide +kernel
theorem dX8_hands_46 : decode cX8_hands 46 = .ok (.goto 12, 3) := by decide +kernel
theorem dX8_hands_49 : decode cX8_hands 49 = .ok (.aload_n 0, 1) := by decide +kernel
theorem dX8_hands_50 : decode cX8_hands 50 = .ok (.getfield 7, 3) := by decide +kernel
theorem dX8_hands_53 : decode cX8_hands 53 = .ok (.bipush 31, 2) := by decide +kernel
theorem dX8_hands_55 : decode cX8_hands 55 = .ok (.iload_n 2, 1) := by decide +kernel
theorem dX8_hands_56 : decode cX8_hands 56 = .ok (.iadd, 1) := by decide +kernel
theorem dX8_hands_57 : decode cX8_hands 57 = .ok (.iaload, 1) := by decide +kernel
theorem dX8_hands_58 : decode cX8_hands 58 = .ok (.iastore, 1) := by decide +kernel
theorem dX8_hands_59 : decode cX8_hands 59 = .ok (.goto 31, 3) := by decide +kernel
theorem dX8_hands_62 : decode cX8_hands 62 = .ok (.aload_n 0, 1) := by decide +kernel
theorem dX8_hands_63 : decode cX8_hands 63 = .ok (.getfield 7, 3) := by decide +kernel
theorem dX8_hands_66 : decode cX8_hands 66 = .ok (.bipush 31, 2) := by decide +kernel
theorem dX8_hands_68 : decode cX8_hands 68 = .ok (.iload_n 2, 1) := by decide +kernel
theorem dX8_hands_69 : decode cX8_hands 69 = .ok (.iadd, 1) := by decide +kernel
theorem dX8_hands_70 : decode cX8_hands 70 = .ok (.aload_n 0, 1) := by decide +kernel
theorem dX8_hands_71 : decode cX8_hands 71 = .ok (.getfield 7, 3) := by decide +kernel
theorem dX8_hands_74 : decode cX8_hands 74 = .ok (.bipush 11, 2) := by decide +kernel
theorem dX8_hands_76 : decode cX8_hands 76 = .ok (.iload_n 2, 1) := by decide +kernel
theorem dX8_hands_77 : decode cX8_hands 77 = .ok (.iadd, 1) := by decide +kernel
theorem dX8_hands_78 : decode cX8_hands 78 = .ok (.iaload, 1) := by decide +kernel
theorem dX8_hands_79 : decode cX8_hands 79 = .ok (.iload_n 3, 1) := by decide +kernel
theorem dX8_hands_80 : decode cX8_hands 80 = .ok (.if_icmp .ne 8, 3) := by decide +kernel
theorem dX8_hands_83 : decode cX8_hands 83 = .ok (.bipush (-6), 2) := by decide +kernel
theorem dX8_hands_85 : decode cX8_hands 85 = .ok (.goto 4, 3) := by decide +kernel
theorem dX8_hands_88 : decode cX8_hands 88 = .ok (.iload_n 3, 1) := by decide +kernel
theorem dX8_hands_89 : decode cX8_hands 89 = .ok (.iastore, 1) := by decide +kernel
theorem dX8_hands_90 : decode cX8_hands 90 = .ok (.return_, 1) := by decide +kernel
theorem dX8_growsOlder_0 : decode cX8_growsOlder 0 = .ok (.iconst 0, 1) := by decide +kernel
theorem dX8_growsOlder_1 : decode cX8_growsOlder 1 = .ok (.istore_n 2, 1) := by decide +kernel
theorem dX8_growsOlder_2 : decode cX8_growsOlder 2 = .ok (.iload_n 2, 1) := by decide +kernel
theorem dX8_growsOlder_3 : decode cX8_growsOlder 3 = .ok (.aload_n 0, 1) := by decide +kernel
theorem dX8_growsOlder_4 : decode cX8_growsOlder 4 = .ok (.getfield 7, 3) := by decide +kernel
theorem dX8_growsOlder_7 : decode cX8_growsOlder 7 = .ok (.bipush 6, 2) := by decide +kernel
theorem dX8_growsOlder_9 : decode cX8_growsOlder 9 = .ok (.iaload, 1) := by decide +kernel
theorem dX8_growsOlder_10 : decode cX8_growsOlder 10 = .ok (.if_icmp .ge 39, 3) := by decide +kernel
theorem dX8_growsOlder_13 : decode cX8_growsOlder 13 = .ok (.aload_n 0, 1) := by decide +kernel
theorem dX8_growsOlder_14 : decode cX8_growsOlder 14 = .ok (.getfield 7, 3) := by decide +kernel
theorem dX8_growsOlder_17 : decode cX8_growsOlder 17 = .ok (.bipush 91, 2) := by decide +kernel
theorem dX8_growsOlder_19 : decode cX8_growsOlder 19 = .ok (.iconst 4, 1) := by decide +kernel
theorem dX8_growsOlder_20 : decode cX8_growsOlder 20 = .ok (.iload_n 1, 1) := by decide +kernel
theorem dX8_growsOlder_21 : decode cX8_growsOlder 21 = .ok (.imul, 1) := by decide +kernel
