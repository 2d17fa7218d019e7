theorem dX8_emptyIn_67 : decode cX8_emptyIn 67 = .ok (.aload_n 0, 1) := by decide +kernel
theorem dX8_emptyIn_68 : decode cX8_emptyIn 68 = .ok (.getfield 13, 3) := by decide +kernel
theorem dX8_emptyIn_71 : decode cX8_emptyIn 71 = .ok (.iconst 0, 1) := by decide +kernel
theorem dX8_emptyIn_72 : decode cX8_emptyIn 72 = .ok (.aload_n 0, 1) := by decide +kernel
theorem dX8_emptyIn_73 : decode cX8_emptyIn 73 = .ok (.getfield 7, 3) := by decide +kernel
theorem dX8_emptyIn_76 : decode cX8_emptyIn 76 = .ok (.iconst 0, 1) := by decide +kernel
theorem dX8_emptyIn_77 : decode cX8_emptyIn 77 = .ok (.invokestatic 38, 3) := by decide +kernel
theorem dX8_emptyIn_80 : decode cX8_emptyIn 80 = .ok (.iload_n 3, 1) := by decide +kernel
theorem dX8_emptyIn_81 : decode cX8_emptyIn 81 = .ok (.ireturn, 1) := by decide +kernel
theorem dX8_purseIn_0 : decode cX8_purseIn 0 = .ok (.aload_n 0, 1) := by decide +kernel
theorem dX8_purseIn_1 : decode cX8_purseIn 1 = .ok (.iload_n 1, 1) := by decide +kernel
theorem dX8_purseIn_2 : decode cX8_purseIn 2 = .ok (.invokevirtual 156, 3) := by decide +kernel
theorem dX8_purseIn_5 : decode cX8_purseIn 5 = .ok (.ifCond .ne 5, 3) := by decide +kernel
theorem dX8_purseIn_8 : decode cX8_purseIn 8 = .ok (.iconst (-1), 1) := by decide +kernel
theorem dX8_purseIn_9 : decode cX8_purseIn 9 = .ok (.ireturn, 1) := by decide +kernel
theorem dX8_purseIn_10 : decode cX8_purseIn 10 = .ok (.iload_n 2, 1) := by decide +kernel
theorem dX8_purseIn_11 : decode cX8_purseIn 11 = .ok (.iconst 1, 1) := by decide +kernel
theorem dX8_purseIn_12 : decode cX8_purseIn 12 = .ok (.bipush 99, 2) := by decide +kernel
theorem dX8_purseIn_14 : decode cX8_purseIn 14 = .ok (.invokestatic 42, 3) := by decide +kernel
theorem dX8_purseIn_17 : decode cX8_purseIn 17 = .ok (.ifCond .ne 6, 3) := by decide +kernel
theorem dX8_purseIn_20 : decode cX8_purseIn 20 = .ok (.bipush (-2), 2) := by decide +kernel
theorem dX8_purseIn_22 : decode cX8_purseIn 22 = .ok (.ireturn, 1) := by decide +kernel
theorem dX8_purseIn_23 : decode cX8_purseIn 23 = .ok (.aload_n 0, 1) := by decide +kernel
theorem dX8_purseIn_24 : decode cX8_purseIn 24 = .ok (.getfield 7, 3) := by decide +kernel
theorem dX8_purseIn_27 : decode cX8_purseIn 27 = .ok (.iconst 0, 1) := by decide +kernel
theorem dX8_purseIn_28 : decode cX8_purseIn 28 = .ok (.aload_n 0, 1) := by decide +kernel
theorem dX8_purseIn_29 : decode cX8_purseIn 29 = .ok (.getfield 13, 3) := by decide +kernel
theorem dX8_purseIn_32 : decode cX8_purseIn 32 = .ok (.iconst 0, 1) := by decide +kernel
theorem dX8_purseIn_33 : decode cX8_purseIn 33 = .ok (.invokestatic 38, 3) := by decide +kernel
theorem dX8_purseIn_36 : decode cX8_purseIn 36 = .ok (.aload_n 0, 1) := by decide +kernel
theorem dX8_purseIn_37 : decode cX8_purseIn 37 = .ok (.iload_n 2, 1) := by decide +kernel
theorem dX8_purseIn_38 : decode cX8_purseIn 38 = .ok (.invokevirtual 140, 3) := by decide +kernel
theorem dX8_purseIn_41 : decode cX8_purseIn 41 = .ok (.pop, 1) := by decide +kernel
theorem dX8_purseIn_42 : decode cX8_purseIn 42 = .ok (.aload_n 0, 1) := by decide +kernel
theorem dX8_purseIn_43 : decode cX8_purseIn 43 = .ok (.iload_n 1, 1) := by decide +kernel
theorem dX8_purseIn_44 : decode cX8_purseIn 44 = .ok (.iconst 0, 1) := by decide +kernel
theorem dX8_purseIn_45 : decode cX8_purseIn 45 = .ok (.invokevirtual 54, 3) := by decide +kernel
theorem dX8_purseIn_48 : decode cX8_purseIn 48 = .ok (.istore_n 3, 1) := by decide +kernel
theorem dX8_purseIn_49 : decode cX8_purseIn 49 = .ok (.aload_n 0, 1) := by decide +kernel
theorem dX8_purseIn_50 : decode cX8_purseIn 50 = .ok (.getfield 13, 3) := by decide +kernel
theorem dX8_purseIn_53 : decode cX8_purseIn 53 = .ok (.iconst 0, 1) := by decide +kernel
theorem dX8_purseIn_54 : decode cX8_purseIn 54 = .ok (.aload_n 0, 1) := by decide +kernel
theorem dX8_purseIn_55 : decode cX8_purseIn 55 = .ok (.getfield 7, 3) := by decide +kernel
theorem dX8_purseIn_58 : decode cX8_purseIn 58 = .ok (.iconst 0, 1) := by decide +kernel
theorem dX8_purseIn_59 : decode cX8_purseIn 59 = .ok (.invokestatic 38, 3) := by decide +kernel
theorem dX8_purseIn_62 : decode cX8_purseIn 62 = .ok (.iload_n 3, 1) := by decide +kernel
theorem dX8_purseIn_63 : decode cX8_purseIn 63 = .ok (.ireturn, 1) := by decide +kernel
theorem dX8_bestSeed_0 : decode cX8_bestSeed 0 = .ok (.aload_n 0, 1) := by decide +kernel
theorem dX8_bestSeed_1 : decode cX8_bestSeed 1 = .ok (.iload_n 1, 1) := by decide +kernel
theorem dX8_bestSeed_2 : decode cX8_bestSeed 2 = .ok (.invokevirtual 156, 3) := by decide +kernel
theorem dX8_bestSeed_5 : decode cX8_bestSeed 5 = .ok (.ifCond .ne 5, 3) := by decide +kernel
theorem dX8_bestSeed_8 : decode cX8_bestSeed 8 = .ok (.iconst (-1), 1) := by decide +kernel
theorem dX8_bestSeed_9 : decode cX8_bestSeed 9 = .ok (.ireturn, 1) := by decide +kernel
theorem dX8_bestSeed_10 : decode cX8_bestSeed 10 = .ok (.iload_n 2, 1) := by decide +kernel
theorem dX8_bestSeed_11 : decode cX8_bestSeed 11 = .ok (.iconst 1, 1) := by decide +kernel
theorem dX8_bestSeed_12 : decode cX8_bestSeed 12 = .ok (.bipush 60, 2) := by decide +kernel
theorem dX8_bestSeed_14 : decode cX8_bestSeed 14 = .ok (.invokestatic 42, 3) := by decide +kernel
theorem dX8_bestSeed_17 : decode cX8_bestSeed 17 = .ok (.ifCond .ne 6, 3) := by decide +kernel
theorem dX8_bestSeed_20 : decode cX8_bestSeed 20 = .ok (.bipush (-2), 2) := by decide +kernel
theorem dX8_bestSeed_22 : decode cX8_bestSeed 22 = .ok (.ireturn, 1) := by decide +kernel
theorem dX8_bestSeed_23 : decode cX8_bestSeed 23 = .ok (.aload_n 0, 1) := by decide +kernel
theorem dX8_bestSeed_24 : decode cX8_bestSeed 24 = .ok (.getfield 7, 3) := by decide +kernel
theorem dX8_bestSeed_27 : decode cX8_bestSeed 27 = .ok (.iconst 0, 1) := by decide +kernel
theorem dX8_bestSeed_28 : decode cX8_bestSeed 28 = .ok (.aload_n 0, 1) := by decide +kernel
theorem dX8_bestSeed_29 : decode cX8_bestSeed 29 = .ok (.getfield 13, 3) := by decide +kernel
theorem dX8_bestSeed_32 : decode cX8_bestSeed 32 = .ok (.iconst 0, 1) := by decide +kernel
theorem dX8_bestSeed_33 : decode cX8_bestSeed 33 = .ok (.invokestatic 38, 3) := by decide +kernel
theorem dX8_bestSeed_36 : decode cX8_bestSeed 36 = .ok (.bipush (-6), 2) := by decide +kernel
theorem dX8_bestSeed_38 : decode cX8_bestSeed 38 = .ok (.istore_n 3, 1) := by decide +kernel
theorem dX8_bestSeed_39 : decode cX8_bestSeed 39 = .ok (.iconst 0, 1) := by decide +kernel
theorem dX8_bestSeed_40 : decode cX8_bestSeed 40 = .ok (.istore 4, 2) := by decide +kernel
theorem dX8_bestSeed_42 : decode cX8_bestSeed 42 = .ok (.iconst 0, 1) := by decide +kernel
theorem dX8_bestSeed_43 : decode cX8_bestSeed 43 = .ok (.istore 5, 2) := by decide +kernel
theorem dX8_bestSeed_45 : decode cX8_bestSeed 45 = .ok (.iload 5, 2) := by decide +kernel
theorem dX8_bestSeed_47 : decode cX8_bestSeed 47 = .ok (.bipush 50, 2) := by decide +kernel
theorem dX8_bestSeed_49 : decode cX8_bestSeed 49 = .ok (.if_icmp .ge 103, 3) := by decide +kernel
theorem dX8_bestSeed_52 : decode cX8_bestSeed 52 = .ok (.aload_n 0, 1) := by decide +kernel
theorem dX8_bestSeed_53 : decode cX8_bestSeed 53 = .ok (.getfield 7, 3) := by decide +kernel
theorem dX8_bestSeed_56 : decode cX8_bestSeed 56 = .ok (.bipush 8, 2) := by decide +kernel
theorem dX8_bestSeed_58 : decode cX8_bestSeed 58 = .ok (.iload 5, 2) := by decide +kernel
theorem dX8_bestSeed_60 : decode cX8_bestSeed 60 = .ok (.iastore, 1) := by decide +kernel
theorem dX8_bestSeed_61 : decode cX8_bestSeed 61 = .ok (.aload_n 0, 1) := by decide +kernel
theorem dX8_bestSeed_62 : decode cX8_bestSeed 62 = .ok (.iload_n 2, 1) := by decide +kernel
theorem dX8_bestSeed_63 : decode cX8_bestSeed 63 = .ok (.invokevirtual 140, 3) := by decide +kernel
theorem dX8_bestSeed_66 : decode cX8_bestSeed 66 = .ok (.pop, 1) := by decide +kernel
theorem dX8_bestSeed_67 : decode cX8_bestSeed 67 = .ok (.aload_n 0, 1) := by decide +kernel
theorem dX8_bestSeed_68 : decode cX8_bestSeed 68 = .ok (.iload_n 1, 1) := by decide +kernel
theorem dX8_bestSeed_69 : decode cX8_bestSeed 69 = .ok (.iconst 0, 1) := by decide +kernel
theorem dX8_bestSeed_70 : decode cX8_bestSeed 70 = .ok (.invokevirtual 54, 3) := by decide +kernel
theorem dX8_bestSeed_73 : decode cX8_bestSeed 73 = .ok (.aload_n 0, 1) := by decide +kernel
theorem dX8_bestSeed_74 : decode cX8_bestSeed 74 = .ok (.iload_n 1, 1) := by decide +kernel
theorem dX8_bestSeed_75 : decode cX8_bestSeed 75 = .ok (.invokevirtual 165, 3) := by decide +kernel
theorem dX8_bestSeed_78 : decode cX8_bestSeed 78 = .ok (.iadd, 1) := by decide +kernel
theorem dX8_bestSeed_79 : decode cX8_bestSeed 79 = .ok (.aload_n 0, 1) := by decide +kernel
theorem dX8_bestSeed_80 : decode cX8_bestSeed 80 = .ok (.iload_n 1, 1) := by decide +kernel
theorem dX8_bestSeed_81 : decode cX8_bestSeed 81 = .ok (.invokevirtual 61, 3) := by decide +kernel
theorem dX8_bestSeed_84 : decode cX8_bestSeed 84 = .ok (.isub, 1) := by decide +kernel
theorem dX8_bestSeed_85 : decode cX8_bestSeed 85 = .ok (.istore 6, 2) := by decide +kernel
theorem dX8_bestSeed_87 : decode cX8_bestSeed 87 = .ok (.aload_n 0, 1) := by decide +kernel
theorem dX8_bestSeed_88 : decode cX8_bestSeed 88 = .ok (.getfield 13, 3) := by decide +kernel
theorem dX8_bestSeed_91 : decode cX8_bestSeed 91 = .ok (.iconst 0, 1) := by decide +kernel
theorem dX8_bestSeed_92 : decode cX8_bestSeed 92 = .ok (.aload_n 0, 1) := by decide +kernel
theorem dX8_bestSeed_93 : decode cX8_bestSeed 93 = .ok (.getfield 7, 3) := by decide +kernel
theorem dX8_bestSeed_96 : decode cX8_bestSeed 96 = .ok (.iconst 0, 1) := by decide +kernel
theorem dX8_bestSeed_97 : decode cX8_bestSeed 97 = .ok (.invokestatic 38, 3) := by decide +kernel
theorem dX8_bestSeed_100 : decode cX8_bestSeed 100 = .ok (.iload_n 3, 1) := by decide +kernel
theorem dX8_bestSeed_101 : decode cX8_bestSeed 101 = .ok (.bipush (-6), 2) := by decide +kernel
theorem dX8_bestSeed_103 : decode cX8_bestSeed 103 = .ok (.if_icmp .eq 10, 3) := by decide +kernel
theorem dX8_bestSeed_106 : decode cX8_bestSeed 106 = .ok (.iload 6, 2) := by decide +kernel
theorem dX8_bestSeed_108 : decode cX8_bestSeed 108 = .ok (.iload 4, 2) := by decide +kernel
theorem dX8_bestSeed_110 : decode cX8_bestSeed 110 = .ok (.if_icmp .le 7, 3) := by decide +kernel
theorem dX8_bestSeed_113 : decode cX8_bestSeed 113 = .ok (.iconst 1, 1) := by decide +kernel
theorem dX8_bestSeed_114 : decode cX8_bestSeed 114 = .ok (.goto 4, 3) := by decide +kernel
theorem dX8_bestSeed_117 : decode cX8_bestSeed 117 = .ok (.iconst 0, 1) := by decide +kernel
theorem dX8_bestSeed_118 : decode cX8_bestSeed 118 = .ok (.istore 7, 2) := by decide +kernel
theorem dX8_bestSeed_120 : decode cX8_bestSeed 120 = .ok (.iload 7, 2) := by decide +kernel
theorem dX8_bestSeed_122 : decode cX8_bestSeed 122 = .ok (.ifCond .eq 8, 3) := by decide +kernel
theorem dX8_bestSeed_125 : decode cX8_bestSeed 125 = .ok (.iload 5, 2) := by decide +kernel
theorem dX8_bestSeed_127 : decode cX8_bestSeed 127 = .ok (.goto 4, 3) := by decide +kernel
theorem dX8_bestSeed_130 : decode cX8_bestSeed 130 = .ok (.iload_n 3, 1) := by decide +kernel
theorem dX8_bestSeed_131 : decode cX8_bestSeed 131 = .ok (.istore_n 3, 1) := by decide +kernel
theorem dX8_bestSeed_132 : decode cX8_bestSeed 132 = .ok (.iload 7, 2) := by decide +kernel
theorem dX8_bestSeed_134 : decode cX8_bestSeed 134 = .ok (.ifCond .eq 8, 3) := by decide +kernel
theorem dX8_bestSeed_137 : decode cX8_bestSeed 137 = .ok (.iload 6, 2) := by decide +kernel
theorem dX8_bestSeed_139 : decode cX8_bestSeed 139 = .ok (.goto 5, 3) := by decide +kernel
theorem dX8_bestSeed_142 : decode cX8_bestSeed 142 = .ok (.iload 4, 2) := by decide +kernel
theorem dX8_bestSeed_144 : decode cX8_bestSeed 144 = .ok (.istore 4, 2) := by decide +kernel
theorem dX8_bestSeed_146 : decode cX8_bestSeed 146 = .ok (.iinc 5 1, 3) := by decide +kernel
theorem dX8_bestSeed_149 : decode cX8_bestSeed 149 = .ok (.goto (-104), 3) := by decide +kernel
theorem dX8_bestSeed_152 : decode cX8_bestSeed 152 = .ok (.iload_n 3, 1) := by decide +kernel
theorem dX8_bestSeed_153 : decode cX8_bestSeed 153 = .ok (.ireturn, 1) := by decide +kernel
theorem dX8_put_0 : decode cX8_put 0 = .ok (.iconst 0, 1) := by decide +kernel
theorem dX8_put_1 : decode cX8_put 1 = .ok (.istore_n 3, 1) := by decide +kernel
theorem dX8_put_2 : decode cX8_put 2 = .ok (.lload_n 1, 1) := by decide +kernel
theorem dX8_put_3 : decode cX8_put 3 = .ok (.lstore 4, 2) := by decide +kernel
theorem dX8_put_5 : decode cX8_put 5 = .ok (.iconst 1, 1) := by decide +kernel
theorem dX8_put_6 : decode cX8_put 6 = .ok (.istore 6, 2) := by decide +kernel
theorem dX8_put_8 : decode cX8_put 8 = .ok (.iload_n 3, 1) := by decide +kernel
theorem dX8_put_9 : decode cX8_put 9 = .ok (.bipush 8, 2) := by decide +kernel
theorem dX8_put_11 : decode cX8_put 11 = .ok (.if_icmp .ge 56, 3) := by decide +kernel
theorem dX8_put_14 : decode cX8_put 14 = .ok (.lload 4, 2) := by decide +kernel
theorem dX8_put_16 : decode cX8_put 16 = .ok (.ldc2_w 201, 3) := by decide +kernel
theorem dX8_put_19 : decode cX8_put 19 = .ok (.land, 1) := by decide +kernel
theorem dX8_put_20 : decode cX8_put 20 = .ok (.lconst 0, 1) := by decide +kernel
theorem dX8_put_21 : decode cX8_put 21 = .ok (.lcmp, 1) := by decide +kernel
theorem dX8_put_22 : decode cX8_put 22 = .ok (.ifCond .eq 45, 3) := by decide +kernel
theorem dX8_put_25 : decode cX8_put 25 = .ok (.iload 6, 2) := by decide +kernel
theorem dX8_put_27 : decode cX8_put 27 = .ok (.ifCond .eq 24, 3) := by decide +kernel
theorem dX8_put_30 : decode cX8_put 30 = .ok (.lload 4, 2) := by decide +kernel
theorem dX8_put_32 : decode cX8_put 32 = .ok (.ldc2_w 201, 3) := by decide +kernel
theorem dX8_put_35 : decode cX8_put 35 = .ok (.land, 1) := by decide +kernel
theorem dX8_put_36 : decode cX8_put 36 = .ok (.l2i, 1) := by decide +kernel
theorem dX8_put_37 : decode cX8_put 37 = .ok (.bipush 33, 2) := by decide +kernel
theorem dX8_put_39 : decode cX8_put 39 = .ok (.bipush 126, 2) := by decide +kernel
theorem dX8_put_41 : decode cX8_put 41 = .ok (.invokestatic 42, 3) := by decide +kernel
theorem dX8_put_44 : decode cX8_put 44 = .ok (.ifCond .eq 7, 3) := by decide +kernel
theorem dX8_put_47 : decode cX8_put 47 = .ok (.iconst 1, 1) := by decide +kernel
theorem dX8_put_48 : decode cX8_put 48 = .ok (.goto 4, 3) := by decide +kernel
theorem dX8_put_51 : decode cX8_put 51 = .ok (.iconst 0, 1) := by decide +kernel
theorem dX8_put_52 : decode cX8_put 52 = .ok (.istore 6, 2) := by decide +kernel
theorem dX8_put_54 : decode cX8_put 54 = .ok (.lload 4, 2) := by decide +kernel
theorem dX8_put_56 : decode cX8_put 56 = .ok (.bipush 8, 2) := by decide +kernel
theorem dX8_put_58 : decode cX8_put 58 = .ok (.lushr, 1) := by decide +kernel
theorem dX8_put_59 : decode cX8_put 59 = .ok (.lstore 4, 2) := by decide +kernel
theorem dX8_put_61 : decode cX8_put 61 = .ok (.iinc 3 1, 3) := by decide +kernel
theorem dX8_put_64 : decode cX8_put 64 = .ok (.goto (-56), 3) := by decide +kernel
theorem dX8_put_67 : decode cX8_put 67 = .ok (.iload_n 3, 1) := by decide +kernel
theorem dX8_put_68 : decode cX8_put 68 = .ok (.ifCond .eq 15, 3) := by decide +kernel
theorem dX8_put_71 : decode cX8_put 71 = .ok (.iload 6, 2) := by decide +kernel
theorem dX8_put_73 : decode cX8_put 73 = .ok (.ifCond .eq 10, 3) := by decide +kernel
theorem dX8_put_76 : decode cX8_put 76 = .ok (.lload 4, 2) := by decide +kernel
theorem dX8_put_78 : decode cX8_put 78 = .ok (.lconst 0, 1) := by decide +kernel
theorem dX8_put_79 : decode cX8_put 79 = .ok (.lcmp, 1) := by decide +kernel
theorem dX8_put_80 : decode cX8_put 80 = .ok (.ifCond .eq 6, 3) := by decide +kernel
theorem dX8_put_83 : decode cX8_put 83 = .ok (.bipush (-2), 2) := by decide +kernel
theorem dX8_put_85 : decode cX8_put 85 = .ok (.ireturn, 1) := by decide +kernel
theorem dX8_put_86 : decode cX8_put 86 = .ok (.aload_n 0, 1) := by decide +kernel
theorem dX8_put_87 : decode cX8_put 87 = .ok (.getfield 186, 3) := by decide +kernel
theorem dX8_put_90 : decode cX8_put 90 = .ok (.iload_n 3, 1) := by decide +kernel
theorem dX8_put_91 : decode cX8_put 91 = .ok (.iadd, 1) := by decide +kernel
theorem dX8_put_92 : decode cX8_put 92 = .ok (.bipush 80, 2) := by decide +kernel
theorem dX8_put_94 : decode cX8_put 94 = .ok (.if_icmp .le 6, 3) := by decide +kernel
theorem dX8_put_97 : decode cX8_put 97 = .ok (.bipush (-4), 2) := by decide +kernel
theorem dX8_put_99 : decode cX8_put 99 = .ok (.ireturn, 1) := by decide +kernel
theorem dX8_put_100 : decode cX8_put 100 = .ok (.iload_n 3, 1) := by decide +kernel
theorem dX8_put_101 : decode cX8_put 101 = .ok (.iconst 1, 1) := by decide +kernel
theorem dX8_put_102 : decode cX8_put 102 = .ok (.isub, 1) := by decide +kernel
theorem dX8_put_103 : decode cX8_put 103 = .ok (.istore 7, 2) := by decide +kernel
theorem dX8_put_105 : decode cX8_put 105 = .ok (.iload 7, 2) := by decide +kernel
theorem dX8_put_107 : decode cX8_put 107 = .ok (.ifCond .lt 40, 3) := by decide +kernel
theorem dX8_put_110 : decode cX8_put 110 = .ok (.aload_n 0, 1) := by decide +kernel
theorem dX8_put_111 : decode cX8_put 111 = .ok (.getfield 25, 3) := by decide +kernel
theorem dX8_put_114 : decode cX8_put 114 = .ok (.aload_n 0, 1) := by decide +kernel
theorem dX8_put_115 : decode cX8_put 115 = .ok (.getfield 186, 3) := by decide +kernel
theorem dX8_put_118 : decode cX8_put 118 = .ok (.lload_n 1, 1) := by decide +kernel
theorem dX8_put_119 : decode cX8_put 119 = .ok (.bipush 8, 2) := by decide +kernel
theorem dX8_put_121 : decode cX8_put 121 = .ok (.iload 7, 2) := by decide +kernel
theorem dX8_put_123 : decode cX8_put 123 = .ok (.imul, 1) := by decide +kernel
theorem dX8_put_124 : decode cX8_put 124 = .ok (.lushr, 1) := by decide +kernel
theorem dX8_put_125 : decode cX8_put 125 = .ok (.ldc2_w 201, 3) := by decide +kernel
theorem dX8_put_128 : decode cX8_put 128 = .ok (.land, 1) := by decide +kernel
theorem dX8_put_129 : decode cX8_put 129 = .ok (.l2i, 1) := by decide +kernel
theorem dX8_put_130 : decode cX8_put 130 = .ok (.iastore, 1) := by decide +kernel
theorem dX8_put_131 : decode cX8_put 131 = .ok (.aload_n 0, 1) := by decide +kernel
theorem dX8_put_132 : decode cX8_put 132 = .ok (.dup, 1) := by decide +kernel
theorem dX8_put_133 : decode cX8_put 133 = .ok (.getfield 186, 3) := by decide +kernel
theorem dX8_put_136 : decode cX8_put 136 = .ok (.iconst 1, 1) := by decide +kernel
theorem dX8_put_137 : decode cX8_put 137 = .ok (.iadd, 1) := by decide +kernel
theorem dX8_put_138 : decode cX8_put 138 = .ok (.putfield 186, 3) := by decide +kernel
theorem dX8_put_141 : decode cX8_put 141 = .ok (.iinc 7 (-1), 3) := by decide +kernel
theorem dX8_put_144 : decode cX8_put 144 = .ok (.goto (-39), 3) := by decide +kernel
theorem dX8_put_147 : decode cX8_put 147 = .ok (.aload_n 0, 1) := by decide +kernel
theorem dX8_put_148 : decode cX8_put 148 = .ok (.getfield 186, 3) := by decide +kernel
theorem dX8_put_151 : decode cX8_put 151 = .ok (.ireturn, 1) := by decide +kernel
theorem dX8_wipe_0 : decode cX8_wipe 0 = .ok (.aload_n 0, 1) := by decide +kernel
theorem dX8_wipe_1 : decode cX8_wipe 1 = .ok (.getfield 186, 3) := by decide +kernel
theorem dX8_wipe_4 : decode cX8_wipe 4 = .ok (.istore_n 1, 1) := by decide +kernel
theorem dX8_wipe_5 : decode cX8_wipe 5 = .ok (.aload_n 0, 1) := by decide +kernel
theorem dX8_wipe_6 : decode cX8_wipe 6 = .ok (.iconst 0, 1) := by decide +kernel
theorem dX8_wipe_7 : decode cX8_wipe 7 = .ok (.putfield 186, 3) := by decide +kernel
theorem dX8_wipe_10 : decode cX8_wipe 10 = .ok (.iload_n 1, 1) := by decide +kernel
theorem dX8_wipe_11 : decode cX8_wipe 11 = .ok (.ireturn, 1) := by decide +kernel
theorem dX8_character_0 : decode cX8_character 0 = .ok (.iload_n 1, 1) := by decide +kernel
theorem dX8_character_1 : decode cX8_character 1 = .ok (.aload_n 0, 1) := by decide +kernel
theorem dX8_character_2 : decode cX8_character 2 = .ok (.getfield 186, 3) := by decide +kernel
theorem dX8_character_5 : decode cX8_character 5 = .ok (.if_icmp .ge 12, 3) := by decide +kernel
theorem dX8_character_8 : decode cX8_character 8 = .ok (.aload_n 0, 1) := by decide +kernel
theorem dX8_character_9 : decode cX8_character 9 = .ok (.getfield 25, 3) := by decide +kernel
theorem dX8_character_12 : decode cX8_character 12 = .ok (.iload_n 1, 1) := by decide +kernel
theorem dX8_character_13 : decode cX8_character 13 = .ok (.iaload, 1) := by decide +kernel
theorem dX8_character_14 : decode cX8_character 14 = .ok (.goto 4, 3) := by decide +kernel
theorem dX8_character_17 : decode cX8_character 17 = .ok (.iconst (-1), 1) := by decide +kernel
theorem dX8_character_18 : decode cX8_character 18 = .ok (.ireturn, 1) := by decide +kernel
theorem dX8_isNext_0 : decode cX8_isNext 0 = .ok (.aload_n 0, 1) := by decide +kernel
theorem dX8_isNext_1 : decode cX8_isNext 1 = .ok (.aload_n 0, 1) := by decide +kernel
theorem dX8_isNext_2 : decode cX8_isNext 2 = .ok (.getfield 203, 3) := by decide +kernel
theorem dX8_isNext_5 : decode cX8_isNext 5 = .ok (.invokevirtual 206, 3) := by decide +kernel
theorem dX8_isNext_8 : decode cX8_isNext 8 = .ok (.iload_n 1, 1) := by decide +kernel
theorem dX8_isNext_9 : decode cX8_isNext 9 = .ok (.if_icmp .ne 7, 3) := by decide +kernel
theorem dX8_isNext_12 : decode cX8_isNext 12 = .ok (.iconst 1, 1) := by decide +kernel
theorem dX8_isNext_13 : decode cX8_isNext 13 = .ok (.goto 4, 3) := by decide +kernel
theorem dX8_isNext_16 : decode cX8_isNext 16 = .ok (.iconst 0, 1) := by decide +kernel
theorem dX8_isNext_17 : decode cX8_isNext 17 = .ok (.istore_n 2, 1) := by decide +kernel
theorem dX8_isNext_18 : decode cX8_isNext 18 = .ok (.aload_n 0, 1) := by decide +kernel
theorem dX8_isNext_19 : decode cX8_isNext 19 = .ok (.dup, 1) := by decide +kernel
theorem dX8_isNext_20 : decode cX8_isNext 20 = .ok (.getfield 203, 3) := by decide +kernel
theorem dX8_isNext_23 : decode cX8_isNext 23 = .ok (.iload_n 2, 1) := by decide +kernel
theorem dX8_isNext_24 : decode cX8_isNext 24 = .ok (.ifCond .eq 7, 3) := by decide +kernel
theorem dX8_isNext_27 : decode cX8_isNext 27 = .ok (.iconst 1, 1) := by decide +kernel
theorem dX8_isNext_28 : decode cX8_isNext 28 = .ok (.goto 4, 3) := by decide +kernel
theorem dX8_isNext_31 : decode cX8_isNext 31 = .ok (.iconst 0, 1) := by decide +kernel
theorem dX8_isNext_32 : decode cX8_isNext 32 = .ok (.iadd, 1) := by decide +kernel
theorem dX8_isNext_33 : decode cX8_isNext 33 = .ok (.putfield 203, 3) := by decide +kernel
theorem dX8_isNext_36 : decode cX8_isNext 36 = .ok (.iload_n 2, 1) := by decide +kernel
theorem dX8_isNext_37 : decode cX8_isNext 37 = .ok (.ireturn, 1) := by decide +kernel
theorem dX8_isDigit_0 : decode cX8_isDigit 0 = .ok (.aload_n 0, 1) := by decide +kernel
theorem dX8_isDigit_1 : decode cX8_isDigit 1 = .ok (.aload_n 0, 1) := by decide +kernel
theorem dX8_isDigit_2 : decode cX8_isDigit 2 = .ok (.getfield 203, 3) := by decide +kernel
theorem dX8_isDigit_5 : decode cX8_isDigit 5 = .ok (.invokevirtual 206, 3) := by decide +kernel
theorem dX8_isDigit_8 : decode cX8_isDigit 8 = .ok (.bipush 48, 2) := by decide +kernel
theorem dX8_isDigit_10 : decode cX8_isDigit 10 = .ok (.bipush 57, 2) := by decide +kernel
theorem dX8_isDigit_12 : decode cX8_isDigit 12 = .ok (.invokestatic 42, 3) := by decide +kernel
theorem dX8_isDigit_15 : decode cX8_isDigit 15 = .ok (.ireturn, 1) := by decide +kernel
theorem dX8_takesNumber_0 : decode cX8_takesNumber 0 = .ok (.aload_n 0, 1) := by decide +kernel
theorem dX8_takesNumber_1 : decode cX8_takesNumber 1 = .ok (.invokevirtual 209, 3) := by decide +kernel
theorem dX8_takesNumber_4 : decode cX8_takesNumber 4 = .ok (.ifCond .ne 5, 3) := by decide +kernel
theorem dX8_takesNumber_7 : decode cX8_takesNumber 7 = .ok (.iconst 0, 1) := by decide +kernel
theorem dX8_takesNumber_8 : decode cX8_takesNumber 8 = .ok (.ireturn, 1) := by decide +kernel
theorem dX8_takesNumber_9 : decode cX8_takesNumber 9 = .ok (.aload_n 0, 1) := by decide +kernel
theorem dX8_takesNumber_10 : decode cX8_takesNumber 10 = .ok (.aload_n 0, 1) := by decide +kernel
theorem dX8_takesNumber_11 : decode cX8_takesNumber 11 = .ok (.aload_n 0, 1) := by decide +kernel
theorem dX8_takesNumber_12 : decode cX8_takesNumber 12 = .ok (.getfield 203, 3) := by decide +kernel
theorem dX8_takesNumber_15 : decode cX8_takesNumber 15 = .ok (.invokevirtual 206, 3) := by decide +kernel
theorem dX8_takesNumber_18 : decode cX8_takesNumber 18 = .ok (.bipush 48, 2) := by decide +kernel
theorem dX8_takesNumber_20 : decode cX8_takesNumber 20 = .ok (.isub, 1) := by decide +kernel
theorem dX8_takesNumber_21 : decode cX8_takesNumber 21 = .ok (.putfield 213, 3) := by decide +kernel
theorem dX8_takesNumber_24 : decode cX8_takesNumber 24 = .ok (.aload_n 0, 1) := by decide +kernel
theorem dX8_takesNumber_25 : decode cX8_takesNumber 25 = .ok (.dup, 1) := by decide +kernel
theorem dX8_takesNumber_26 : decode cX8_takesNumber 26 = .ok (.getfield 203, 3) := by decide +kernel
theorem dX8_takesNumber_29 : decode cX8_takesNumber 29 = .ok (.iconst 1, 1) := by decide +kernel
theorem dX8_takesNumber_30 : decode cX8_takesNumber 30 = .ok (.iadd, 1) := by decide +kernel
theorem dX8_takesNumber_31 : decode cX8_takesNumber 31 = .ok (.putfield 203, 3) := by decide +kernel
theorem dX8_takesNumber_34 : decode cX8_takesNumber 34 = .ok (.aload_n 0, 1) := by decide +kernel
theorem dX8_takesNumber_35 : decode cX8_takesNumber 35 = .ok (.getfield 213, 3) := by decide +kernel
theorem dX8_takesNumber_38 : decode cX8_takesNumber 38 = .ok (.ifCond .le 57, 3) := by decide +kernel
theorem dX8_takesNumber_41 : decode cX8_takesNumber 41 = .ok (.bipush 10, 2) := by decide +kernel
theorem dX8_takesNumber_43 : decode cX8_takesNumber 43 = .ok (.aload_n 0, 1) := by decide +kernel
theorem dX8_takesNumber_44 : decode cX8_takesNumber 44 = .ok (.getfield 213, 3) := by decide +kernel
theorem dX8_takesNumber_47 : decode cX8_takesNumber 47 = .ok (.imul, 1) := by decide +kernel
theorem dX8_takesNumber_48 : decode cX8_takesNumber 48 = .ok (.iload_n 1, 1) := by decide +kernel
theorem dX8_takesNumber_49 : decode cX8_takesNumber 49 = .ok (.if_icmp .ge 46, 3) := by decide +kernel
theorem dX8_takesNumber_52 : decode cX8_takesNumber 52 = .ok (.aload_n 0, 1) := by decide +kernel
theorem dX8_takesNumber_53 : decode cX8_takesNumber 53 = .ok (.invokevirtual 209, 3) := by decide +kernel
theorem dX8_takesNumber_56 : decode cX8_takesNumber 56 = .ok (.ifCond .eq 39, 3) := by decide +kernel
theorem dX8_takesNumber_59 : decode cX8_takesNumber 59 = .ok (.aload_n 0, 1) := by decide +kernel
theorem dX8_takesNumber_60 : decode cX8_takesNumber 60 = .ok (.bipush 10, 2) := by decide +kernel
theorem dX8_takesNumber_62 : decode cX8_takesNumber 62 = .ok (.aload_n 0, 1) := by decide +kernel
theorem dX8_takesNumber_63 : decode cX8_takesNumber 63 = .ok (.getfield 213, 3) := by decide +kernel
theorem dX8_takesNumber_66 : decode cX8_takesNumber 66 = .ok (.imul, 1) := by decide +kernel
theorem dX8_takesNumber_67 : decode cX8_takesNumber 67 = .ok (.aload_n 0, 1) := by decide +kernel
theorem dX8_takesNumber_68 : decode cX8_takesNumber 68 = .ok (.aload_n 0, 1) := by decide +kernel
theorem dX8_takesNumber_69 : decode cX8_takesNumber 69 = .ok (.getfield 203, 3) := by decide +kernel
theorem dX8_takesNumber_72 : decode cX8_takesNumber 72 = .ok (.invokevirtual 206, 3) := by decide +kernel
theorem dX8_takesNumber_75 : decode cX8_takesNumber 75 = .ok (.iadd, 1) := by decide +kernel
theorem dX8_takesNumber_76 : decode cX8_takesNumber 76 = .ok (.bipush 48, 2) := by decide +kernel
theorem dX8_takesNumber_78 : decode cX8_takesNumber 78 = .ok (.isub, 1) := by decide +kernel
theorem dX8_takesNumber_79 : decode cX8_takesNumber 79 = .ok (.putfield 213, 3) := by decide +kernel
theorem dX8_takesNumber_82 : decode cX8_takesNumber 82 = .ok (.aload_n 0, 1) := by decide +kernel
theorem dX8_takesNumber_83 : decode cX8_takesNumber 83 = .ok (.dup, 1) := by decide +kernel
theorem dX8_takesNumber_84 : decode cX8_takesNumber 84 = .ok (.getfield 203, 3) := by decide +kernel
theorem dX8_takesNumber_87 : decode cX8_takesNumber 87 = .ok (.iconst 1, 1) := by decide +kernel
theorem dX8_takesNumber_88 : decode cX8_takesNumber 88 = .ok (.iadd, 1) := by decide +kernel
theorem dX8_takesNumber_89 : decode cX8_takesNumber 89 = .ok (.putfield 203, 3) := by decide +kernel
theorem dX8_takesNumber_92 : decode cX8_takesNumber 92 = .ok (.goto (-58), 3) := by decide +kernel
theorem dX8_takesNumber_95 : decode cX8_takesNumber 95 = .ok (.iconst 1, 1) := by decide +kernel
theorem dX8_takesNumber_96 : decode cX8_takesNumber 96 = .ok (.ireturn, 1) := by decide +kernel
theorem dX8_readsOrder_0 : decode cX8_readsOrder 0 = .ok (.aload_n 0, 1) := by decide +kernel
theorem dX8_readsOrder_1 : decode cX8_readsOrder 1 = .ok (.aload_n 0, 1) := by decide +kernel
theorem dX8_readsOrder_2 : decode cX8_readsOrder 2 = .ok (.aload_n 0, 1) := by decide +kernel
theorem dX8_readsOrder_3 : decode cX8_readsOrder 3 = .ok (.getfield 203, 3) := by decide +kernel
theorem dX8_readsOrder_6 : decode cX8_readsOrder 6 = .ok (.invokevirtual 206, 3) := by decide +kernel
theorem dX8_readsOrder_9 : decode cX8_readsOrder 9 = .ok (.putfield 216, 3) := by decide +kernel
theorem dX8_readsOrder_12 : decode cX8_readsOrder 12 = .ok (.aload_n 0, 1) := by decide +kernel
theorem dX8_readsOrder_13 : decode cX8_readsOrder 13 = .ok (.dup, 1) := by decide +kernel
theorem dX8_readsOrder_14 : decode cX8_readsOrder 14 = .ok (.getfield 203, 3) := by decide +kernel
theorem dX8_readsOrder_17 : decode cX8_readsOrder 17 = .ok (.iconst 1, 1) := by decide +kernel
theorem dX8_readsOrder_18 : decode cX8_readsOrder 18 = .ok (.iadd, 1) := by decide +kernel
theorem dX8_readsOrder_19 : decode cX8_readsOrder 19 = .ok (.putfield 203, 3) := by decide +kernel
theorem dX8_readsOrder_22 : decode cX8_readsOrder 22 = .ok (.aload_n 0, 1) := by decide +kernel
theorem dX8_readsOrder_23 : decode cX8_readsOrder 23 = .ok (.getfield 216, 3) := by decide +kernel
theorem dX8_readsOrder_26 : decode cX8_readsOrder 26 = .ok (.lookupswitch 57 #[(99, 50), (112, 42), (116, 42), (120, 42)], 42) := by decide +kernel
theorem dX8_readsOrder_68 : decode cX8_readsOrder 68 = .ok (.aload_n 0, 1) := by decide +kernel
theorem dX8_readsOrder_69 : decode cX8_readsOrder 69 = .ok (.sipush 10000, 3) := by decide +kernel
theorem dX8_readsOrder_72 : decode cX8_readsOrder 72 = .ok (.invokevirtual 219, 3) := by decide +kernel
theorem dX8_readsOrder_75 : decode cX8_readsOrder 75 = .ok (.ireturn, 1) := by decide +kernel
theorem dX8_readsOrder_76 : decode cX8_readsOrder 76 = .ok (.aload_n 0, 1) := by decide +kernel
theorem dX8_readsOrder_77 : decode cX8_readsOrder 77 = .ok (.bipush 10, 2) := by decide +kernel
theorem dX8_readsOrder_79 : decode cX8_readsOrder 79 = .ok (.invokevirtual 219, 3) := by decide +kernel
theorem dX8_readsOrder_82 : decode cX8_readsOrder 82 = .ok (.ireturn, 1) := by decide +kernel
theorem dX8_readsOrder_83 : decode cX8_readsOrder 83 = .ok (.aload_n 0, 1) := by decide +kernel
theorem dX8_readsOrder_84 : decode cX8_readsOrder 84 = .ok (.dup, 1) := by decide +kernel
theorem dX8_readsOrder_85 : decode cX8_readsOrder 85 = .ok (.getfield 203, 3) := by decide +kernel
theorem dX8_readsOrder_88 : decode cX8_readsOrder 88 = .ok (.iconst 1, 1) := by decide +kernel
theorem dX8_readsOrder_89 : decode cX8_readsOrder 89 = .ok (.isub, 1) := by decide +kernel
theorem dX8_readsOrder_90 : decode cX8_readsOrder 90 = .ok (.putfield 203, 3) := by decide +kernel
theorem dX8_readsOrder_93 : decode cX8_readsOrder 93 = .ok (.iconst 0, 1) := by decide +kernel
theorem dX8_readsOrder_94 : decode cX8_readsOrder 94 = .ok (.ireturn, 1) := by decide +kernel
theorem dX8_findFault_0 : decode cX8_findFault 0 = .ok (.aload_n 0, 1) := by decide +kernel
theorem dX8_findFault_1 : decode cX8_findFault 1 = .ok (.iconst 0, 1) := by decide +kernel
theorem dX8_findFault_2 : decode cX8_findFault 2 = .ok (.putfield 203, 3) := by decide +kernel
theorem dX8_findFault_5 : decode cX8_findFault 5 = .ok (.aload_n 0, 1) := by decide +kernel
theorem dX8_findFault_6 : decode cX8_findFault 6 = .ok (.invokevirtual 222, 3) := by decide +kernel
theorem dX8_findFault_9 : decode cX8_findFault 9 = .ok (.ifCond .ne 8, 3) := by decide +kernel
theorem dX8_findFault_12 : decode cX8_findFault 12 = .ok (.aload_n 0, 1) := by decide +kernel
theorem dX8_findFault_13 : decode cX8_findFault 13 = .ok (.getfield 203, 3) := by decide +kernel
theorem dX8_findFault_16 : decode cX8_findFault 16 = .ok (.ireturn, 1) := by decide +kernel
theorem dX8_findFault_17 : decode cX8_findFault 17 = .ok (.aload_n 0, 1) := by decide +kernel
theorem dX8_findFault_18 : decode cX8_findFault 18 = .ok (.getfield 203, 3) := by decide +kernel
theorem dX8_findFault_21 : decode cX8_findFault 21 = .ok (.aload_n 0, 1) := by decide +kernel
theorem dX8_findFault_22 : decode cX8_findFault 22 = .ok (.getfield 186, 3) := by decide +kernel
theorem dX8_findFault_25 : decode cX8_findFault 25 = .ok (.if_icmp .ne 6, 3) := by decide +kernel
theorem dX8_findFault_28 : decode cX8_findFault 28 = .ok (.bipush (-6), 2) := by decide +kernel
theorem dX8_findFault_30 : decode cX8_findFault 30 = .ok (.ireturn, 1) := by decide +kernel
theorem dX8_findFault_31 : decode cX8_findFault 31 = .ok (.aload_n 0, 1) := by decide +kernel
theorem dX8_findFault_32 : decode cX8_findFault 32 = .ok (.bipush 59, 2) := by decide +kernel
theorem dX8_findFault_34 : decode cX8_findFault 34 = .ok (.invokevirtual 225, 3) := by decide +kernel
theorem dX8_findFault_37 : decode cX8_findFault 37 = .ok (.ifCond .ne (-32), 3) := by decide +kernel
theorem dX8_findFault_40 : decode cX8_findFault 40 = .ok (.aload_n 0, 1) := by decide +kernel
theorem dX8_findFault_41 : decode cX8_findFault 41 = .ok (.getfield 203, 3) := by decide +kernel
theorem dX8_findFault_44 : decode cX8_findFault 44 = .ok (.ireturn, 1) := by decide +kernel
theorem dX8_fault_0 : decode cX8_fault 0 = .ok (.aload_n 0, 1) := by decide +kernel
theorem dX8_fault_1 : decode cX8_fault 1 = .ok (.invokevirtual 228, 3) := by decide +kernel
theorem dX8_fault_4 : decode cX8_fault 4 = .ok (.ireturn, 1) := by decide +kernel
theorem dX8_whyNotDone_0 : decode cX8_whyNotDone 0 = .ok (.aload_n 0, 1) := by decide +kernel
theorem dX8_whyNotDone_1 : decode cX8_whyNotDone 1 = .ok (.getfield 216, 3) := by decide +kernel
theorem dX8_whyNotDone_4 : decode cX8_whyNotDone 4 = .ok (.lookupswitch 71 #[(99, 54), (112, 36), (116, 45)], 36) := by decide +kernel
theorem dX8_whyNotDone_40 : decode cX8_whyNotDone 40 = .ok (.aload_n 0, 1) := by decide +kernel
theorem dX8_whyNotDone_41 : decode cX8_whyNotDone 41 = .ok (.aload_n 0, 1) := by decide +kernel
theorem dX8_whyNotDone_42 : decode cX8_whyNotDone 42 = .ok (.getfield 213, 3) := by decide +kernel
theorem dX8_whyNotDone_45 : decode cX8_whyNotDone 45 = .ok (.invokevirtual 131, 3) := by decide +kernel
theorem dX8_whyNotDone_48 : decode cX8_whyNotDone 48 = .ok (.ireturn, 1) := by decide +kernel
theorem dX8_whyNotDone_49 : decode cX8_whyNotDone 49 = .ok (.aload_n 0, 1) := by decide +kernel
theorem dX8_whyNotDone_50 : decode cX8_whyNotDone 50 = .ok (.aload_n 0, 1) := by decide +kernel
theorem dX8_whyNotDone_51 : decode cX8_whyNotDone 51 = .ok (.getfield 213, 3) := by decide +kernel
theorem dX8_whyNotDone_54 : decode cX8_whyNotDone 54 = .ok (.invokevirtual 137, 3) := by decide +kernel
theorem dX8_whyNotDone_57 : decode cX8_whyNotDone 57 = .ok (.ireturn, 1) := by decide +kernel
theorem dX8_whyNotDone_58 : decode cX8_whyNotDone 58 = .ok (.aload_n 0, 1) := by decide +kernel
theorem dX8_whyNotDone_59 : decode cX8_whyNotDone 59 = .ok (.aload_n 0, 1) := by decide +kernel
theorem dX8_whyNotDone_60 : decode cX8_whyNotDone 60 = .ok (.getfield 213, 3) := by decide +kernel
theorem dX8_whyNotDone_63 : decode cX8_whyNotDone 63 = .ok (.invokevirtual 156, 3) := by decide +kernel
theorem dX8_whyNotDone_66 : decode cX8_whyNotDone 66 = .ok (.ifCond .eq 7, 3) := by decide +kernel
theorem dX8_whyNotDone_69 : decode cX8_whyNotDone 69 = .ok (.iconst 0, 1) := by decide +kernel
theorem dX8_whyNotDone_70 : decode cX8_whyNotDone 70 = .ok (.goto 4, 3) := by decide +kernel
theorem dX8_whyNotDone_73 : decode cX8_whyNotDone 73 = .ok (.iconst (-1), 1) := by decide +kernel
theorem dX8_whyNotDone_74 : decode cX8_whyNotDone 74 = .ok (.ireturn, 1) := by decide +kernel
theorem dX8_whyNotDone_75 : decode cX8_whyNotDone 75 = .ok (.iconst 0, 1) := by decide +kernel
theorem dX8_whyNotDone_76 : decode cX8_whyNotDone 76 = .ok (.ireturn, 1) := by decide +kernel
theorem dX8_does_0 : decode cX8_does 0 = .ok (.aload_n 0, 1) := by decide +kernel
theorem dX8_does_1 : decode cX8_does 1 = .ok (.getfield 216, 3) := by decide +kernel
theorem dX8_does_4 : decode cX8_does 4 = .ok (.lookupswitch 72 #[(99, 60), (112, 36), (116, 48)], 36) := by decide +kernel
theorem dX8_does_40 : decode cX8_does 40 = .ok (.aload_n 0, 1) := by decide +kernel
theorem dX8_does_41 : decode cX8_does 41 = .ok (.aload_n 0, 1) := by decide +kernel
theorem dX8_does_42 : decode cX8_does 42 = .ok (.getfield 213, 3) := by decide +kernel
theorem dX8_does_45 : decode cX8_does 45 = .ok (.invokevirtual 134, 3) := by decide +kernel
theorem dX8_does_48 : decode cX8_does 48 = .ok (.pop, 1) := by decide +kernel
theorem dX8_does_49 : decode cX8_does 49 = .ok (.goto 38, 3) := by decide +kernel
theorem dX8_does_52 : decode cX8_does 52 = .ok (.aload_n 0, 1) := by decide +kernel
theorem dX8_does_53 : decode cX8_does 53 = .ok (.aload_n 0, 1) := by decide +kernel
theorem dX8_does_54 : decode cX8_does 54 = .ok (.getfield 213, 3) := by decide +kernel
theorem dX8_does_57 : decode cX8_does 57 = .ok (.invokevirtual 140, 3) := by decide +kernel
theorem dX8_does_60 : decode cX8_does 60 = .ok (.pop, 1) := by decide +kernel
theorem dX8_does_61 : decode cX8_does 61 = .ok (.goto 26, 3) := by decide +kernel
theorem dX8_does_64 : decode cX8_does 64 = .ok (.aload_n 0, 1) := by decide +kernel
theorem dX8_does_65 : decode cX8_does 65 = .ok (.aload_n 0, 1) := by decide +kernel
theorem dX8_does_66 : decode cX8_does 66 = .ok (.getfield 213, 3) := by decide +kernel
theorem dX8_does_69 : decode cX8_does 69 = .ok (.invokevirtual 159, 3) := by decide +kernel
theorem dX8_does_72 : decode cX8_does 72 = .ok (.pop, 1) := by decide +kernel
theorem dX8_does_73 : decode cX8_does 73 = .ok (.goto 14, 3) := by decide +kernel
theorem dX8_does_76 : decode cX8_does 76 = .ok (.aload_n 0, 1) := by decide +kernel
theorem dX8_does_77 : decode cX8_does 77 = .ok (.getfield 7, 3) := by decide +kernel
theorem dX8_does_80 : decode cX8_does 80 = .ok (.bipush 8, 2) := by decide +kernel
theorem dX8_does_82 : decode cX8_does 82 = .ok (.aload_n 0, 1) := by decide +kernel
theorem dX8_does_83 : decode cX8_does 83 = .ok (.getfield 213, 3) := by decide +kernel
theorem dX8_does_86 : decode cX8_does 86 = .ok (.iastore, 1) := by decide +kernel
theorem dX8_does_87 : decode cX8_does 87 = .ok (.return_, 1) := by decide +kernel
theorem dX8_carryOut_0 : decode cX8_carryOut 0 = .ok (.aload_n 0, 1) := by decide +kernel
theorem dX8_carryOut_1 : decode cX8_carryOut 1 = .ok (.invokevirtual 228, 3) := by decide +kernel
theorem dX8_carryOut_4 : decode cX8_carryOut 4 = .ok (.bipush (-6), 2) := by decide +kernel
theorem dX8_carryOut_6 : decode cX8_carryOut 6 = .ok (.if_icmp .eq 6, 3) := by decide +kernel
theorem dX8_carryOut_9 : decode cX8_carryOut 9 = .ok (.bipush (-3), 2) := by decide +kernel
theorem dX8_carryOut_11 : decode cX8_carryOut 11 = .ok (.ireturn, 1) := by decide +kernel
theorem dX8_carryOut_12 : decode cX8_carryOut 12 = .ok (.aload_n 0, 1) := by decide +kernel
theorem dX8_carryOut_13 : decode cX8_carryOut 13 = .ok (.invokevirtual 128, 3) := by decide +kernel
theorem dX8_carryOut_16 : decode cX8_carryOut 16 = .ok (.iconst 0, 1) := by decide +kernel
theorem dX8_carryOut_17 : decode cX8_carryOut 17 = .ok (.istore_n 1, 1) := by decide +kernel
theorem dX8_carryOut_18 : decode cX8_carryOut 18 = .ok (.aload_n 0, 1) := by decide +kernel
theorem dX8_carryOut_19 : decode cX8_carryOut 19 = .ok (.iconst 0, 1) := by decide +kernel
theorem dX8_carryOut_20 : decode cX8_carryOut 20 = .ok (.putfield 203, 3) := by decide +kernel
theorem dX8_carryOut_23 : decode cX8_carryOut 23 = .ok (.iconst 1, 1) := by decide +kernel
theorem dX8_carryOut_24 : decode cX8_carryOut 24 = .ok (.istore_n 2, 1) := by decide +kernel
theorem dX8_carryOut_25 : decode cX8_carryOut 25 = .ok (.iload_n 2, 1) := by decide +kernel
theorem dX8_carryOut_26 : decode cX8_carryOut 26 = .ok (.ifCond .eq 53, 3) := by decide +kernel
theorem dX8_carryOut_29 : decode cX8_carryOut 29 = .ok (.aload_n 0, 1) := by decide +kernel
theorem dX8_carryOut_30 : decode cX8_carryOut 30 = .ok (.getfield 203, 3) := by decide +kernel
theorem dX8_carryOut_33 : decode cX8_carryOut 33 = .ok (.aload_n 0, 1) := by decide +kernel
theorem dX8_carryOut_34 : decode cX8_carryOut 34 = .ok (.getfield 186, 3) := by decide +kernel
theorem dX8_carryOut_37 : decode cX8_carryOut 37 = .ok (.if_icmp .ge 42, 3) := by decide +kernel
theorem dX8_carryOut_40 : decode cX8_carryOut 40 = .ok (.aload_n 0, 1) := by decide +kernel
theorem dX8_carryOut_41 : decode cX8_carryOut 41 = .ok (.invokevirtual 222, 3) := by decide +kernel
theorem dX8_carryOut_44 : decode cX8_carryOut 44 = .ok (.pop, 1) := by decide +kernel
theorem dX8_carryOut_45 : decode cX8_carryOut 45 = .ok (.aload_n 0, 1) := by decide +kernel
theorem dX8_carryOut_46 : decode cX8_carryOut 46 = .ok (.bipush 59, 2) := by decide +kernel
theorem dX8_carryOut_48 : decode cX8_carryOut 48 = .ok (.invokevirtual 225, 3) := by decide +kernel
theorem dX8_carryOut_51 : decode cX8_carryOut 51 = .ok (.pop, 1) := by decide +kernel
theorem dX8_carryOut_52 : decode cX8_carryOut 52 = .ok (.aload_n 0, 1) := by decide +kernel
theorem dX8_carryOut_53 : decode cX8_carryOut 53 = .ok (.invokevirtual 231, 3) := by decide +kernel
theorem dX8_carryOut_56 : decode cX8_carryOut 56 = .ok (.ifCond .ne 7, 3) := by decide +kernel
theorem dX8_carryOut_59 : decode cX8_carryOut 59 = .ok (.iconst 1, 1) := by decide +kernel
theorem dX8_carryOut_60 : decode cX8_carryOut 60 = .ok (.goto 4, 3) := by decide +kernel
theorem dX8_carryOut_63 : decode cX8_carryOut 63 = .ok (.iconst 0, 1) := by decide +kernel
theorem dX8_carryOut_64 : decode cX8_carryOut 64 = .ok (.istore_n 2, 1) := by decide +kernel
theorem dX8_carryOut_65 : decode cX8_carryOut 65 = .ok (.iload_n 2, 1) := by decide +kernel
theorem dX8_carryOut_66 : decode cX8_carryOut 66 = .ok (.ifCond .eq (-41), 3) := by decide +kernel
theorem dX8_carryOut_69 : decode cX8_carryOut 69 = .ok (.aload_n 0, 1) := by decide +kernel
theorem dX8_carryOut_70 : decode cX8_carryOut 70 = .ok (.invokevirtual 234, 3) := by decide +kernel
theorem dX8_carryOut_73 : decode cX8_carryOut 73 = .ok (.iinc 1 1, 3) := by decide +kernel
theorem dX8_carryOut_76 : decode cX8_carryOut 76 = .ok (.goto (-51), 3) := by decide +kernel
theorem dX8_carryOut_79 : decode cX8_carryOut 79 = .ok (.aload_n 0, 1) := by decide +kernel
theorem dX8_carryOut_80 : decode cX8_carryOut 80 = .ok (.iconst 0, 1) := by decide +kernel
theorem dX8_carryOut_81 : decode cX8_carryOut 81 = .ok (.putfield 186, 3) := by decide +kernel
theorem dX8_carryOut_84 : decode cX8_carryOut 84 = .ok (.iload_n 1, 1) := by decide +kernel
theorem dX8_carryOut_85 : decode cX8_carryOut 85 = .ok (.ireturn, 1) := by decide +kernel
theorem dX8_undo_0 : decode cX8_undo 0 = .ok (.aload_n 0, 1) := by decide +kernel
theorem dX8_undo_1 : decode cX8_undo 1 = .ok (.getfield 34, 3) := by decide +kernel
theorem dX8_undo_4 : decode cX8_undo 4 = .ok (.ifCond .ne 6, 3) := by decide +kernel
theorem dX8_undo_7 : decode cX8_undo 7 = .ok (.bipush (-5), 2) := by decide +kernel
theorem dX8_undo_9 : decode cX8_undo 9 = .ok (.ireturn, 1) := by decide +kernel
theorem dX8_undo_10 : decode cX8_undo 10 = .ok (.aload_n 0, 1) := by decide +kernel
theorem dX8_undo_11 : decode cX8_undo 11 = .ok (.dup, 1) := by decide +kernel
theorem dX8_undo_12 : decode cX8_undo 12 = .ok (.getfield 34, 3) := by decide +kernel
theorem dX8_undo_15 : decode cX8_undo 15 = .ok (.iconst 1, 1) := by decide +kernel
theorem dX8_undo_16 : decode cX8_undo 16 = .ok (.isub, 1) := by decide +kernel
theorem dX8_undo_17 : decode cX8_undo 17 = .ok (.putfield 34, 3) := by decide +kernel
theorem dX8_undo_20 : decode cX8_undo 20 = .ok (.aload_n 0, 1) := by decide +kernel
theorem dX8_undo_21 : decode cX8_undo 21 = .ok (.getfield 16, 3) := by decide +kernel
theorem dX8_undo_24 : decode cX8_undo 24 = .ok (.aload_n 0, 1) := by decide +kernel
theorem dX8_undo_25 : decode cX8_undo 25 = .ok (.getfield 34, 3) := by decide +kernel
theorem dX8_undo_28 : decode cX8_undo 28 = .ok (.bipush 107, 2) := by decide +kernel
theorem dX8_undo_30 : decode cX8_undo 30 = .ok (.imul, 1) := by decide +kernel
theorem dX8_undo_31 : decode cX8_undo 31 = .ok (.aload_n 0, 1) := by decide +kernel
theorem dX8_undo_32 : decode cX8_undo 32 = .ok (.getfield 7, 3) := by decide +kernel
theorem dX8_undo_35 : decode cX8_undo 35 = .ok (.iconst 0, 1) := by decide +kernel
theorem dX8_undo_36 : decode cX8_undo 36 = .ok (.invokestatic 38, 3) := by decide +kernel
theorem dX8_undo_39 : decode cX8_undo 39 = .ok (.aload_n 0, 1) := by decide +kernel
theorem dX8_undo_40 : decode cX8_undo 40 = .ok (.getfield 34, 3) := by decide +kernel
theorem dX8_undo_43 : decode cX8_undo 43 = .ok (.ireturn, 1) := by decide +kernel
theorem dX8_save_0 : decode cX8_save 0 = .ok (.iload_n 1, 1) := by decide +kernel
theorem dX8_save_1 : decode cX8_save 1 = .ok (.iconst 0, 1) := by decide +kernel
theorem dX8_save_2 : decode cX8_save 2 = .ok (.iconst 1, 1) := by decide +kernel
theorem dX8_save_3 : decode cX8_save 3 = .ok (.invokestatic 42, 3) := by decide +kernel
theorem dX8_save_6 : decode cX8_save 6 = .ok (.ifCond .ne 6, 3) := by decide +kernel
theorem dX8_save_9 : decode cX8_save 9 = .ok (.bipush (-2), 2) := by decide +kernel
theorem dX8_save_11 : decode cX8_save 11 = .ok (.ireturn, 1) := by decide +kernel
theorem dX8_save_12 : decode cX8_save 12 = .ok (.aload_n 0, 1) := by decide +kernel
theorem dX8_save_13 : decode cX8_save 13 = .ok (.getfield 7, 3) := by decide +kernel
theorem dX8_save_16 : decode cX8_save 16 = .ok (.iconst 0, 1) := by decide +kernel
theorem dX8_save_17 : decode cX8_save 17 = .ok (.aload_n 0, 1) := by decide +kernel
theorem dX8_save_18 : decode cX8_save 18 = .ok (.getfield 19, 3) := by decide +kernel
theorem dX8_save_21 : decode cX8_save 21 = .ok (.bipush 107, 2) := by decide +kernel
theorem dX8_save_23 : decode cX8_save 23 = .ok (.iload_n 1, 1) := by decide +kernel
theorem dX8_save_24 : decode cX8_save 24 = .ok (.imul, 1) := by decide +kernel
theorem dX8_save_25 : decode cX8_save 25 = .ok (.invokestatic 38, 3) := by decide +kernel
theorem dX8_save_28 : decode cX8_save 28 = .ok (.aload_n 0, 1) := by decide +kernel
theorem dX8_save_29 : decode cX8_save 29 = .ok (.getfield 22, 3) := by decide +kernel
theorem dX8_save_32 : decode cX8_save 32 = .ok (.iload_n 1, 1) := by decide +kernel
theorem dX8_save_33 : decode cX8_save 33 = .ok (.iconst 1, 1) := by decide +kernel
theorem dX8_save_34 : decode cX8_save 34 = .ok (.iastore, 1) := by decide +kernel
theorem dX8_save_35 : decode cX8_save 35 = .ok (.aload_n 0, 1) := by decide +kernel
theorem dX8_save_36 : decode cX8_save 36 = .ok (.getfield 7, 3) := by decide +kernel
theorem dX8_save_39 : decode cX8_save 39 = .ok (.bipush 6, 2) := by decide +kernel
theorem dX8_save_41 : decode cX8_save 41 = .ok (.iaload, 1) := by decide +kernel
theorem dX8_save_42 : decode cX8_save 42 = .ok (.ireturn, 1) := by decide +kernel
theorem dX8_restore_0 : decode cX8_restore 0 = .ok (.iload_n 1, 1) := by decide +kernel
theorem dX8_restore_1 : decode cX8_restore 1 = .ok (.iconst 0, 1) := by decide +kernel
theorem dX8_restore_2 : decode cX8_restore 2 = .ok (.iconst 1, 1) := by decide +kernel
theorem dX8_restore_3 : decode cX8_restore 3 = .ok (.invokestatic 42, 3) := by decide +kernel
theorem dX8_restore_6 : decode cX8_restore 6 = .ok (.ifCond .ne 6, 3) := by decide +kernel
theorem dX8_restore_9 : decode cX8_restore 9 = .ok (.bipush (-2), 2) := by decide +kernel
theorem dX8_restore_11 : decode cX8_restore 11 = .ok (.ireturn, 1) := by decide +kernel
theorem dX8_restore_12 : decode cX8_restore 12 = .ok (.aload_n 0, 1) := by decide +kernel
theorem dX8_restore_13 : decode cX8_restore 13 = .ok (.getfield 22, 3) := by decide +kernel
theorem dX8_restore_16 : decode cX8_restore 16 = .ok (.iload_n 1, 1) := by decide +kernel
theorem dX8_restore_17 : decode cX8_restore 17 = .ok (.iaload, 1) := by decide +kernel
theorem dX8_restore_18 : decode cX8_restore 18 = .ok (.ifCond .ne 6, 3) := by decide +kernel
theorem dX8_restore_21 : decode cX8_restore 21 = .ok (.bipush (-5), 2) := by decide +kernel
theorem dX8_restore_23 : decode cX8_restore 23 = .ok (.ireturn, 1) := by decide +kernel
theorem dX8_restore_24 : decode cX8_restore 24 = .ok (.aload_n 0, 1) := by decide +kernel
theorem dX8_restore_25 : decode cX8_restore 25 = .ok (.invokevirtual 128, 3) := by decide +kernel
theorem dX8_restore_28 : decode cX8_restore 28 = .ok (.aload_n 0, 1) := by decide +kernel
theorem dX8_restore_29 : decode cX8_restore 29 = .ok (.getfield 19, 3) := by decide +kernel
theorem dX8_restore_32 : decode cX8_restore 32 = .ok (.bipush 107, 2) := by decide +kernel
theorem dX8_restore_34 : decode cX8_restore 34 = .ok (.iload_n 1, 1) := by decide +kernel
theorem dX8_restore_35 : decode cX8_restore 35 = .ok (.imul, 1) := by decide +kernel
theorem dX8_restore_36 : decode cX8_restore 36 = .ok (.aload_n 0, 1) := by decide +kernel
theorem dX8_restore_37 : decode cX8_restore 37 = .ok (.getfield 7, 3) := by decide +kernel
theorem dX8_restore_40 : decode cX8_restore 40 = .ok (.iconst 0, 1) := by decide +kernel
theorem dX8_restore_41 : decode cX8_restore 41 = .ok (.invokestatic 38, 3) := by decide +kernel
theorem dX8_restore_44 : decode cX8_restore 44 = .ok (.aload_n 0, 1) := by decide +kernel
theorem dX8_restore_45 : decode cX8_restore 45 = .ok (.getfield 7, 3) := by decide +kernel
theorem dX8_restore_48 : decode cX8_restore 48 = .ok (.bipush 6, 2) := by decide +kernel
theorem dX8_restore_50 : decode cX8_restore 50 = .ok (.iaload, 1) := by decide +kernel
theorem dX8_restore_51 : decode cX8_restore 51 = .ok (.ireturn, 1) := by decide +kernel
