theorem dX8_growsOlder_22 : decode cX8_growsOlder 22 = .ok (.iadd, 1) := by decide +kernel
theorem dX8_growsOlder_23 : decode cX8_growsOlder 23 = .ok (.iload_n 2, 1) := by decide +kernel
theorem dX8_growsOlder_24 : decode cX8_growsOlder 24 = .ok (.iadd, 1) := by decide +kernel
theorem dX8_growsOlder_25 : decode cX8_growsOlder 25 = .ok (.dup2, 1) := by decide +kernel
theorem dX8_growsOlder_26 : decode cX8_growsOlder 26 = .ok (.iaload, 1) := by decide +kernel
theorem dX8_growsOlder_27 : decode cX8_growsOlder 27 = .ok (.aload_n 0, 1) := by decide +kernel
theorem dX8_growsOlder_28 : decode cX8_growsOlder 28 = .ok (.iload_n 1, 1) := by decide +kernel
theorem dX8_growsOlder_29 : decode cX8_growsOlder 29 = .ok (.iload_n 2, 1) := by decide +kernel
theorem dX8_growsOlder_30 : decode cX8_growsOlder 30 = .ok (.invokevirtual 46, 3) := by decide +kernel
theorem dX8_growsOlder_33 : decode cX8_growsOlder 33 = .ok (.ifCond .le 7, 3) := by decide +kernel
theorem dX8_growsOlder_36 : decode cX8_growsOlder 36 = .ok (.iconst 1, 1) := by decide +kernel
theorem dX8_growsOlder_37 : decode cX8_growsOlder 37 = .ok (.goto 4, 3) := by decide +kernel
theorem dX8_growsOlder_40 : decode cX8_growsOlder 40 = .ok (.iconst 0, 1) := by decide +kernel
theorem dX8_growsOlder_41 : decode cX8_growsOlder 41 = .ok (.iadd, 1) := by decide +kernel
theorem dX8_growsOlder_42 : decode cX8_growsOlder 42 = .ok (.iastore, 1) := by decide +kernel
theorem dX8_growsOlder_43 : decode cX8_growsOlder 43 = .ok (.iinc 2 1, 3) := by decide +kernel
theorem dX8_growsOlder_46 : decode cX8_growsOlder 46 = .ok (.goto (-44), 3) := by decide +kernel
theorem dX8_growsOlder_49 : decode cX8_growsOlder 49 = .ok (.iconst 0, 1) := by decide +kernel
theorem dX8_growsOlder_50 : decode cX8_growsOlder 50 = .ok (.istore_n 2, 1) := by decide +kernel
theorem dX8_growsOlder_51 : decode cX8_growsOlder 51 = .ok (.aload_n 0, 1) := by decide +kernel
theorem dX8_growsOlder_52 : decode cX8_growsOlder 52 = .ok (.iload_n 1, 1) := by decide +kernel
theorem dX8_growsOlder_53 : decode cX8_growsOlder 53 = .ok (.iload_n 2, 1) := by decide +kernel
theorem dX8_growsOlder_54 : decode cX8_growsOlder 54 = .ok (.invokevirtual 72, 3) := by decide +kernel
theorem dX8_growsOlder_57 : decode cX8_growsOlder 57 = .ok (.istore_n 3, 1) := by decide +kernel
theorem dX8_growsOlder_58 : decode cX8_growsOlder 58 = .ok (.iload_n 3, 1) := by decide +kernel
theorem dX8_growsOlder_59 : decode cX8_growsOlder 59 = .ok (.bipush (-6), 2) := by decide +kernel
theorem dX8_growsOlder_61 : decode cX8_growsOlder 61 = .ok (.if_icmp .eq 76, 3) := by decide +kernel
theorem dX8_growsOlder_64 : decode cX8_growsOlder 64 = .ok (.iload_n 2, 1) := by decide +kernel
theorem dX8_growsOlder_65 : decode cX8_growsOlder 65 = .ok (.iconst 1, 1) := by decide +kernel
theorem dX8_growsOlder_66 : decode cX8_growsOlder 66 = .ok (.iload_n 3, 1) := by decide +kernel
theorem dX8_growsOlder_67 : decode cX8_growsOlder 67 = .ok (.ishl, 1) := by decide +kernel
theorem dX8_growsOlder_68 : decode cX8_growsOlder 68 = .ok (.ior, 1) := by decide +kernel
theorem dX8_growsOlder_69 : decode cX8_growsOlder 69 = .ok (.istore_n 2, 1) := by decide +kernel
theorem dX8_growsOlder_70 : decode cX8_growsOlder 70 = .ok (.aload_n 0, 1) := by decide +kernel
theorem dX8_growsOlder_71 : decode cX8_growsOlder 71 = .ok (.iload_n 1, 1) := by decide +kernel
theorem dX8_growsOlder_72 : decode cX8_growsOlder 72 = .ok (.invokevirtual 100, 3) := by decide +kernel
theorem dX8_growsOlder_75 : decode cX8_growsOlder 75 = .ok (.istore 4, 2) := by decide +kernel
theorem dX8_growsOlder_77 : decode cX8_growsOlder 77 = .ok (.aload_n 0, 1) := by decide +kernel
theorem dX8_growsOlder_78 : decode cX8_growsOlder 78 = .ok (.iload_n 1, 1) := by decide +kernel
theorem dX8_growsOlder_79 : decode cX8_growsOlder 79 = .ok (.iload_n 3, 1) := by decide +kernel
theorem dX8_growsOlder_80 : decode cX8_growsOlder 80 = .ok (.invokevirtual 65, 3) := by decide +kernel
theorem dX8_growsOlder_83 : decode cX8_growsOlder 83 = .ok (.aload_n 0, 1) := by decide +kernel
theorem dX8_growsOlder_84 : decode cX8_growsOlder 84 = .ok (.getfield 7, 3) := by decide +kernel
theorem dX8_growsOlder_87 : decode cX8_growsOlder 87 = .ok (.iconst 4, 1) := by decide +kernel
theorem dX8_growsOlder_88 : decode cX8_growsOlder 88 = .ok (.iaload, 1) := by decide +kernel
theorem dX8_growsOlder_89 : decode cX8_growsOlder 89 = .ok (.if_icmp .le 38, 3) := by decide +kernel
theorem dX8_growsOlder_92 : decode cX8_growsOlder 92 = .ok (.iload 4, 2) := by decide +kernel
theorem dX8_growsOlder_94 : decode cX8_growsOlder 94 = .ok (.bipush (-6), 2) := by decide +kernel
theorem dX8_growsOlder_96 : decode cX8_growsOlder 96 = .ok (.if_icmp .eq 31, 3) := by decide +kernel
theorem dX8_growsOlder_99 : decode cX8_growsOlder 99 = .ok (.aload_n 0, 1) := by decide +kernel
theorem dX8_growsOlder_100 : decode cX8_growsOlder 100 = .ok (.iload_n 1, 1) := by decide +kernel
theorem dX8_growsOlder_101 : decode cX8_growsOlder 101 = .ok (.iload 4, 2) := by decide +kernel
theorem dX8_growsOlder_103 : decode cX8_growsOlder 103 = .ok (.iload_n 3, 1) := by decide +kernel
theorem dX8_growsOlder_104 : decode cX8_growsOlder 104 = .ok (.invokevirtual 103, 3) := by decide +kernel
theorem dX8_growsOlder_107 : decode cX8_growsOlder 107 = .ok (.aload_n 0, 1) := by decide +kernel
theorem dX8_growsOlder_108 : decode cX8_growsOlder 108 = .ok (.iload_n 1, 1) := by decide +kernel
theorem dX8_growsOlder_109 : decode cX8_growsOlder 109 = .ok (.iload_n 3, 1) := by decide +kernel
theorem dX8_growsOlder_110 : decode cX8_growsOlder 110 = .ok (.aload_n 0, 1) := by decide +kernel
theorem dX8_growsOlder_111 : decode cX8_growsOlder 111 = .ok (.iload_n 1, 1) := by decide +kernel
theorem dX8_growsOlder_112 : decode cX8_growsOlder 112 = .ok (.iload_n 3, 1) := by decide +kernel
theorem dX8_growsOlder_113 : decode cX8_growsOlder 113 = .ok (.invokevirtual 46, 3) := by decide +kernel
theorem dX8_growsOlder_116 : decode cX8_growsOlder 116 = .ok (.ineg, 1) := by decide +kernel
theorem dX8_growsOlder_117 : decode cX8_growsOlder 117 = .ok (.invokevirtual 79, 3) := by decide +kernel
theorem dX8_growsOlder_120 : decode cX8_growsOlder 120 = .ok (.aload_n 0, 1) := by decide +kernel
theorem dX8_growsOlder_121 : decode cX8_growsOlder 121 = .ok (.iload_n 1, 1) := by decide +kernel
theorem dX8_growsOlder_122 : decode cX8_growsOlder 122 = .ok (.iconst 5, 1) := by decide +kernel
theorem dX8_growsOlder_123 : decode cX8_growsOlder 123 = .ok (.iconst 1, 1) := by decide +kernel
theorem dX8_growsOlder_124 : decode cX8_growsOlder 124 = .ok (.invokevirtual 68, 3) := by decide +kernel
theorem dX8_growsOlder_127 : decode cX8_growsOlder 127 = .ok (.aload_n 0, 1) := by decide +kernel
theorem dX8_growsOlder_128 : decode cX8_growsOlder 128 = .ok (.iload_n 1, 1) := by decide +kernel
theorem dX8_growsOlder_129 : decode cX8_growsOlder 129 = .ok (.iload_n 2, 1) := by decide +kernel
theorem dX8_growsOlder_130 : decode cX8_growsOlder 130 = .ok (.invokevirtual 72, 3) := by decide +kernel
theorem dX8_growsOlder_133 : decode cX8_growsOlder 133 = .ok (.istore_n 3, 1) := by decide +kernel
theorem dX8_growsOlder_134 : decode cX8_growsOlder 134 = .ok (.goto (-76), 3) := by decide +kernel
theorem dX8_growsOlder_137 : decode cX8_growsOlder 137 = .ok (.return_, 1) := by decide +kernel
theorem dX8_turn_0 : decode cX8_turn 0 = .ok (.aload_n 0, 1) := by decide +kernel
theorem dX8_turn_1 : decode cX8_turn 1 = .ok (.getfield 7, 3) := by decide +kernel
theorem dX8_turn_4 : decode cX8_turn 4 = .ok (.bipush 7, 2) := by decide +kernel
theorem dX8_turn_6 : decode cX8_turn 6 = .ok (.iaload, 1) := by decide +kernel
theorem dX8_turn_7 : decode cX8_turn 7 = .ok (.istore_n 1, 1) := by decide +kernel
theorem dX8_turn_8 : decode cX8_turn 8 = .ok (.aload_n 0, 1) := by decide +kernel
theorem dX8_turn_9 : decode cX8_turn 9 = .ok (.iload_n 1, 1) := by decide +kernel
theorem dX8_turn_10 : decode cX8_turn 10 = .ok (.invokevirtual 106, 3) := by decide +kernel
theorem dX8_turn_13 : decode cX8_turn 13 = .ok (.aload_n 0, 1) := by decide +kernel
theorem dX8_turn_14 : decode cX8_turn 14 = .ok (.iload_n 1, 1) := by decide +kernel
theorem dX8_turn_15 : decode cX8_turn 15 = .ok (.invokevirtual 110, 3) := by decide +kernel
theorem dX8_turn_18 : decode cX8_turn 18 = .ok (.aload_n 0, 1) := by decide +kernel
theorem dX8_turn_19 : decode cX8_turn 19 = .ok (.iload_n 1, 1) := by decide +kernel
theorem dX8_turn_20 : decode cX8_turn 20 = .ok (.aload_n 0, 1) := by decide +kernel
theorem dX8_turn_21 : decode cX8_turn 21 = .ok (.iload_n 1, 1) := by decide +kernel
theorem dX8_turn_22 : decode cX8_turn 22 = .ok (.iconst 1, 1) := by decide +kernel
theorem dX8_turn_23 : decode cX8_turn 23 = .ok (.invokevirtual 54, 3) := by decide +kernel
theorem dX8_turn_26 : decode cX8_turn 26 = .ok (.invokevirtual 113, 3) := by decide +kernel
theorem dX8_turn_29 : decode cX8_turn 29 = .ok (.aload_n 0, 1) := by decide +kernel
theorem dX8_turn_30 : decode cX8_turn 30 = .ok (.iload_n 1, 1) := by decide +kernel
theorem dX8_turn_31 : decode cX8_turn 31 = .ok (.invokevirtual 116, 3) := by decide +kernel
theorem dX8_turn_34 : decode cX8_turn 34 = .ok (.aload_n 0, 1) := by decide +kernel
theorem dX8_turn_35 : decode cX8_turn 35 = .ok (.iload_n 1, 1) := by decide +kernel
theorem dX8_turn_36 : decode cX8_turn 36 = .ok (.iconst 4, 1) := by decide +kernel
theorem dX8_turn_37 : decode cX8_turn 37 = .ok (.iconst 1, 1) := by decide +kernel
theorem dX8_turn_38 : decode cX8_turn 38 = .ok (.invokevirtual 68, 3) := by decide +kernel
theorem dX8_turn_41 : decode cX8_turn 41 = .ok (.aload_n 0, 1) := by decide +kernel
theorem dX8_turn_42 : decode cX8_turn 42 = .ok (.getfield 7, 3) := by decide +kernel
theorem dX8_turn_45 : decode cX8_turn 45 = .ok (.bipush 7, 2) := by decide +kernel
theorem dX8_turn_47 : decode cX8_turn 47 = .ok (.iload_n 1, 1) := by decide +kernel
theorem dX8_turn_48 : decode cX8_turn 48 = .ok (.iconst 1, 1) := by decide +kernel
theorem dX8_turn_49 : decode cX8_turn 49 = .ok (.iadd, 1) := by decide +kernel
theorem dX8_turn_50 : decode cX8_turn 50 = .ok (.aload_n 0, 1) := by decide +kernel
theorem dX8_turn_51 : decode cX8_turn 51 = .ok (.getfield 7, 3) := by decide +kernel
theorem dX8_turn_54 : decode cX8_turn 54 = .ok (.bipush 6, 2) := by decide +kernel
theorem dX8_turn_56 : decode cX8_turn 56 = .ok (.iaload, 1) := by decide +kernel
theorem dX8_turn_57 : decode cX8_turn 57 = .ok (.irem, 1) := by decide +kernel
theorem dX8_turn_58 : decode cX8_turn 58 = .ok (.iastore, 1) := by decide +kernel
theorem dX8_turn_59 : decode cX8_turn 59 = .ok (.aload_n 0, 1) := by decide +kernel
theorem dX8_turn_60 : decode cX8_turn 60 = .ok (.getfield 7, 3) := by decide +kernel
theorem dX8_turn_63 : decode cX8_turn 63 = .ok (.iconst 5, 1) := by decide +kernel
theorem dX8_turn_64 : decode cX8_turn 64 = .ok (.dup2, 1) := by decide +kernel
theorem dX8_turn_65 : decode cX8_turn 65 = .ok (.iaload, 1) := by decide +kernel
theorem dX8_turn_66 : decode cX8_turn 66 = .ok (.iconst 1, 1) := by decide +kernel
theorem dX8_turn_67 : decode cX8_turn 67 = .ok (.iadd, 1) := by decide +kernel
theorem dX8_turn_68 : decode cX8_turn 68 = .ok (.iastore, 1) := by decide +kernel
theorem dX8_turn_69 : decode cX8_turn 69 = .ok (.return_, 1) := by decide +kernel
theorem dX8_doTurns_0 : decode cX8_doTurns 0 = .ok (.aload_n 0, 1) := by decide +kernel
theorem dX8_doTurns_1 : decode cX8_doTurns 1 = .ok (.iconst 2, 1) := by decide +kernel
theorem dX8_doTurns_2 : decode cX8_doTurns 2 = .ok (.invokevirtual 119, 3) := by decide +kernel
theorem dX8_doTurns_5 : decode cX8_doTurns 5 = .ok (.istore_n 2, 1) := by decide +kernel
theorem dX8_doTurns_6 : decode cX8_doTurns 6 = .ok (.iconst 0, 1) := by decide +kernel
theorem dX8_doTurns_7 : decode cX8_doTurns 7 = .ok (.istore_n 3, 1) := by decide +kernel
theorem dX8_doTurns_8 : decode cX8_doTurns 8 = .ok (.iload_n 3, 1) := by decide +kernel
theorem dX8_doTurns_9 : decode cX8_doTurns 9 = .ok (.iload_n 1, 1) := by decide +kernel
theorem dX8_doTurns_10 : decode cX8_doTurns 10 = .ok (.if_icmp .ge 13, 3) := by decide +kernel
theorem dX8_doTurns_13 : decode cX8_doTurns 13 = .ok (.aload_n 0, 1) := by decide +kernel
theorem dX8_doTurns_14 : decode cX8_doTurns 14 = .ok (.invokevirtual 122, 3) := by decide +kernel
theorem dX8_doTurns_17 : decode cX8_doTurns 17 = .ok (.iinc 3 1, 3) := by decide +kernel
theorem dX8_doTurns_20 : decode cX8_doTurns 20 = .ok (.goto (-12), 3) := by decide +kernel
theorem dX8_doTurns_23 : decode cX8_doTurns 23 = .ok (.aload_n 0, 1) := by decide +kernel
theorem dX8_doTurns_24 : decode cX8_doTurns 24 = .ok (.iconst 2, 1) := by decide +kernel
theorem dX8_doTurns_25 : decode cX8_doTurns 25 = .ok (.invokevirtual 119, 3) := by decide +kernel
theorem dX8_doTurns_28 : decode cX8_doTurns 28 = .ok (.iload_n 2, 1) := by decide +kernel
theorem dX8_doTurns_29 : decode cX8_doTurns 29 = .ok (.isub, 1) := by decide +kernel
theorem dX8_doTurns_30 : decode cX8_doTurns 30 = .ok (.ireturn, 1) := by decide +kernel
theorem dX8_isValue_0 : decode cX8_isValue 0 = .ok (.iload_n 0, 1) := by decide +kernel
theorem dX8_isValue_1 : decode cX8_isValue 1 = .ok (.tableswitch 67 0 4 #[35, 43, 43, 51, 59], 35) := by decide +kernel
theorem dX8_isValue_36 : decode cX8_isValue 36 = .ok (.iload_n 1, 1) := by decide +kernel
theorem dX8_isValue_37 : decode cX8_isValue 37 = .ok (.iconst 0, 1) := by decide +kernel
theorem dX8_isValue_38 : decode cX8_isValue 38 = .ok (.bipush 99, 2) := by decide +kernel
theorem dX8_isValue_40 : decode cX8_isValue 40 = .ok (.invokestatic 42, 3) := by decide +kernel
theorem dX8_isValue_43 : decode cX8_isValue 43 = .ok (.ireturn, 1) := by decide +kernel
theorem dX8_isValue_44 : decode cX8_isValue 44 = .ok (.iload_n 1, 1) := by decide +kernel
theorem dX8_isValue_45 : decode cX8_isValue 45 = .ok (.iconst 1, 1) := by decide +kernel
theorem dX8_isValue_46 : decode cX8_isValue 46 = .ok (.bipush 99, 2) := by decide +kernel
theorem dX8_isValue_48 : decode cX8_isValue 48 = .ok (.invokestatic 42, 3) := by decide +kernel
theorem dX8_isValue_51 : decode cX8_isValue 51 = .ok (.ireturn, 1) := by decide +kernel
theorem dX8_isValue_52 : decode cX8_isValue 52 = .ok (.iload_n 1, 1) := by decide +kernel
theorem dX8_isValue_53 : decode cX8_isValue 53 = .ok (.iconst 1, 1) := by decide +kernel
theorem dX8_isValue_54 : decode cX8_isValue 54 = .ok (.bipush 7, 2) := by decide +kernel
theorem dX8_isValue_56 : decode cX8_isValue 56 = .ok (.invokestatic 42, 3) := by decide +kernel
theorem dX8_isValue_59 : decode cX8_isValue 59 = .ok (.ireturn, 1) := by decide +kernel
theorem dX8_isValue_60 : decode cX8_isValue 60 = .ok (.iload_n 1, 1) := by decide +kernel
theorem dX8_isValue_61 : decode cX8_isValue 61 = .ok (.iconst 1, 1) := by decide +kernel
theorem dX8_isValue_62 : decode cX8_isValue 62 = .ok (.bipush 20, 2) := by decide +kernel
theorem dX8_isValue_64 : decode cX8_isValue 64 = .ok (.invokestatic 42, 3) := by decide +kernel
theorem dX8_isValue_67 : decode cX8_isValue 67 = .ok (.ireturn, 1) := by decide +kernel
theorem dX8_isValue_68 : decode cX8_isValue 68 = .ok (.iconst 0, 1) := by decide +kernel
theorem dX8_isValue_69 : decode cX8_isValue 69 = .ok (.ireturn, 1) := by decide +kernel
theorem dX8_set_0 : decode cX8_set 0 = .ok (.iload_n 1, 1) := by decide +kernel
theorem dX8_set_1 : decode cX8_set 1 = .ok (.iload_n 2, 1) := by decide +kernel
theorem dX8_set_2 : decode cX8_set 2 = .ok (.invokestatic 125, 3) := by decide +kernel
theorem dX8_set_5 : decode cX8_set 5 = .ok (.ifCond .ne 6, 3) := by decide +kernel
theorem dX8_set_8 : decode cX8_set 8 = .ok (.bipush (-2), 2) := by decide +kernel
theorem dX8_set_10 : decode cX8_set 10 = .ok (.ireturn, 1) := by decide +kernel
theorem dX8_set_11 : decode cX8_set 11 = .ok (.aload_n 0, 1) := by decide +kernel
theorem dX8_set_12 : decode cX8_set 12 = .ok (.invokevirtual 128, 3) := by decide +kernel
theorem dX8_set_15 : decode cX8_set 15 = .ok (.aload_n 0, 1) := by decide +kernel
theorem dX8_set_16 : decode cX8_set 16 = .ok (.getfield 7, 3) := by decide +kernel
theorem dX8_set_19 : decode cX8_set 19 = .ok (.iload_n 1, 1) := by decide +kernel
theorem dX8_set_20 : decode cX8_set 20 = .ok (.iaload, 1) := by decide +kernel
theorem dX8_set_21 : decode cX8_set 21 = .ok (.istore_n 3, 1) := by decide +kernel
theorem dX8_set_22 : decode cX8_set 22 = .ok (.aload_n 0, 1) := by decide +kernel
theorem dX8_set_23 : decode cX8_set 23 = .ok (.getfield 7, 3) := by decide +kernel
theorem dX8_set_26 : decode cX8_set 26 = .ok (.iload_n 1, 1) := by decide +kernel
theorem dX8_set_27 : decode cX8_set 27 = .ok (.iload_n 2, 1) := by decide +kernel
theorem dX8_set_28 : decode cX8_set 28 = .ok (.iastore, 1) := by decide +kernel
theorem dX8_set_29 : decode cX8_set 29 = .ok (.iload_n 3, 1) := by decide +kernel
theorem dX8_set_30 : decode cX8_set 30 = .ok (.ireturn, 1) := by decide +kernel
theorem dX8_whyNoPlayer_0 : decode cX8_whyNoPlayer 0 = .ok (.iload_n 1, 1) := by decide +kernel
theorem dX8_whyNoPlayer_1 : decode cX8_whyNoPlayer 1 = .ok (.iconst 0, 1) := by decide +kernel
theorem dX8_whyNoPlayer_2 : decode cX8_whyNoPlayer 2 = .ok (.sipush 9999, 3) := by decide +kernel
theorem dX8_whyNoPlayer_5 : decode cX8_whyNoPlayer 5 = .ok (.invokestatic 42, 3) := by decide +kernel
theorem dX8_whyNoPlayer_8 : decode cX8_whyNoPlayer 8 = .ok (.ifCond .ne 8, 3) := by decide +kernel
theorem dX8_whyNoPlayer_11 : decode cX8_whyNoPlayer 11 = .ok (.bipush (-2), 2) := by decide +kernel
theorem dX8_whyNoPlayer_13 : decode cX8_whyNoPlayer 13 = .ok (.goto 20, 3) := by decide +kernel
theorem dX8_whyNoPlayer_16 : decode cX8_whyNoPlayer 16 = .ok (.aload_n 0, 1) := by decide +kernel
theorem dX8_whyNoPlayer_17 : decode cX8_whyNoPlayer 17 = .ok (.getfield 7, 3) := by decide +kernel
theorem dX8_whyNoPlayer_20 : decode cX8_whyNoPlayer 20 = .ok (.bipush 6, 2) := by decide +kernel
theorem dX8_whyNoPlayer_22 : decode cX8_whyNoPlayer 22 = .ok (.iaload, 1) := by decide +kernel
theorem dX8_whyNoPlayer_23 : decode cX8_whyNoPlayer 23 = .ok (.iconst 4, 1) := by decide +kernel
theorem dX8_whyNoPlayer_24 : decode cX8_whyNoPlayer 24 = .ok (.if_icmp .ne 8, 3) := by decide +kernel
theorem dX8_whyNoPlayer_27 : decode cX8_whyNoPlayer 27 = .ok (.bipush (-4), 2) := by decide +kernel
theorem dX8_whyNoPlayer_29 : decode cX8_whyNoPlayer 29 = .ok (.goto 4, 3) := by decide +kernel
theorem dX8_whyNoPlayer_32 : decode cX8_whyNoPlayer 32 = .ok (.iconst 0, 1) := by decide +kernel
theorem dX8_whyNoPlayer_33 : decode cX8_whyNoPlayer 33 = .ok (.ireturn, 1) := by decide +kernel
theorem dX8_comes_0 : decode cX8_comes 0 = .ok (.aload_n 0, 1) := by decide +kernel
theorem dX8_comes_1 : decode cX8_comes 1 = .ok (.getfield 7, 3) := by decide +kernel
theorem dX8_comes_4 : decode cX8_comes 4 = .ok (.bipush 6, 2) := by decide +kernel
theorem dX8_comes_6 : decode cX8_comes 6 = .ok (.iaload, 1) := by decide +kernel
theorem dX8_comes_7 : decode cX8_comes 7 = .ok (.istore_n 2, 1) := by decide +kernel
theorem dX8_comes_8 : decode cX8_comes 8 = .ok (.iconst 0, 1) := by decide +kernel
theorem dX8_comes_9 : decode cX8_comes 9 = .ok (.istore_n 3, 1) := by decide +kernel
theorem dX8_comes_10 : decode cX8_comes 10 = .ok (.iload_n 3, 1) := by decide +kernel
theorem dX8_comes_11 : decode cX8_comes 11 = .ok (.bipush 6, 2) := by decide +kernel
theorem dX8_comes_13 : decode cX8_comes 13 = .ok (.if_icmp .ge 32, 3) := by decide +kernel
theorem dX8_comes_16 : decode cX8_comes 16 = .ok (.aload_n 0, 1) := by decide +kernel
theorem dX8_comes_17 : decode cX8_comes 17 = .ok (.getfield 7, 3) := by decide +kernel
theorem dX8_comes_20 : decode cX8_comes 20 = .ok (.bipush 51, 2) := by decide +kernel
theorem dX8_comes_22 : decode cX8_comes 22 = .ok (.bipush 6, 2) := by decide +kernel
theorem dX8_comes_24 : decode cX8_comes 24 = .ok (.iload_n 2, 1) := by decide +kernel
theorem dX8_comes_25 : decode cX8_comes 25 = .ok (.imul, 1) := by decide +kernel
theorem dX8_comes_26 : decode cX8_comes 26 = .ok (.iadd, 1) := by decide +kernel
theorem dX8_comes_27 : decode cX8_comes 27 = .ok (.iload_n 3, 1) := by decide +kernel
theorem dX8_comes_28 : decode cX8_comes 28 = .ok (.iadd, 1) := by decide +kernel
theorem dX8_comes_29 : decode cX8_comes 29 = .ok (.iload_n 3, 1) := by decide +kernel
theorem dX8_comes_30 : decode cX8_comes 30 = .ok (.ifCond .ne 7, 3) := by decide +kernel
theorem dX8_comes_33 : decode cX8_comes 33 = .ok (.iload_n 1, 1) := by decide +kernel
theorem dX8_comes_34 : decode cX8_comes 34 = .ok (.goto 4, 3) := by decide +kernel
theorem dX8_comes_37 : decode cX8_comes 37 = .ok (.iconst 0, 1) := by decide +kernel
theorem dX8_comes_38 : decode cX8_comes 38 = .ok (.iastore, 1) := by decide +kernel
theorem dX8_comes_39 : decode cX8_comes 39 = .ok (.iinc 3 1, 3) := by decide +kernel
theorem dX8_comes_42 : decode cX8_comes 42 = .ok (.goto (-32), 3) := by decide +kernel
theorem dX8_comes_45 : decode cX8_comes 45 = .ok (.aload_n 0, 1) := by decide +kernel
theorem dX8_comes_46 : decode cX8_comes 46 = .ok (.getfield 7, 3) := by decide +kernel
theorem dX8_comes_49 : decode cX8_comes 49 = .ok (.bipush 6, 2) := by decide +kernel
theorem dX8_comes_51 : decode cX8_comes 51 = .ok (.dup2, 1) := by decide +kernel
theorem dX8_comes_52 : decode cX8_comes 52 = .ok (.iaload, 1) := by decide +kernel
theorem dX8_comes_53 : decode cX8_comes 53 = .ok (.iconst 1, 1) := by decide +kernel
theorem dX8_comes_54 : decode cX8_comes 54 = .ok (.iadd, 1) := by decide +kernel
theorem dX8_comes_55 : decode cX8_comes 55 = .ok (.iastore, 1) := by decide +kernel
theorem dX8_comes_56 : decode cX8_comes 56 = .ok (.iload_n 2, 1) := by decide +kernel
theorem dX8_comes_57 : decode cX8_comes 57 = .ok (.ireturn, 1) := by decide +kernel
theorem dX8_player_0 : decode cX8_player 0 = .ok (.aload_n 0, 1) := by decide +kernel
theorem dX8_player_1 : decode cX8_player 1 = .ok (.iload_n 1, 1) := by decide +kernel
theorem dX8_player_2 : decode cX8_player 2 = .ok (.invokevirtual 131, 3) := by decide +kernel
theorem dX8_player_5 : decode cX8_player 5 = .ok (.istore_n 2, 1) := by decide +kernel
theorem dX8_player_6 : decode cX8_player 6 = .ok (.iload_n 2, 1) := by decide +kernel
theorem dX8_player_7 : decode cX8_player 7 = .ok (.ifCond .ge 5, 3) := by decide +kernel
theorem dX8_player_10 : decode cX8_player 10 = .ok (.iload_n 2, 1) := by decide +kernel
theorem dX8_player_11 : decode cX8_player 11 = .ok (.ireturn, 1) := by decide +kernel
theorem dX8_player_12 : decode cX8_player 12 = .ok (.aload_n 0, 1) := by decide +kernel
theorem dX8_player_13 : decode cX8_player 13 = .ok (.invokevirtual 128, 3) := by decide +kernel
theorem dX8_player_16 : decode cX8_player 16 = .ok (.aload_n 0, 1) := by decide +kernel
theorem dX8_player_17 : decode cX8_player 17 = .ok (.iload_n 1, 1) := by decide +kernel
theorem dX8_player_18 : decode cX8_player 18 = .ok (.invokevirtual 134, 3) := by decide +kernel
theorem dX8_player_21 : decode cX8_player 21 = .ok (.ireturn, 1) := by decide +kernel
theorem dX8_seed_0 : decode cX8_seed 0 = .ok (.iload_n 1, 1) := by decide +kernel
theorem dX8_seed_1 : decode cX8_seed 1 = .ok (.iconst 0, 1) := by decide +kernel
theorem dX8_seed_2 : decode cX8_seed 2 = .ok (.sipush 9999, 3) := by decide +kernel
theorem dX8_seed_5 : decode cX8_seed 5 = .ok (.invokestatic 42, 3) := by decide +kernel
theorem dX8_seed_8 : decode cX8_seed 8 = .ok (.ifCond .ne 6, 3) := by decide +kernel
theorem dX8_seed_11 : decode cX8_seed 11 = .ok (.bipush (-2), 2) := by decide +kernel
theorem dX8_seed_13 : decode cX8_seed 13 = .ok (.ireturn, 1) := by decide +kernel
theorem dX8_seed_14 : decode cX8_seed 14 = .ok (.aload_n 0, 1) := by decide +kernel
theorem dX8_seed_15 : decode cX8_seed 15 = .ok (.invokevirtual 128, 3) := by decide +kernel
theorem dX8_seed_18 : decode cX8_seed 18 = .ok (.aload_n 0, 1) := by decide +kernel
theorem dX8_seed_19 : decode cX8_seed 19 = .ok (.getfield 7, 3) := by decide +kernel
theorem dX8_seed_22 : decode cX8_seed 22 = .ok (.bipush 8, 2) := by decide +kernel
theorem dX8_seed_24 : decode cX8_seed 24 = .ok (.iaload, 1) := by decide +kernel
theorem dX8_seed_25 : decode cX8_seed 25 = .ok (.istore_n 2, 1) := by decide +kernel
theorem dX8_seed_26 : decode cX8_seed 26 = .ok (.aload_n 0, 1) := by decide +kernel
theorem dX8_seed_27 : decode cX8_seed 27 = .ok (.getfield 7, 3) := by decide +kernel
theorem dX8_seed_30 : decode cX8_seed 30 = .ok (.bipush 8, 2) := by decide +kernel
theorem dX8_seed_32 : decode cX8_seed 32 = .ok (.iload_n 1, 1) := by decide +kernel
theorem dX8_seed_33 : decode cX8_seed 33 = .ok (.iastore, 1) := by decide +kernel
theorem dX8_seed_34 : decode cX8_seed 34 = .ok (.iload_n 2, 1) := by decide +kernel
theorem dX8_seed_35 : decode cX8_seed 35 = .ok (.ireturn, 1) := by decide +kernel
theorem dX8_whyNoTurns_0 : decode cX8_whyNoTurns 0 = .ok (.iload_n 1, 1) := by decide +kernel
theorem dX8_whyNoTurns_1 : decode cX8_whyNoTurns 1 = .ok (.iconst 1, 1) := by decide +kernel
theorem dX8_whyNoTurns_2 : decode cX8_whyNoTurns 2 = .ok (.bipush 99, 2) := by decide +kernel
theorem dX8_whyNoTurns_4 : decode cX8_whyNoTurns 4 = .ok (.invokestatic 42, 3) := by decide +kernel
theorem dX8_whyNoTurns_7 : decode cX8_whyNoTurns 7 = .ok (.ifCond .ne 6, 3) := by decide +kernel
theorem dX8_whyNoTurns_10 : decode cX8_whyNoTurns 10 = .ok (.bipush (-2), 2) := by decide +kernel
theorem dX8_whyNoTurns_12 : decode cX8_whyNoTurns 12 = .ok (.ireturn, 1) := by decide +kernel
theorem dX8_whyNoTurns_13 : decode cX8_whyNoTurns 13 = .ok (.aload_n 0, 1) := by decide +kernel
theorem dX8_whyNoTurns_14 : decode cX8_whyNoTurns 14 = .ok (.getfield 7, 3) := by decide +kernel
theorem dX8_whyNoTurns_17 : decode cX8_whyNoTurns 17 = .ok (.bipush 6, 2) := by decide +kernel
theorem dX8_whyNoTurns_19 : decode cX8_whyNoTurns 19 = .ok (.iaload, 1) := by decide +kernel
theorem dX8_whyNoTurns_20 : decode cX8_whyNoTurns 20 = .ok (.ifCond .eq 17, 3) := by decide +kernel
theorem dX8_whyNoTurns_23 : decode cX8_whyNoTurns 23 = .ok (.aload_n 0, 1) := by decide +kernel
theorem dX8_whyNoTurns_24 : decode cX8_whyNoTurns 24 = .ok (.getfield 7, 3) := by decide +kernel
theorem dX8_whyNoTurns_27 : decode cX8_whyNoTurns 27 = .ok (.iconst 5, 1) := by decide +kernel
theorem dX8_whyNoTurns_28 : decode cX8_whyNoTurns 28 = .ok (.iaload, 1) := by decide +kernel
theorem dX8_whyNoTurns_29 : decode cX8_whyNoTurns 29 = .ok (.iload_n 1, 1) := by decide +kernel
theorem dX8_whyNoTurns_30 : decode cX8_whyNoTurns 30 = .ok (.iadd, 1) := by decide +kernel
theorem dX8_whyNoTurns_31 : decode cX8_whyNoTurns 31 = .ok (.sipush 9999, 3) := by decide +kernel
theorem dX8_whyNoTurns_34 : decode cX8_whyNoTurns 34 = .ok (.if_icmp .le 8, 3) := by decide +kernel
theorem dX8_whyNoTurns_37 : decode cX8_whyNoTurns 37 = .ok (.bipush (-5), 2) := by decide +kernel
theorem dX8_whyNoTurns_39 : decode cX8_whyNoTurns 39 = .ok (.goto 4, 3) := by decide +kernel
theorem dX8_whyNoTurns_42 : decode cX8_whyNoTurns 42 = .ok (.iconst 0, 1) := by decide +kernel
theorem dX8_whyNoTurns_43 : decode cX8_whyNoTurns 43 = .ok (.ireturn, 1) := by decide +kernel
theorem dX8_go_0 : decode cX8_go 0 = .ok (.aload_n 0, 1) := by decide +kernel
theorem dX8_go_1 : decode cX8_go 1 = .ok (.iload_n 1, 1) := by decide +kernel
theorem dX8_go_2 : decode cX8_go 2 = .ok (.invokevirtual 137, 3) := by decide +kernel
theorem dX8_go_5 : decode cX8_go 5 = .ok (.istore_n 2, 1) := by decide +kernel
theorem dX8_go_6 : decode cX8_go 6 = .ok (.iload_n 2, 1) := by decide +kernel
theorem dX8_go_7 : decode cX8_go 7 = .ok (.ifCond .ge 5, 3) := by decide +kernel
theorem dX8_go_10 : decode cX8_go 10 = .ok (.iload_n 2, 1) := by decide +kernel
theorem dX8_go_11 : decode cX8_go 11 = .ok (.ireturn, 1) := by decide +kernel
theorem dX8_go_12 : decode cX8_go 12 = .ok (.aload_n 0, 1) := by decide +kernel
theorem dX8_go_13 : decode cX8_go 13 = .ok (.invokevirtual 128, 3) := by decide +kernel
theorem dX8_go_16 : decode cX8_go 16 = .ok (.aload_n 0, 1) := by decide +kernel
theorem dX8_go_17 : decode cX8_go 17 = .ok (.iload_n 1, 1) := by decide +kernel
theorem dX8_go_18 : decode cX8_go 18 = .ok (.invokevirtual 140, 3) := by decide +kernel
theorem dX8_go_21 : decode cX8_go 21 = .ok (.ireturn, 1) := by decide +kernel
theorem dX8_takesRing_0 : decode cX8_takesRing 0 = .ok (.aload_n 0, 1) := by decide +kernel
theorem dX8_takesRing_1 : decode cX8_takesRing 1 = .ok (.getfield 28, 3) := by decide +kernel
theorem dX8_takesRing_4 : decode cX8_takesRing 4 = .ok (.iconst 0, 1) := by decide +kernel
theorem dX8_takesRing_5 : decode cX8_takesRing 5 = .ok (.iload_n 1, 1) := by decide +kernel
theorem dX8_takesRing_6 : decode cX8_takesRing 6 = .ok (.iastore, 1) := by decide +kernel
theorem dX8_takesRing_7 : decode cX8_takesRing 7 = .ok (.aload_n 0, 1) := by decide +kernel
theorem dX8_takesRing_8 : decode cX8_takesRing 8 = .ok (.getfield 28, 3) := by decide +kernel
theorem dX8_takesRing_11 : decode cX8_takesRing 11 = .ok (.iconst 1, 1) := by decide +kernel
theorem dX8_takesRing_12 : decode cX8_takesRing 12 = .ok (.iload_n 2, 1) := by decide +kernel
theorem dX8_takesRing_13 : decode cX8_takesRing 13 = .ok (.iastore, 1) := by decide +kernel
theorem dX8_takesRing_14 : decode cX8_takesRing 14 = .ok (.aload_n 0, 1) := by decide +kernel
theorem dX8_takesRing_15 : decode cX8_takesRing 15 = .ok (.getfield 28, 3) := by decide +kernel
theorem dX8_takesRing_18 : decode cX8_takesRing 18 = .ok (.iconst 2, 1) := by decide +kernel
theorem dX8_takesRing_19 : decode cX8_takesRing 19 = .ok (.iload_n 3, 1) := by decide +kernel
theorem dX8_takesRing_20 : decode cX8_takesRing 20 = .ok (.iastore, 1) := by decide +kernel
theorem dX8_takesRing_21 : decode cX8_takesRing 21 = .ok (.aload_n 0, 1) := by decide +kernel
theorem dX8_takesRing_22 : decode cX8_takesRing 22 = .ok (.getfield 28, 3) := by decide +kernel
theorem dX8_takesRing_25 : decode cX8_takesRing 25 = .ok (.iconst 3, 1) := by decide +kernel
theorem dX8_takesRing_26 : decode cX8_takesRing 26 = .ok (.iload 4, 2) := by decide +kernel
theorem dX8_takesRing_28 : decode cX8_takesRing 28 = .ok (.iastore, 1) := by decide +kernel
theorem dX8_takesRing_29 : decode cX8_takesRing 29 = .ok (.aload_n 0, 1) := by decide +kernel
theorem dX8_takesRing_30 : decode cX8_takesRing 30 = .ok (.iload 5, 2) := by decide +kernel
theorem dX8_takesRing_32 : decode cX8_takesRing 32 = .ok (.putfield 143, 3) := by decide +kernel
theorem dX8_takesRing_35 : decode cX8_takesRing 35 = .ok (.return_, 1) := by decide +kernel
theorem dX8_findRing_0 : decode cX8_findRing 0 = .ok (.iconst 0, 1) := by decide +kernel
theorem dX8_findRing_1 : decode cX8_findRing 1 = .ok (.istore_n 3, 1) := by decide +kernel
theorem dX8_findRing_2 : decode cX8_findRing 2 = .ok (.iload_n 3, 1) := by decide +kernel
theorem dX8_findRing_3 : decode cX8_findRing 3 = .ok (.bipush 64, 2) := by decide +kernel
theorem dX8_findRing_5 : decode cX8_findRing 5 = .ok (.if_icmp .ge 172, 3) := by decide +kernel
theorem dX8_findRing_8 : decode cX8_findRing 8 = .ok (.iload_n 3, 1) := by decide +kernel
theorem dX8_findRing_9 : decode cX8_findRing 9 = .ok (.bipush 16, 2) := by decide +kernel
theorem dX8_findRing_11 : decode cX8_findRing 11 = .ok (.idiv, 1) := by decide +kernel
theorem dX8_findRing_12 : decode cX8_findRing 12 = .ok (.istore 4, 2) := by decide +kernel
theorem dX8_findRing_14 : decode cX8_findRing 14 = .ok (.iload_n 2, 1) := by decide +kernel
theorem dX8_findRing_15 : decode cX8_findRing 15 = .ok (.iconst 2, 1) := by decide +kernel
theorem dX8_findRing_16 : decode cX8_findRing 16 = .ok (.if_icmp .le 11, 3) := by decide +kernel
theorem dX8_findRing_19 : decode cX8_findRing 19 = .ok (.iload_n 3, 1) := by decide +kernel
theorem dX8_findRing_20 : decode cX8_findRing 20 = .ok (.iconst 4, 1) := by decide +kernel
theorem dX8_findRing_21 : decode cX8_findRing 21 = .ok (.idiv, 1) := by decide +kernel
theorem dX8_findRing_22 : decode cX8_findRing 22 = .ok (.iconst 4, 1) := by decide +kernel
theorem dX8_findRing_23 : decode cX8_findRing 23 = .ok (.irem, 1) := by decide +kernel
theorem dX8_findRing_24 : decode cX8_findRing 24 = .ok (.goto 4, 3) := by decide +kernel
theorem dX8_findRing_27 : decode cX8_findRing 27 = .ok (.iload_n 1, 1) := by decide +kernel
theorem dX8_findRing_28 : decode cX8_findRing 28 = .ok (.istore 5, 2) := by decide +kernel
theorem dX8_findRing_30 : decode cX8_findRing 30 = .ok (.iload_n 2, 1) := by decide +kernel
theorem dX8_findRing_31 : decode cX8_findRing 31 = .ok (.iconst 3, 1) := by decide +kernel
theorem dX8_findRing_32 : decode cX8_findRing 32 = .ok (.if_icmp .le 9, 3) := by decide +kernel
theorem dX8_findRing_35 : decode cX8_findRing 35 = .ok (.iload_n 3, 1) := by decide +kernel
theorem dX8_findRing_36 : decode cX8_findRing 36 = .ok (.iconst 4, 1) := by decide +kernel
theorem dX8_findRing_37 : decode cX8_findRing 37 = .ok (.irem, 1) := by decide +kernel
theorem dX8_findRing_38 : decode cX8_findRing 38 = .ok (.goto 4, 3) := by decide +kernel
theorem dX8_findRing_41 : decode cX8_findRing 41 = .ok (.iload_n 1, 1) := by decide +kernel
theorem dX8_findRing_42 : decode cX8_findRing 42 = .ok (.istore 6, 2) := by decide +kernel
theorem dX8_findRing_44 : decode cX8_findRing 44 = .ok (.iload 4, 2) := by decide +kernel
theorem dX8_findRing_46 : decode cX8_findRing 46 = .ok (.iload_n 1, 1) := by decide +kernel
theorem dX8_findRing_47 : decode cX8_findRing 47 = .ok (.if_icmp .eq 28, 3) := by decide +kernel
theorem dX8_findRing_50 : decode cX8_findRing 50 = .ok (.aload_n 0, 1) := by decide +kernel
theorem dX8_findRing_51 : decode cX8_findRing 51 = .ok (.iload_n 1, 1) := by decide +kernel
theorem dX8_findRing_52 : decode cX8_findRing 52 = .ok (.iload 4, 2) := by decide +kernel
theorem dX8_findRing_54 : decode cX8_findRing 54 = .ok (.invokevirtual 46, 3) := by decide +kernel
theorem dX8_findRing_57 : decode cX8_findRing 57 = .ok (.ifCond .le 18, 3) := by decide +kernel
theorem dX8_findRing_60 : decode cX8_findRing 60 = .ok (.aload_n 0, 1) := by decide +kernel
theorem dX8_findRing_61 : decode cX8_findRing 61 = .ok (.iload 4, 2) := by decide +kernel
theorem dX8_findRing_63 : decode cX8_findRing 63 = .ok (.iload 5, 2) := by decide +kernel
theorem dX8_findRing_65 : decode cX8_findRing 65 = .ok (.invokevirtual 46, 3) := by decide +kernel
theorem dX8_findRing_68 : decode cX8_findRing 68 = .ok (.ifCond .le 7, 3) := by decide +kernel
theorem dX8_findRing_71 : decode cX8_findRing 71 = .ok (.iconst 1, 1) := by decide +kernel
theorem dX8_findRing_72 : decode cX8_findRing 72 = .ok (.goto 4, 3) := by decide +kernel
theorem dX8_findRing_75 : decode cX8_findRing 75 = .ok (.iconst 0, 1) := by decide +kernel
theorem dX8_findRing_76 : decode cX8_findRing 76 = .ok (.istore 7, 2) := by decide +kernel
theorem dX8_findRing_78 : decode cX8_findRing 78 = .ok (.iload 7, 2) := by decide +kernel
theorem dX8_findRing_80 : decode cX8_findRing 80 = .ok (.ifCond .eq 29, 3) := by decide +kernel
theorem dX8_findRing_83 : decode cX8_findRing 83 = .ok (.iload_n 2, 1) := by decide +kernel
theorem dX8_findRing_84 : decode cX8_findRing 84 = .ok (.iconst 3, 1) := by decide +kernel
theorem dX8_findRing_85 : decode cX8_findRing 85 = .ok (.if_icmp .lt 20, 3) := by decide +kernel
theorem dX8_findRing_88 : decode cX8_findRing 88 = .ok (.iload 5, 2) := by decide +kernel
theorem dX8_findRing_90 : decode cX8_findRing 90 = .ok (.iload_n 1, 1) := by decide +kernel
theorem dX8_findRing_91 : decode cX8_findRing 91 = .ok (.if_icmp .eq 18, 3) := by decide +kernel
theorem dX8_findRing_94 : decode cX8_findRing 94 = .ok (.aload_n 0, 1) := by decide +kernel
theorem dX8_findRing_95 : decode cX8_findRing 95 = .ok (.iload 5, 2) := by decide +kernel
theorem dX8_findRing_97 : decode cX8_findRing 97 = .ok (.iload 6, 2) := by decide +kernel
theorem dX8_findRing_99 : decode cX8_findRing 99 = .ok (.invokevirtual 46, 3) := by decide +kernel
theorem dX8_findRing_102 : decode cX8_findRing 102 = .ok (.ifCond .le 7, 3) := by decide +kernel
theorem dX8_findRing_105 : decode cX8_findRing 105 = .ok (.iconst 1, 1) := by decide +kernel
theorem dX8_findRing_106 : decode cX8_findRing 106 = .ok (.goto 4, 3) := by decide +kernel
theorem dX8_findRing_109 : decode cX8_findRing 109 = .ok (.iconst 0, 1) := by decide +kernel
theorem dX8_findRing_110 : decode cX8_findRing 110 = .ok (.istore 7, 2) := by decide +kernel
theorem dX8_findRing_112 : decode cX8_findRing 112 = .ok (.iload 7, 2) := by decide +kernel
theorem dX8_findRing_114 : decode cX8_findRing 114 = .ok (.ifCond .eq 35, 3) := by decide +kernel
theorem dX8_findRing_117 : decode cX8_findRing 117 = .ok (.iload_n 2, 1) := by decide +kernel
theorem dX8_findRing_118 : decode cX8_findRing 118 = .ok (.iconst 4, 1) := by decide +kernel
theorem dX8_findRing_119 : decode cX8_findRing 119 = .ok (.if_icmp .lt 26, 3) := by decide +kernel
theorem dX8_findRing_122 : decode cX8_findRing 122 = .ok (.iload 6, 2) := by decide +kernel
theorem dX8_findRing_124 : decode cX8_findRing 124 = .ok (.iload_n 1, 1) := by decide +kernel
theorem dX8_findRing_125 : decode cX8_findRing 125 = .ok (.if_icmp .eq 24, 3) := by decide +kernel
theorem dX8_findRing_128 : decode cX8_findRing 128 = .ok (.iload 6, 2) := by decide +kernel
theorem dX8_findRing_130 : decode cX8_findRing 130 = .ok (.iload 4, 2) := by decide +kernel
theorem dX8_findRing_132 : decode cX8_findRing 132 = .ok (.if_icmp .eq 17, 3) := by decide +kernel
theorem dX8_findRing_135 : decode cX8_findRing 135 = .ok (.aload_n 0, 1) := by decide +kernel
theorem dX8_findRing_136 : decode cX8_findRing 136 = .ok (.iload 6, 2) := by decide +kernel
theorem dX8_findRing_138 : decode cX8_findRing 138 = .ok (.iload_n 1, 1) := by decide +kernel
theorem dX8_findRing_139 : decode cX8_findRing 139 = .ok (.invokevirtual 46, 3) := by decide +kernel
theorem dX8_findRing_142 : decode cX8_findRing 142 = .ok (.ifCond .le 7, 3) := by decide +kernel
theorem dX8_findRing_145 : decode cX8_findRing 145 = .ok (.iconst 1, 1) := by decide +kernel
theorem dX8_findRing_146 : decode cX8_findRing 146 = .ok (.goto 4, 3) := by decide +kernel
theorem dX8_findRing_149 : decode cX8_findRing 149 = .ok (.iconst 0, 1) := by decide +kernel
theorem dX8_findRing_150 : decode cX8_findRing 150 = .ok (.istore 7, 2) := by decide +kernel
theorem dX8_findRing_152 : decode cX8_findRing 152 = .ok (.iload 7, 2) := by decide +kernel
theorem dX8_findRing_154 : decode cX8_findRing 154 = .ok (.ifCond .eq 17, 3) := by decide +kernel
theorem dX8_findRing_157 : decode cX8_findRing 157 = .ok (.aload_n 0, 1) := by decide +kernel
theorem dX8_findRing_158 : decode cX8_findRing 158 = .ok (.iload_n 1, 1) := by decide +kernel
theorem dX8_findRing_159 : decode cX8_findRing 159 = .ok (.iload 4, 2) := by decide +kernel
theorem dX8_findRing_161 : decode cX8_findRing 161 = .ok (.iload 5, 2) := by decide +kernel
theorem dX8_findRing_163 : decode cX8_findRing 163 = .ok (.iload 6, 2) := by decide +kernel
theorem dX8_findRing_165 : decode cX8_findRing 165 = .ok (.iload_n 2, 1) := by decide +kernel
theorem dX8_findRing_166 : decode cX8_findRing 166 = .ok (.invokevirtual 146, 3) := by decide +kernel
theorem dX8_findRing_169 : decode cX8_findRing 169 = .ok (.iconst 1, 1) := by decide +kernel
theorem dX8_findRing_170 : decode cX8_findRing 170 = .ok (.ireturn, 1) := by decide +kernel
theorem dX8_findRing_171 : decode cX8_findRing 171 = .ok (.iinc 3 1, 3) := by decide +kernel
theorem dX8_findRing_174 : decode cX8_findRing 174 = .ok (.goto (-172), 3) := by decide +kernel
theorem dX8_findRing_177 : decode cX8_findRing 177 = .ok (.iconst 0, 1) := by decide +kernel
theorem dX8_findRing_178 : decode cX8_findRing 178 = .ok (.ireturn, 1) := by decide +kernel
theorem dX8_clearsRing_0 : decode cX8_clearsRing 0 = .ok (.aload_n 0, 1) := by decide +kernel
theorem dX8_clearsRing_1 : decode cX8_clearsRing 1 = .ok (.aload_n 0, 1) := by decide +kernel
theorem dX8_clearsRing_2 : decode cX8_clearsRing 2 = .ok (.getfield 28, 3) := by decide +kernel
theorem dX8_clearsRing_5 : decode cX8_clearsRing 5 = .ok (.iconst 0, 1) := by decide +kernel
theorem dX8_clearsRing_6 : decode cX8_clearsRing 6 = .ok (.iaload, 1) := by decide +kernel
theorem dX8_clearsRing_7 : decode cX8_clearsRing 7 = .ok (.aload_n 0, 1) := by decide +kernel
theorem dX8_clearsRing_8 : decode cX8_clearsRing 8 = .ok (.getfield 28, 3) := by decide +kernel
theorem dX8_clearsRing_11 : decode cX8_clearsRing 11 = .ok (.iconst 1, 1) := by decide +kernel
theorem dX8_clearsRing_12 : decode cX8_clearsRing 12 = .ok (.iaload, 1) := by decide +kernel
theorem dX8_clearsRing_13 : decode cX8_clearsRing 13 = .ok (.invokevirtual 46, 3) := by decide +kernel
theorem dX8_clearsRing_16 : decode cX8_clearsRing 16 = .ok (.istore_n 1, 1) := by decide +kernel
theorem dX8_clearsRing_17 : decode cX8_clearsRing 17 = .ok (.iconst 1, 1) := by decide +kernel
theorem dX8_clearsRing_18 : decode cX8_clearsRing 18 = .ok (.istore_n 2, 1) := by decide +kernel
theorem dX8_clearsRing_19 : decode cX8_clearsRing 19 = .ok (.iload_n 2, 1) := by decide +kernel
theorem dX8_clearsRing_20 : decode cX8_clearsRing 20 = .ok (.aload_n 0, 1) := by decide +kernel
theorem dX8_clearsRing_21 : decode cX8_clearsRing 21 = .ok (.getfield 143, 3) := by decide +kernel
theorem dX8_clearsRing_24 : decode cX8_clearsRing 24 = .ok (.if_icmp .ge 44, 3) := by decide +kernel
theorem dX8_clearsRing_27 : decode cX8_clearsRing 27 = .ok (.aload_n 0, 1) := by decide +kernel
theorem dX8_clearsRing_28 : decode cX8_clearsRing 28 = .ok (.aload_n 0, 1) := by decide +kernel
theorem dX8_clearsRing_29 : decode cX8_clearsRing 29 = .ok (.getfield 28, 3) := by decide +kernel
theorem dX8_clearsRing_32 : decode cX8_clearsRing 32 = .ok (.iload_n 2, 1) := by decide +kernel
theorem dX8_clearsRing_33 : decode cX8_clearsRing 33 = .ok (.iaload, 1) := by decide +kernel
theorem dX8_clearsRing_34 : decode cX8_clearsRing 34 = .ok (.aload_n 0, 1) := by decide +kernel
theorem dX8_clearsRing_35 : decode cX8_clearsRing 35 = .ok (.getfield 28, 3) := by decide +kernel
theorem dX8_clearsRing_38 : decode cX8_clearsRing 38 = .ok (.iload_n 2, 1) := by decide +kernel
theorem dX8_clearsRing_39 : decode cX8_clearsRing 39 = .ok (.iconst 1, 1) := by decide +kernel
theorem dX8_clearsRing_40 : decode cX8_clearsRing 40 = .ok (.iadd, 1) := by decide +kernel
theorem dX8_clearsRing_41 : decode cX8_clearsRing 41 = .ok (.aload_n 0, 1) := by decide +kernel
theorem dX8_clearsRing_42 : decode cX8_clearsRing 42 = .ok (.getfield 143, 3) := by decide +kernel
theorem dX8_clearsRing_45 : decode cX8_clearsRing 45 = .ok (.irem, 1) := by decide +kernel
theorem dX8_clearsRing_46 : decode cX8_clearsRing 46 = .ok (.iaload, 1) := by decide +kernel
theorem dX8_clearsRing_47 : decode cX8_clearsRing 47 = .ok (.invokevirtual 46, 3) := by decide +kernel
theorem dX8_clearsRing_50 : decode cX8_clearsRing 50 = .ok (.istore_n 3, 1) := by decide +kernel
theorem dX8_clearsRing_51 : decode cX8_clearsRing 51 = .ok (.iload_n 3, 1) := by decide +kernel
theorem dX8_clearsRing_52 : decode cX8_clearsRing 52 = .ok (.iload_n 1, 1) := by decide +kernel
theorem dX8_clearsRing_53 : decode cX8_clearsRing 53 = .ok (.if_icmp .ge 7, 3) := by decide +kernel
theorem dX8_clearsRing_56 : decode cX8_clearsRing 56 = .ok (.iload_n 3, 1) := by decide +kernel
theorem dX8_clearsRing_57 : decode cX8_clearsRing 57 = .ok (.goto 4, 3) := by decide +kernel
theorem dX8_clearsRing_60 : decode cX8_clearsRing 60 = .ok (.iload_n 1, 1) := by decide +kernel
theorem dX8_clearsRing_61 : decode cX8_clearsRing 61 = .ok (.istore_n 1, 1) := by decide +kernel
theorem dX8_clearsRing_62 : decode cX8_clearsRing 62 = .ok (.iinc 2 1, 3) := by decide +kernel
theorem dX8_clearsRing_65 : decode cX8_clearsRing 65 = .ok (.goto (-46), 3) := by decide +kernel
theorem dX8_clearsRing_68 : decode cX8_clearsRing 68 = .ok (.iconst 0, 1) := by decide +kernel
theorem dX8_clearsRing_69 : decode cX8_clearsRing 69 = .ok (.istore_n 2, 1) := by decide +kernel
theorem dX8_clearsRing_70 : decode cX8_clearsRing 70 = .ok (.iload_n 2, 1) := by decide +kernel
theorem dX8_clearsRing_71 : decode cX8_clearsRing 71 = .ok (.aload_n 0, 1) := by decide +kernel
theorem dX8_clearsRing_72 : decode cX8_clearsRing 72 = .ok (.getfield 143, 3) := by decide +kernel
theorem dX8_clearsRing_75 : decode cX8_clearsRing 75 = .ok (.if_icmp .ge 34, 3) := by decide +kernel
theorem dX8_clearsRing_78 : decode cX8_clearsRing 78 = .ok (.aload_n 0, 1) := by decide +kernel
theorem dX8_clearsRing_79 : decode cX8_clearsRing 79 = .ok (.aload_n 0, 1) := by decide +kernel
theorem dX8_clearsRing_80 : decode cX8_clearsRing 80 = .ok (.getfield 28, 3) := by decide +kernel
theorem dX8_clearsRing_83 : decode cX8_clearsRing 83 = .ok (.iload_n 2, 1) := by decide +kernel
theorem dX8_clearsRing_84 : decode cX8_clearsRing 84 = .ok (.iaload, 1) := by decide +kernel
theorem dX8_clearsRing_85 : decode cX8_clearsRing 85 = .ok (.aload_n 0, 1) := by decide +kernel
theorem dX8_clearsRing_86 : decode cX8_clearsRing 86 = .ok (.getfield 28, 3) := by decide +kernel
theorem dX8_clearsRing_89 : decode cX8_clearsRing 89 = .ok (.iload_n 2, 1) := by decide +kernel
theorem dX8_clearsRing_90 : decode cX8_clearsRing 90 = .ok (.iconst 1, 1) := by decide +kernel
theorem dX8_clearsRing_91 : decode cX8_clearsRing 91 = .ok (.iadd, 1) := by decide +kernel
theorem dX8_clearsRing_92 : decode cX8_clearsRing 92 = .ok (.aload_n 0, 1) := by decide +kernel
theorem dX8_clearsRing_93 : decode cX8_clearsRing 93 = .ok (.getfield 143, 3) := by decide +kernel
theorem dX8_clearsRing_96 : decode cX8_clearsRing 96 = .ok (.irem, 1) := by decide +kernel
theorem dX8_clearsRing_97 : decode cX8_clearsRing 97 = .ok (.iaload, 1) := by decide +kernel
theorem dX8_clearsRing_98 : decode cX8_clearsRing 98 = .ok (.iload_n 1, 1) := by decide +kernel
theorem dX8_clearsRing_99 : decode cX8_clearsRing 99 = .ok (.ineg, 1) := by decide +kernel
theorem dX8_clearsRing_100 : decode cX8_clearsRing 100 = .ok (.invokevirtual 79, 3) := by decide +kernel
theorem dX8_clearsRing_103 : decode cX8_clearsRing 103 = .ok (.iinc 2 1, 3) := by decide +kernel
theorem dX8_clearsRing_106 : decode cX8_clearsRing 106 = .ok (.goto (-36), 3) := by decide +kernel
theorem dX8_clearsRing_109 : decode cX8_clearsRing 109 = .ok (.iload_n 1, 1) := by decide +kernel
theorem dX8_clearsRing_110 : decode cX8_clearsRing 110 = .ok (.ireturn, 1) := by decide +kernel
theorem dX8_clears_0 : decode cX8_clears 0 = .ok (.iconst 0, 1) := by decide +kernel
theorem dX8_clears_1 : decode cX8_clears 1 = .ok (.istore_n 2, 1) := by decide +kernel
theorem dX8_clears_2 : decode cX8_clears 2 = .ok (.aload_n 0, 1) := by decide +kernel
theorem dX8_clears_3 : decode cX8_clears 3 = .ok (.iload_n 1, 1) := by decide +kernel
theorem dX8_clears_4 : decode cX8_clears 4 = .ok (.iconst 2, 1) := by decide +kernel
theorem dX8_clears_5 : decode cX8_clears 5 = .ok (.invokevirtual 150, 3) := by decide +kernel
theorem dX8_clears_8 : decode cX8_clears 8 = .ok (.ifCond .ne 21, 3) := by decide +kernel
theorem dX8_clears_11 : decode cX8_clears 11 = .ok (.aload_n 0, 1) := by decide +kernel
theorem dX8_clears_12 : decode cX8_clears 12 = .ok (.iload_n 1, 1) := by decide +kernel
theorem dX8_clears_13 : decode cX8_clears 13 = .ok (.iconst 3, 1) := by decide +kernel
theorem dX8_clears_14 : decode cX8_clears 14 = .ok (.invokevirtual 150, 3) := by decide +kernel
theorem dX8_clears_17 : decode cX8_clears 17 = .ok (.ifCond .ne 12, 3) := by decide +kernel
theorem dX8_clears_20 : decode cX8_clears 20 = .ok (.aload_n 0, 1) := by decide +kernel
theorem dX8_clears_21 : decode cX8_clears 21 = .ok (.iload_n 1, 1) := by decide +kernel
theorem dX8_clears_22 : decode cX8_clears 22 = .ok (.iconst 4, 1) := by decide +kernel
theorem dX8_clears_23 : decode cX8_clears 23 = .ok (.invokevirtual 150, 3) := by decide +kernel
theorem dX8_clears_26 : decode cX8_clears 26 = .ok (.ifCond .eq 13, 3) := by decide +kernel
theorem dX8_clears_29 : decode cX8_clears 29 = .ok (.iload_n 2, 1) := by decide +kernel
theorem dX8_clears_30 : decode cX8_clears 30 = .ok (.aload_n 0, 1) := by decide +kernel
theorem dX8_clears_31 : decode cX8_clears 31 = .ok (.invokevirtual 153, 3) := by decide +kernel
theorem dX8_clears_34 : decode cX8_clears 34 = .ok (.iadd, 1) := by decide +kernel
theorem dX8_clears_35 : decode cX8_clears 35 = .ok (.istore_n 2, 1) := by decide +kernel
theorem dX8_clears_36 : decode cX8_clears 36 = .ok (.goto (-34), 3) := by decide +kernel
theorem dX8_clears_39 : decode cX8_clears 39 = .ok (.iload_n 2, 1) := by decide +kernel
theorem dX8_clears_40 : decode cX8_clears 40 = .ok (.ireturn, 1) := by decide +kernel
theorem dX8_clear_0 : decode cX8_clear 0 = .ok (.aload_n 0, 1) := by decide +kernel
theorem dX8_clear_1 : decode cX8_clear 1 = .ok (.iload_n 1, 1) := by decide +kernel
theorem dX8_clear_2 : decode cX8_clear 2 = .ok (.invokevirtual 156, 3) := by decide +kernel
theorem dX8_clear_5 : decode cX8_clear 5 = .ok (.ifCond .ne 5, 3) := by decide +kernel
theorem dX8_clear_8 : decode cX8_clear 8 = .ok (.iconst (-1), 1) := by decide +kernel
theorem dX8_clear_9 : decode cX8_clear 9 = .ok (.ireturn, 1) := by decide +kernel
theorem dX8_clear_10 : decode cX8_clear 10 = .ok (.aload_n 0, 1) := by decide +kernel
theorem dX8_clear_11 : decode cX8_clear 11 = .ok (.invokevirtual 128, 3) := by decide +kernel
theorem dX8_clear_14 : decode cX8_clear 14 = .ok (.aload_n 0, 1) := by decide +kernel
theorem dX8_clear_15 : decode cX8_clear 15 = .ok (.iload_n 1, 1) := by decide +kernel
theorem dX8_clear_16 : decode cX8_clear 16 = .ok (.invokevirtual 159, 3) := by decide +kernel
theorem dX8_clear_19 : decode cX8_clear 19 = .ok (.ireturn, 1) := by decide +kernel
theorem dX8_of_0 : decode cX8_of 0 = .ok (.aload_n 0, 1) := by decide +kernel
theorem dX8_of_1 : decode cX8_of 1 = .ok (.iload_n 1, 1) := by decide +kernel
theorem dX8_of_2 : decode cX8_of 2 = .ok (.invokevirtual 156, 3) := by decide +kernel
theorem dX8_of_5 : decode cX8_of 5 = .ok (.ifCond .ne 5, 3) := by decide +kernel
theorem dX8_of_8 : decode cX8_of 8 = .ok (.iconst (-1), 1) := by decide +kernel
theorem dX8_of_9 : decode cX8_of 9 = .ok (.ireturn, 1) := by decide +kernel
theorem dX8_of_10 : decode cX8_of 10 = .ok (.iload_n 2, 1) := by decide +kernel
theorem dX8_of_11 : decode cX8_of 11 = .ok (.tableswitch 109 0 8 #[49, 56, 63, 69, 75, 81, 88, 95, 102], 49) := by decide +kernel
theorem dX8_of_60 : decode cX8_of 60 = .ok (.aload_n 0, 1) := by decide +kernel
theorem dX8_of_61 : decode cX8_of 61 = .ok (.iload_n 1, 1) := by decide +kernel
theorem dX8_of_62 : decode cX8_of 62 = .ok (.iconst 0, 1) := by decide +kernel
theorem dX8_of_63 : decode cX8_of 63 = .ok (.invokevirtual 54, 3) := by decide +kernel
theorem dX8_of_66 : decode cX8_of 66 = .ok (.ireturn, 1) := by decide +kernel
theorem dX8_of_67 : decode cX8_of 67 = .ok (.aload_n 0, 1) := by decide +kernel
theorem dX8_of_68 : decode cX8_of 68 = .ok (.iload_n 1, 1) := by decide +kernel
theorem dX8_of_69 : decode cX8_of 69 = .ok (.iconst 1, 1) := by decide +kernel
theorem dX8_of_70 : decode cX8_of 70 = .ok (.invokevirtual 54, 3) := by decide +kernel
theorem dX8_of_73 : decode cX8_of 73 = .ok (.ireturn, 1) := by decide +kernel
theorem dX8_of_74 : decode cX8_of 74 = .ok (.aload_n 0, 1) := by decide +kernel
theorem dX8_of_75 : decode cX8_of 75 = .ok (.iload_n 1, 1) := by decide +kernel
theorem dX8_of_76 : decode cX8_of 76 = .ok (.invokevirtual 162, 3) := by decide +kernel
theorem dX8_of_79 : decode cX8_of 79 = .ok (.ireturn, 1) := by decide +kernel
theorem dX8_of_80 : decode cX8_of 80 = .ok (.aload_n 0, 1) := by decide +kernel
theorem dX8_of_81 : decode cX8_of 81 = .ok (.iload_n 1, 1) := by decide +kernel
theorem dX8_of_82 : decode cX8_of 82 = .ok (.invokevirtual 61, 3) := by decide +kernel
theorem dX8_of_85 : decode cX8_of 85 = .ok (.ireturn, 1) := by decide +kernel
theorem dX8_of_86 : decode cX8_of 86 = .ok (.aload_n 0, 1) := by decide +kernel
theorem dX8_of_87 : decode cX8_of 87 = .ok (.iload_n 1, 1) := by decide +kernel
theorem dX8_of_88 : decode cX8_of 88 = .ok (.invokevirtual 165, 3) := by decide +kernel
theorem dX8_of_91 : decode cX8_of 91 = .ok (.ireturn, 1) := by decide +kernel
theorem dX8_of_92 : decode cX8_of 92 = .ok (.aload_n 0, 1) := by decide +kernel
theorem dX8_of_93 : decode cX8_of 93 = .ok (.iload_n 1, 1) := by decide +kernel
theorem dX8_of_94 : decode cX8_of 94 = .ok (.iconst 2, 1) := by decide +kernel
theorem dX8_of_95 : decode cX8_of 95 = .ok (.invokevirtual 54, 3) := by decide +kernel
theorem dX8_of_98 : decode cX8_of 98 = .ok (.ireturn, 1) := by decide +kernel
theorem dX8_of_99 : decode cX8_of 99 = .ok (.aload_n 0, 1) := by decide +kernel
theorem dX8_of_100 : decode cX8_of 100 = .ok (.iload_n 1, 1) := by decide +kernel
theorem dX8_of_101 : decode cX8_of 101 = .ok (.iconst 3, 1) := by decide +kernel
theorem dX8_of_102 : decode cX8_of 102 = .ok (.invokevirtual 54, 3) := by decide +kernel
theorem dX8_of_105 : decode cX8_of 105 = .ok (.ireturn, 1) := by decide +kernel
theorem dX8_of_106 : decode cX8_of 106 = .ok (.aload_n 0, 1) := by decide +kernel
theorem dX8_of_107 : decode cX8_of 107 = .ok (.iload_n 1, 1) := by decide +kernel
theorem dX8_of_108 : decode cX8_of 108 = .ok (.iconst 4, 1) := by decide +kernel
theorem dX8_of_109 : decode cX8_of 109 = .ok (.invokevirtual 54, 3) := by decide +kernel
theorem dX8_of_112 : decode cX8_of 112 = .ok (.ireturn, 1) := by decide +kernel
theorem dX8_of_113 : decode cX8_of 113 = .ok (.aload_n 0, 1) := by decide +kernel
theorem dX8_of_114 : decode cX8_of 114 = .ok (.iload_n 1, 1) := by decide +kernel
theorem dX8_of_115 : decode cX8_of 115 = .ok (.iconst 5, 1) := by decide +kernel
theorem dX8_of_116 : decode cX8_of 116 = .ok (.invokevirtual 54, 3) := by decide +kernel
theorem dX8_of_119 : decode cX8_of 119 = .ok (.ireturn, 1) := by decide +kernel
theorem dX8_of_120 : decode cX8_of 120 = .ok (.bipush (-2), 2) := by decide +kernel
theorem dX8_of_122 : decode cX8_of 122 = .ok (.ireturn, 1) := by decide +kernel
theorem dX8_ofSquare_0 : decode cX8_ofSquare 0 = .ok (.iload_n 1, 1) := by decide +kernel
theorem dX8_ofSquare_1 : decode cX8_ofSquare 1 = .ok (.invokestatic 168, 3) := by decide +kernel
theorem dX8_ofSquare_4 : decode cX8_ofSquare 4 = .ok (.ifCond .ne 5, 3) := by decide +kernel
theorem dX8_ofSquare_7 : decode cX8_ofSquare 7 = .ok (.iconst (-1), 1) := by decide +kernel
theorem dX8_ofSquare_8 : decode cX8_ofSquare 8 = .ok (.ireturn, 1) := by decide +kernel
theorem dX8_ofSquare_9 : decode cX8_ofSquare 9 = .ok (.iload_n 2, 1) := by decide +kernel
theorem dX8_ofSquare_10 : decode cX8_ofSquare 10 = .ok (.tableswitch 71 0 4 #[34, 39, 49, 59, 65], 34) := by decide +kernel
theorem dX8_ofSquare_44 : decode cX8_ofSquare 44 = .ok (.iload_n 1, 1) := by decide +kernel
theorem dX8_ofSquare_45 : decode cX8_ofSquare 45 = .ok (.invokestatic 57, 3) := by decide +kernel
theorem dX8_ofSquare_48 : decode cX8_ofSquare 48 = .ok (.ireturn, 1) := by decide +kernel
theorem dX8_ofSquare_49 : decode cX8_ofSquare 49 = .ok (.aload_n 0, 1) := by decide +kernel
theorem dX8_ofSquare_50 : decode cX8_ofSquare 50 = .ok (.getfield 7, 3) := by decide +kernel
theorem dX8_ofSquare_53 : decode cX8_ofSquare 53 = .ok (.bipush 11, 2) := by decide +kernel
theorem dX8_ofSquare_55 : decode cX8_ofSquare 55 = .ok (.iload_n 1, 1) := by decide +kernel
theorem dX8_ofSquare_56 : decode cX8_ofSquare 56 = .ok (.iadd, 1) := by decide +kernel
theorem dX8_ofSquare_57 : decode cX8_ofSquare 57 = .ok (.iaload, 1) := by decide +kernel
theorem dX8_ofSquare_58 : decode cX8_ofSquare 58 = .ok (.ireturn, 1) := by decide +kernel
theorem dX8_ofSquare_59 : decode cX8_ofSquare 59 = .ok (.aload_n 0, 1) := by decide +kernel
theorem dX8_ofSquare_60 : decode cX8_ofSquare 60 = .ok (.getfield 7, 3) := by decide +kernel
theorem dX8_ofSquare_63 : decode cX8_ofSquare 63 = .ok (.bipush 31, 2) := by decide +kernel
theorem dX8_ofSquare_65 : decode cX8_ofSquare 65 = .ok (.iload_n 1, 1) := by decide +kernel
theorem dX8_ofSquare_66 : decode cX8_ofSquare 66 = .ok (.iadd, 1) := by decide +kernel
theorem dX8_ofSquare_67 : decode cX8_ofSquare 67 = .ok (.iaload, 1) := by decide +kernel
theorem dX8_ofSquare_68 : decode cX8_ofSquare 68 = .ok (.ireturn, 1) := by decide +kernel
theorem dX8_ofSquare_69 : decode cX8_ofSquare 69 = .ok (.aload_n 0, 1) := by decide +kernel
theorem dX8_ofSquare_70 : decode cX8_ofSquare 70 = .ok (.iload_n 1, 1) := by decide +kernel
theorem dX8_ofSquare_71 : decode cX8_ofSquare 71 = .ok (.invokevirtual 94, 3) := by decide +kernel
theorem dX8_ofSquare_74 : decode cX8_ofSquare 74 = .ok (.ireturn, 1) := by decide +kernel
theorem dX8_ofSquare_75 : decode cX8_ofSquare 75 = .ok (.aload_n 0, 1) := by decide +kernel
theorem dX8_ofSquare_76 : decode cX8_ofSquare 76 = .ok (.iload_n 1, 1) := by decide +kernel
theorem dX8_ofSquare_77 : decode cX8_ofSquare 77 = .ok (.invokevirtual 171, 3) := by decide +kernel
theorem dX8_ofSquare_80 : decode cX8_ofSquare 80 = .ok (.ireturn, 1) := by decide +kernel
theorem dX8_ofSquare_81 : decode cX8_ofSquare 81 = .ok (.bipush (-2), 2) := by decide +kernel
theorem dX8_ofSquare_83 : decode cX8_ofSquare 83 = .ok (.ireturn, 1) := by decide +kernel
theorem dX8_owes_0 : decode cX8_owes 0 = .ok (.aload_n 0, 1) := by decide +kernel
theorem dX8_owes_1 : decode cX8_owes 1 = .ok (.iload_n 1, 1) := by decide +kernel
theorem dX8_owes_2 : decode cX8_owes 2 = .ok (.invokevirtual 156, 3) := by decide +kernel
theorem dX8_owes_5 : decode cX8_owes 5 = .ok (.ifCond .eq 11, 3) := by decide +kernel
theorem dX8_owes_8 : decode cX8_owes 8 = .ok (.aload_n 0, 1) := by decide +kernel
theorem dX8_owes_9 : decode cX8_owes 9 = .ok (.iload_n 2, 1) := by decide +kernel
theorem dX8_owes_10 : decode cX8_owes 10 = .ok (.invokevirtual 156, 3) := by decide +kernel
theorem dX8_owes_13 : decode cX8_owes 13 = .ok (.ifCond .ne 5, 3) := by decide +kernel
theorem dX8_owes_16 : decode cX8_owes 16 = .ok (.iconst (-1), 1) := by decide +kernel
theorem dX8_owes_17 : decode cX8_owes 17 = .ok (.ireturn, 1) := by decide +kernel
theorem dX8_owes_18 : decode cX8_owes 18 = .ok (.iload_n 3, 1) := by decide +kernel
theorem dX8_owes_19 : decode cX8_owes 19 = .ok (.iconst 0, 1) := by decide +kernel
theorem dX8_owes_20 : decode cX8_owes 20 = .ok (.iconst 1, 1) := by decide +kernel
theorem dX8_owes_21 : decode cX8_owes 21 = .ok (.invokestatic 42, 3) := by decide +kernel
theorem dX8_owes_24 : decode cX8_owes 24 = .ok (.ifCond .eq 8, 3) := by decide +kernel
theorem dX8_owes_27 : decode cX8_owes 27 = .ok (.iload_n 1, 1) := by decide +kernel
theorem dX8_owes_28 : decode cX8_owes 28 = .ok (.iload_n 2, 1) := by decide +kernel
theorem dX8_owes_29 : decode cX8_owes 29 = .ok (.if_icmp .ne 6, 3) := by decide +kernel
theorem dX8_owes_32 : decode cX8_owes 32 = .ok (.bipush (-2), 2) := by decide +kernel
theorem dX8_owes_34 : decode cX8_owes 34 = .ok (.ireturn, 1) := by decide +kernel
theorem dX8_owes_35 : decode cX8_owes 35 = .ok (.aload_n 0, 1) := by decide +kernel
theorem dX8_owes_36 : decode cX8_owes 36 = .ok (.iload_n 1, 1) := by decide +kernel
theorem dX8_owes_37 : decode cX8_owes 37 = .ok (.iload_n 2, 1) := by decide +kernel
theorem dX8_owes_38 : decode cX8_owes 38 = .ok (.invokevirtual 46, 3) := by decide +kernel
theorem dX8_owes_41 : decode cX8_owes 41 = .ok (.istore 4, 2) := by decide +kernel
theorem dX8_owes_43 : decode cX8_owes 43 = .ok (.iload_n 3, 1) := by decide +kernel
theorem dX8_owes_44 : decode cX8_owes 44 = .ok (.ifCond .ne 8, 3) := by decide +kernel
theorem dX8_owes_47 : decode cX8_owes 47 = .ok (.iload 4, 2) := by decide +kernel
theorem dX8_owes_49 : decode cX8_owes 49 = .ok (.goto 19, 3) := by decide +kernel
theorem dX8_owes_52 : decode cX8_owes 52 = .ok (.iload 4, 2) := by decide +kernel
theorem dX8_owes_54 : decode cX8_owes 54 = .ok (.ifCond .ne 8, 3) := by decide +kernel
theorem dX8_owes_57 : decode cX8_owes 57 = .ok (.bipush (-6), 2) := by decide +kernel
theorem dX8_owes_59 : decode cX8_owes 59 = .ok (.goto 9, 3) := by decide +kernel
theorem dX8_owes_62 : decode cX8_owes 62 = .ok (.aload_n 0, 1) := by decide +kernel
theorem dX8_owes_63 : decode cX8_owes 63 = .ok (.iload_n 1, 1) := by decide +kernel
theorem dX8_owes_64 : decode cX8_owes 64 = .ok (.iload_n 2, 1) := by decide +kernel
theorem dX8_owes_65 : decode cX8_owes 65 = .ok (.invokevirtual 65, 3) := by decide +kernel
theorem dX8_owes_68 : decode cX8_owes 68 = .ok (.ireturn, 1) := by decide +kernel
theorem dX8_count_0 : decode cX8_count 0 = .ok (.iload_n 1, 1) := by decide +kernel
theorem dX8_count_1 : decode cX8_count 1 = .ok (.bipush 9, 2) := by decide +kernel
theorem dX8_count_3 : decode cX8_count 3 = .ok (.bipush 13, 2) := by decide +kernel
theorem dX8_count_5 : decode cX8_count 5 = .ok (.invokestatic 42, 3) := by decide +kernel
theorem dX8_count_8 : decode cX8_count 8 = .ok (.ifCond .eq 13, 3) := by decide +kernel
theorem dX8_count_11 : decode cX8_count 11 = .ok (.aload_n 0, 1) := by decide +kernel
theorem dX8_count_12 : decode cX8_count 12 = .ok (.getfield 7, 3) := by decide +kernel
theorem dX8_count_15 : decode cX8_count 15 = .ok (.iload_n 1, 1) := by decide +kernel
theorem dX8_count_16 : decode cX8_count 16 = .ok (.bipush 9, 2) := by decide +kernel
theorem dX8_count_18 : decode cX8_count 18 = .ok (.isub, 1) := by decide +kernel
theorem dX8_count_19 : decode cX8_count 19 = .ok (.iaload, 1) := by decide +kernel
theorem dX8_count_20 : decode cX8_count 20 = .ok (.ireturn, 1) := by decide +kernel
theorem dX8_count_21 : decode cX8_count 21 = .ok (.iload_n 1, 1) := by decide +kernel
theorem dX8_count_22 : decode cX8_count 22 = .ok (.tableswitch 181 0 16 #[82, 89, 97, 120, 125, 131, 136, 144, 152, 181, 181, 181, 181, 181, 160, 171, 176], 82) := by decide +kernel
theorem dX8_count_104 : decode cX8_count 104 = .ok (.aload_n 0, 1) := by decide +kernel
theorem dX8_count_105 : decode cX8_count 105 = .ok (.getfield 7, 3) := by decide +kernel
theorem dX8_count_108 : decode cX8_count 108 = .ok (.iconst 5, 1) := by decide +kernel
theorem dX8_count_109 : decode cX8_count 109 = .ok (.iaload, 1) := by decide +kernel
theorem dX8_count_110 : decode cX8_count 110 = .ok (.ireturn, 1) := by decide +kernel
theorem dX8_count_111 : decode cX8_count 111 = .ok (.aload_n 0, 1) := by decide +kernel
theorem dX8_count_112 : decode cX8_count 112 = .ok (.getfield 7, 3) := by decide +kernel
theorem dX8_count_115 : decode cX8_count 115 = .ok (.bipush 6, 2) := by decide +kernel
theorem dX8_count_117 : decode cX8_count 117 = .ok (.iaload, 1) := by decide +kernel
theorem dX8_count_118 : decode cX8_count 118 = .ok (.ireturn, 1) := by decide +kernel
theorem dX8_count_119 : decode cX8_count 119 = .ok (.aload_n 0, 1) := by decide +kernel
theorem dX8_count_120 : decode cX8_count 120 = .ok (.getfield 7, 3) := by decide +kernel
theorem dX8_count_123 : decode cX8_count 123 = .ok (.bipush 6, 2) := by decide +kernel
theorem dX8_count_125 : decode cX8_count 125 = .ok (.iaload, 1) := by decide +kernel
theorem dX8_count_126 : decode cX8_count 126 = .ok (.ifCond .ne 8, 3) := by decide +kernel
theorem dX8_count_129 : decode cX8_count 129 = .ok (.bipush (-6), 2) := by decide +kernel
theorem dX8_count_131 : decode cX8_count 131 = .ok (.goto 10, 3) := by decide +kernel
theorem dX8_count_134 : decode cX8_count 134 = .ok (.aload_n 0, 1) := by decide +kernel
theorem dX8_count_135 : decode cX8_count 135 = .ok (.getfield 7, 3) := by decide +kernel
theorem dX8_count_138 : decode cX8_count 138 = .ok (.bipush 7, 2) := by decide +kernel
theorem dX8_count_140 : decode cX8_count 140 = .ok (.iaload, 1) := by decide +kernel
theorem dX8_count_141 : decode cX8_count 141 = .ok (.ireturn, 1) := by decide +kernel
theorem dX8_count_142 : decode cX8_count 142 = .ok (.aload_n 0, 1) := by decide +kernel
theorem dX8_count_143 : decode cX8_count 143 = .ok (.invokevirtual 174, 3) := by decide +kernel
theorem dX8_count_146 : decode cX8_count 146 = .ok (.ireturn, 1) := by decide +kernel
theorem dX8_count_147 : decode cX8_count 147 = .ok (.aload_n 0, 1) := by decide +kernel
theorem dX8_count_148 : decode cX8_count 148 = .ok (.iconst 0, 1) := by decide +kernel
theorem dX8_count_149 : decode cX8_count 149 = .ok (.invokevirtual 119, 3) := by decide +kernel
theorem dX8_count_152 : decode cX8_count 152 = .ok (.ireturn, 1) := by decide +kernel
theorem dX8_count_153 : decode cX8_count 153 = .ok (.aload_n 0, 1) := by decide +kernel
theorem dX8_count_154 : decode cX8_count 154 = .ok (.invokevirtual 177, 3) := by decide +kernel
theorem dX8_count_157 : decode cX8_count 157 = .ok (.ireturn, 1) := by decide +kernel
theorem dX8_count_158 : decode cX8_count 158 = .ok (.aload_n 0, 1) := by decide +kernel
theorem dX8_count_159 : decode cX8_count 159 = .ok (.getfield 7, 3) := by decide +kernel
theorem dX8_count_162 : decode cX8_count 162 = .ok (.bipush 9, 2) := by decide +kernel
theorem dX8_count_164 : decode cX8_count 164 = .ok (.iaload, 1) := by decide +kernel
theorem dX8_count_165 : decode cX8_count 165 = .ok (.ireturn, 1) := by decide +kernel
theorem dX8_count_166 : decode cX8_count 166 = .ok (.aload_n 0, 1) := by decide +kernel
theorem dX8_count_167 : decode cX8_count 167 = .ok (.getfield 7, 3) := by decide +kernel
theorem dX8_count_170 : decode cX8_count 170 = .ok (.bipush 10, 2) := by decide +kernel
theorem dX8_count_172 : decode cX8_count 172 = .ok (.iaload, 1) := by decide +kernel
theorem dX8_count_173 : decode cX8_count 173 = .ok (.ireturn, 1) := by decide +kernel
theorem dX8_count_174 : decode cX8_count 174 = .ok (.aload_n 0, 1) := by decide +kernel
theorem dX8_count_175 : decode cX8_count 175 = .ok (.getfield 7, 3) := by decide +kernel
theorem dX8_count_178 : decode cX8_count 178 = .ok (.bipush 8, 2) := by decide +kernel
theorem dX8_count_180 : decode cX8_count 180 = .ok (.iaload, 1) := by decide +kernel
theorem dX8_count_181 : decode cX8_count 181 = .ok (.ireturn, 1) := by decide +kernel
theorem dX8_count_182 : decode cX8_count 182 = .ok (.aload_n 0, 1) := by decide +kernel
theorem dX8_count_183 : decode cX8_count 183 = .ok (.bipush (-6), 2) := by decide +kernel
theorem dX8_count_185 : decode cX8_count 185 = .ok (.invokevirtual 180, 3) := by decide +kernel
theorem dX8_count_188 : decode cX8_count 188 = .ok (.aload_n 0, 1) := by decide +kernel
theorem dX8_count_189 : decode cX8_count 189 = .ok (.getfield 183, 3) := by decide +kernel
theorem dX8_count_192 : decode cX8_count 192 = .ok (.ireturn, 1) := by decide +kernel
theorem dX8_count_193 : decode cX8_count 193 = .ok (.aload_n 0, 1) := by decide +kernel
theorem dX8_count_194 : decode cX8_count 194 = .ok (.getfield 186, 3) := by decide +kernel
theorem dX8_count_197 : decode cX8_count 197 = .ok (.ireturn, 1) := by decide +kernel
theorem dX8_count_198 : decode cX8_count 198 = .ok (.aload_n 0, 1) := by decide +kernel
theorem dX8_count_199 : decode cX8_count 199 = .ok (.getfield 34, 3) := by decide +kernel
theorem dX8_count_202 : decode cX8_count 202 = .ok (.ireturn, 1) := by decide +kernel
theorem dX8_count_203 : decode cX8_count 203 = .ok (.bipush (-2), 2) := by decide +kernel
theorem dX8_count_205 : decode cX8_count 205 = .ok (.ireturn, 1) := by decide +kernel
theorem dX8_writesSign_0 : decode cX8_writesSign 0 = .ok (.aload_n 0, 1) := by decide +kernel
theorem dX8_writesSign_1 : decode cX8_writesSign 1 = .ok (.aload_n 0, 1) := by decide +kernel
theorem dX8_writesSign_2 : decode cX8_writesSign 2 = .ok (.getfield 183, 3) := by decide +kernel
theorem dX8_writesSign_5 : decode cX8_writesSign 5 = .ok (.aload_n 0, 1) := by decide +kernel
theorem dX8_writesSign_6 : decode cX8_writesSign 6 = .ok (.getfield 189, 3) := by decide +kernel
theorem dX8_writesSign_9 : decode cX8_writesSign 9 = .ok (.if_icmp .ne 7, 3) := by decide +kernel
theorem dX8_writesSign_12 : decode cX8_writesSign 12 = .ok (.iload_n 1, 1) := by decide +kernel
theorem dX8_writesSign_13 : decode cX8_writesSign 13 = .ok (.goto 7, 3) := by decide +kernel
theorem dX8_writesSign_16 : decode cX8_writesSign 16 = .ok (.aload_n 0, 1) := by decide +kernel
theorem dX8_writesSign_17 : decode cX8_writesSign 17 = .ok (.getfield 192, 3) := by decide +kernel
theorem dX8_writesSign_20 : decode cX8_writesSign 20 = .ok (.putfield 192, 3) := by decide +kernel
theorem dX8_writesSign_23 : decode cX8_writesSign 23 = .ok (.aload_n 0, 1) := by decide +kernel
theorem dX8_writesSign_24 : decode cX8_writesSign 24 = .ok (.dup, 1) := by decide +kernel
theorem dX8_writesSign_25 : decode cX8_writesSign 25 = .ok (.getfield 183, 3) := by decide +kernel
theorem dX8_writesSign_28 : decode cX8_writesSign 28 = .ok (.iconst 1, 1) := by decide +kernel
theorem dX8_writesSign_29 : decode cX8_writesSign 29 = .ok (.iadd, 1) := by decide +kernel
theorem dX8_writesSign_30 : decode cX8_writesSign 30 = .ok (.putfield 183, 3) := by decide +kernel
theorem dX8_writesSign_33 : decode cX8_writesSign 33 = .ok (.return_, 1) := by decide +kernel
theorem dX8_writesSquare_0 : decode cX8_writesSquare 0 = .ok (.aload_n 0, 1) := by decide +kernel
theorem dX8_writesSquare_1 : decode cX8_writesSquare 1 = .ok (.iload_n 1, 1) := by decide +kernel
theorem dX8_writesSquare_2 : decode cX8_writesSquare 2 = .ok (.invokestatic 57, 3) := by decide +kernel
theorem dX8_writesSquare_5 : decode cX8_writesSquare 5 = .ok (.ifCond .ne 8, 3) := by decide +kernel
theorem dX8_writesSquare_8 : decode cX8_writesSquare 8 = .ok (.bipush 111, 2) := by decide +kernel
theorem dX8_writesSquare_10 : decode cX8_writesSquare 10 = .ok (.goto 18, 3) := by decide +kernel
theorem dX8_writesSquare_13 : decode cX8_writesSquare 13 = .ok (.iload_n 1, 1) := by decide +kernel
theorem dX8_writesSquare_14 : decode cX8_writesSquare 14 = .ok (.invokestatic 57, 3) := by decide +kernel
theorem dX8_writesSquare_17 : decode cX8_writesSquare 17 = .ok (.iconst 1, 1) := by decide +kernel
theorem dX8_writesSquare_18 : decode cX8_writesSquare 18 = .ok (.if_icmp .ne 8, 3) := by decide +kernel
theorem dX8_writesSquare_21 : decode cX8_writesSquare 21 = .ok (.bipush 45, 2) := by decide +kernel
theorem dX8_writesSquare_23 : decode cX8_writesSquare 23 = .ok (.goto 5, 3) := by decide +kernel
theorem dX8_writesSquare_26 : decode cX8_writesSquare 26 = .ok (.bipush 61, 2) := by decide +kernel
theorem dX8_writesSquare_28 : decode cX8_writesSquare 28 = .ok (.invokevirtual 195, 3) := by decide +kernel
theorem dX8_writesSquare_31 : decode cX8_writesSquare 31 = .ok (.aload_n 0, 1) := by decide +kernel
theorem dX8_writesSquare_32 : decode cX8_writesSquare 32 = .ok (.getfield 7, 3) := by decide +kernel
theorem dX8_writesSquare_35 : decode cX8_writesSquare 35 = .ok (.bipush 11, 2) := by decide +kernel
theorem dX8_writesSquare_37 : decode cX8_writesSquare 37 = .ok (.iload_n 1, 1) := by decide +kernel
theorem dX8_writesSquare_38 : decode cX8_writesSquare 38 = .ok (.iadd, 1) := by decide +kernel
theorem dX8_writesSquare_39 : decode cX8_writesSquare 39 = .ok (.iaload, 1) := by decide +kernel
theorem dX8_writesSquare_40 : decode cX8_writesSquare 40 = .ok (.bipush (-6), 2) := by decide +kernel
theorem dX8_writesSquare_42 : decode cX8_writesSquare 42 = .ok (.if_icmp .eq 19, 3) := by decide +kernel
theorem dX8_writesSquare_45 : decode cX8_writesSquare 45 = .ok (.aload_n 0, 1) := by decide +kernel
theorem dX8_writesSquare_46 : decode cX8_writesSquare 46 = .ok (.bipush 97, 2) := by decide +kernel
theorem dX8_writesSquare_48 : decode cX8_writesSquare 48 = .ok (.aload_n 0, 1) := by decide +kernel
theorem dX8_writesSquare_49 : decode cX8_writesSquare 49 = .ok (.getfield 7, 3) := by decide +kernel
theorem dX8_writesSquare_52 : decode cX8_writesSquare 52 = .ok (.bipush 11, 2) := by decide +kernel
theorem dX8_writesSquare_54 : decode cX8_writesSquare 54 = .ok (.iload_n 1, 1) := by decide +kernel
theorem dX8_writesSquare_55 : decode cX8_writesSquare 55 = .ok (.iadd, 1) := by decide +kernel
theorem dX8_writesSquare_56 : decode cX8_writesSquare 56 = .ok (.iaload, 1) := by decide +kernel
theorem dX8_writesSquare_57 : decode cX8_writesSquare 57 = .ok (.iadd, 1) := by decide +kernel
theorem dX8_writesSquare_58 : decode cX8_writesSquare 58 = .ok (.invokevirtual 195, 3) := by decide +kernel
theorem dX8_writesSquare_61 : decode cX8_writesSquare 61 = .ok (.aload_n 0, 1) := by decide +kernel
theorem dX8_writesSquare_62 : decode cX8_writesSquare 62 = .ok (.getfield 7, 3) := by decide +kernel
theorem dX8_writesSquare_65 : decode cX8_writesSquare 65 = .ok (.bipush 31, 2) := by decide +kernel
theorem dX8_writesSquare_67 : decode cX8_writesSquare 67 = .ok (.iload_n 1, 1) := by decide +kernel
theorem dX8_writesSquare_68 : decode cX8_writesSquare 68 = .ok (.iadd, 1) := by decide +kernel
theorem dX8_writesSquare_69 : decode cX8_writesSquare 69 = .ok (.iaload, 1) := by decide +kernel
theorem dX8_writesSquare_70 : decode cX8_writesSquare 70 = .ok (.bipush (-6), 2) := by decide +kernel
theorem dX8_writesSquare_72 : decode cX8_writesSquare 72 = .ok (.if_icmp .eq 19, 3) := by decide +kernel
theorem dX8_writesSquare_75 : decode cX8_writesSquare 75 = .ok (.aload_n 0, 1) := by decide +kernel
theorem dX8_writesSquare_76 : decode cX8_writesSquare 76 = .ok (.bipush 97, 2) := by decide +kernel
theorem dX8_writesSquare_78 : decode cX8_writesSquare 78 = .ok (.aload_n 0, 1) := by decide +kernel
theorem dX8_writesSquare_79 : decode cX8_writesSquare 79 = .ok (.getfield 7, 3) := by decide +kernel
theorem dX8_writesSquare_82 : decode cX8_writesSquare 82 = .ok (.bipush 31, 2) := by decide +kernel
theorem dX8_writesSquare_84 : decode cX8_writesSquare 84 = .ok (.iload_n 1, 1) := by decide +kernel
theorem dX8_writesSquare_85 : decode cX8_writesSquare 85 = .ok (.iadd, 1) := by decide +kernel
theorem dX8_writesSquare_86 : decode cX8_writesSquare 86 = .ok (.iaload, 1) := by decide +kernel
theorem dX8_writesSquare_87 : decode cX8_writesSquare 87 = .ok (.iadd, 1) := by decide +kernel
theorem dX8_writesSquare_88 : decode cX8_writesSquare 88 = .ok (.invokevirtual 195, 3) := by decide +kernel
theorem dX8_writesSquare_91 : decode cX8_writesSquare 91 = .ok (.iconst 0, 1) := by decide +kernel
theorem dX8_writesSquare_92 : decode cX8_writesSquare 92 = .ok (.istore_n 2, 1) := by decide +kernel
theorem dX8_writesSquare_93 : decode cX8_writesSquare 93 = .ok (.iload_n 2, 1) := by decide +kernel
theorem dX8_writesSquare_94 : decode cX8_writesSquare 94 = .ok (.aload_n 0, 1) := by decide +kernel
theorem dX8_writesSquare_95 : decode cX8_writesSquare 95 = .ok (.getfield 7, 3) := by decide +kernel
theorem dX8_writesSquare_98 : decode cX8_writesSquare 98 = .ok (.bipush 6, 2) := by decide +kernel
theorem dX8_writesSquare_100 : decode cX8_writesSquare 100 = .ok (.iaload, 1) := by decide +kernel
theorem dX8_writesSquare_101 : decode cX8_writesSquare 101 = .ok (.if_icmp .ge 27, 3) := by decide +kernel
theorem dX8_writesSquare_104 : decode cX8_writesSquare 104 = .ok (.aload_n 0, 1) := by decide +kernel
theorem dX8_writesSquare_105 : decode cX8_writesSquare 105 = .ok (.iload_n 2, 1) := by decide +kernel
theorem dX8_writesSquare_106 : decode cX8_writesSquare 106 = .ok (.iconst 1, 1) := by decide +kernel
theorem dX8_writesSquare_107 : decode cX8_writesSquare 107 = .ok (.invokevirtual 54, 3) := by decide +kernel
theorem dX8_writesSquare_110 : decode cX8_writesSquare 110 = .ok (.iload_n 1, 1) := by decide +kernel
theorem dX8_writesSquare_111 : decode cX8_writesSquare 111 = .ok (.if_icmp .ne 11, 3) := by decide +kernel
theorem dX8_writesSquare_114 : decode cX8_writesSquare 114 = .ok (.aload_n 0, 1) := by decide +kernel
theorem dX8_writesSquare_115 : decode cX8_writesSquare 115 = .ok (.bipush 65, 2) := by decide +kernel
theorem dX8_writesSquare_117 : decode cX8_writesSquare 117 = .ok (.iload_n 2, 1) := by decide +kernel
theorem dX8_writesSquare_118 : decode cX8_writesSquare 118 = .ok (.iadd, 1) := by decide +kernel
theorem dX8_writesSquare_119 : decode cX8_writesSquare 119 = .ok (.invokevirtual 195, 3) := by decide +kernel
theorem dX8_writesSquare_122 : decode cX8_writesSquare 122 = .ok (.iinc 2 1, 3) := by decide +kernel
theorem dX8_writesSquare_125 : decode cX8_writesSquare 125 = .ok (.goto (-32), 3) := by decide +kernel
theorem dX8_writesSquare_128 : decode cX8_writesSquare 128 = .ok (.return_, 1) := by decide +kernel
theorem dX8_writes_0 : decode cX8_writes 0 = .ok (.aload_n 0, 1) := by decide +kernel
theorem dX8_writes_1 : decode cX8_writes 1 = .ok (.iconst 0, 1) := by decide +kernel
theorem dX8_writes_2 : decode cX8_writes 2 = .ok (.putfield 183, 3) := by decide +kernel
theorem dX8_writes_5 : decode cX8_writes 5 = .ok (.aload_n 0, 1) := by decide +kernel
theorem dX8_writes_6 : decode cX8_writes 6 = .ok (.iload_n 1, 1) := by decide +kernel
theorem dX8_writes_7 : decode cX8_writes 7 = .ok (.putfield 189, 3) := by decide +kernel
theorem dX8_writes_10 : decode cX8_writes 10 = .ok (.aload_n 0, 1) := by decide +kernel
theorem dX8_writes_11 : decode cX8_writes 11 = .ok (.iconst (-1), 1) := by decide +kernel
theorem dX8_writes_12 : decode cX8_writes 12 = .ok (.putfield 192, 3) := by decide +kernel
theorem dX8_writes_15 : decode cX8_writes 15 = .ok (.iconst 0, 1) := by decide +kernel
theorem dX8_writes_16 : decode cX8_writes 16 = .ok (.istore_n 2, 1) := by decide +kernel
theorem dX8_writes_17 : decode cX8_writes 17 = .ok (.iload_n 2, 1) := by decide +kernel
theorem dX8_writes_18 : decode cX8_writes 18 = .ok (.bipush 20, 2) := by decide +kernel
theorem dX8_writes_20 : decode cX8_writes 20 = .ok (.if_icmp .ge 14, 3) := by decide +kernel
theorem dX8_writes_23 : decode cX8_writes 23 = .ok (.aload_n 0, 1) := by decide +kernel
theorem dX8_writes_24 : decode cX8_writes 24 = .ok (.iload_n 2, 1) := by decide +kernel
theorem dX8_writes_25 : decode cX8_writes 25 = .ok (.invokevirtual 198, 3) := by decide +kernel
theorem dX8_writes_28 : decode cX8_writes 28 = .ok (.iinc 2 1, 3) := by decide +kernel
theorem dX8_writes_31 : decode cX8_writes 31 = .ok (.goto (-14), 3) := by decide +kernel
theorem dX8_writes_34 : decode cX8_writes 34 = .ok (.return_, 1) := by decide +kernel
theorem dX8_sign_0 : decode cX8_sign 0 = .ok (.aload_n 0, 1) := by decide +kernel
theorem dX8_sign_1 : decode cX8_sign 1 = .ok (.iload_n 1, 1) := by decide +kernel
theorem dX8_sign_2 : decode cX8_sign 2 = .ok (.invokevirtual 180, 3) := by decide +kernel
theorem dX8_sign_5 : decode cX8_sign 5 = .ok (.aload_n 0, 1) := by decide +kernel
theorem dX8_sign_6 : decode cX8_sign 6 = .ok (.getfield 192, 3) := by decide +kernel
theorem dX8_sign_9 : decode cX8_sign 9 = .ok (.ireturn, 1) := by decide +kernel
theorem dX8_chain_0 : decode cX8_chain 0 = .ok (.aload_n 0, 1) := by decide +kernel
theorem dX8_chain_1 : decode cX8_chain 1 = .ok (.iload_n 1, 1) := by decide +kernel
theorem dX8_chain_2 : decode cX8_chain 2 = .ok (.invokevirtual 156, 3) := by decide +kernel
theorem dX8_chain_5 : decode cX8_chain 5 = .ok (.ifCond .eq 11, 3) := by decide +kernel
theorem dX8_chain_8 : decode cX8_chain 8 = .ok (.aload_n 0, 1) := by decide +kernel
theorem dX8_chain_9 : decode cX8_chain 9 = .ok (.iload_n 2, 1) := by decide +kernel
theorem dX8_chain_10 : decode cX8_chain 10 = .ok (.invokevirtual 156, 3) := by decide +kernel
theorem dX8_chain_13 : decode cX8_chain 13 = .ok (.ifCond .ne 5, 3) := by decide +kernel
theorem dX8_chain_16 : decode cX8_chain 16 = .ok (.iconst (-1), 1) := by decide +kernel
theorem dX8_chain_17 : decode cX8_chain 17 = .ok (.ireturn, 1) := by decide +kernel
theorem dX8_chain_18 : decode cX8_chain 18 = .ok (.iconst 0, 1) := by decide +kernel
theorem dX8_chain_19 : decode cX8_chain 19 = .ok (.istore_n 3, 1) := by decide +kernel
theorem dX8_chain_20 : decode cX8_chain 20 = .ok (.iload_n 3, 1) := by decide +kernel
theorem dX8_chain_21 : decode cX8_chain 21 = .ok (.iconst 4, 1) := by decide +kernel
theorem dX8_chain_22 : decode cX8_chain 22 = .ok (.if_icmp .ge 41, 3) := by decide +kernel
theorem dX8_chain_25 : decode cX8_chain 25 = .ok (.aload_n 0, 1) := by decide +kernel
theorem dX8_chain_26 : decode cX8_chain 26 = .ok (.getfield 31, 3) := by decide +kernel
theorem dX8_chain_29 : decode cX8_chain 29 = .ok (.iload_n 3, 1) := by decide +kernel
theorem dX8_chain_30 : decode cX8_chain 30 = .ok (.iload_n 3, 1) := by decide +kernel
theorem dX8_chain_31 : decode cX8_chain 31 = .ok (.aload_n 0, 1) := by decide +kernel
theorem dX8_chain_32 : decode cX8_chain 32 = .ok (.getfield 7, 3) := by decide +kernel
theorem dX8_chain_35 : decode cX8_chain 35 = .ok (.bipush 6, 2) := by decide +kernel
theorem dX8_chain_37 : decode cX8_chain 37 = .ok (.iaload, 1) := by decide +kernel
theorem dX8_chain_38 : decode cX8_chain 38 = .ok (.if_icmp .ge 16, 3) := by decide +kernel
theorem dX8_chain_41 : decode cX8_chain 41 = .ok (.aload_n 0, 1) := by decide +kernel
theorem dX8_chain_42 : decode cX8_chain 42 = .ok (.iload_n 1, 1) := by decide +kernel
theorem dX8_chain_43 : decode cX8_chain 43 = .ok (.iload_n 3, 1) := by decide +kernel
theorem dX8_chain_44 : decode cX8_chain 44 = .ok (.invokevirtual 46, 3) := by decide +kernel
theorem dX8_chain_47 : decode cX8_chain 47 = .ok (.ifCond .le 7, 3) := by decide +kernel
theorem dX8_chain_50 : decode cX8_chain 50 = .ok (.iconst 1, 1) := by decide +kernel
theorem dX8_chain_51 : decode cX8_chain 51 = .ok (.goto 5, 3) := by decide +kernel
theorem dX8_chain_54 : decode cX8_chain 54 = .ok (.bipush (-6), 2) := by decide +kernel
theorem dX8_chain_56 : decode cX8_chain 56 = .ok (.iastore, 1) := by decide +kernel
theorem dX8_chain_57 : decode cX8_chain 57 = .ok (.iinc 3 1, 3) := by decide +kernel
theorem dX8_chain_60 : decode cX8_chain 60 = .ok (.goto (-40), 3) := by decide +kernel
theorem dX8_chain_63 : decode cX8_chain 63 = .ok (.iconst 0, 1) := by decide +kernel
theorem dX8_chain_64 : decode cX8_chain 64 = .ok (.istore_n 3, 1) := by decide +kernel
theorem dX8_chain_65 : decode cX8_chain 65 = .ok (.iload_n 3, 1) := by decide +kernel
theorem dX8_chain_66 : decode cX8_chain 66 = .ok (.iconst 4, 1) := by decide +kernel
theorem dX8_chain_67 : decode cX8_chain 67 = .ok (.if_icmp .ge 129, 3) := by decide +kernel
theorem dX8_chain_70 : decode cX8_chain 70 = .ok (.iconst 0, 1) := by decide +kernel
theorem dX8_chain_71 : decode cX8_chain 71 = .ok (.istore 4, 2) := by decide +kernel
theorem dX8_chain_73 : decode cX8_chain 73 = .ok (.iload 4, 2) := by decide +kernel
theorem dX8_chain_75 : decode cX8_chain 75 = .ok (.iconst 4, 1) := by decide +kernel
theorem dX8_chain_76 : decode cX8_chain 76 = .ok (.if_icmp .ge 114, 3) := by decide +kernel
theorem dX8_chain_79 : decode cX8_chain 79 = .ok (.iconst 0, 1) := by decide +kernel
theorem dX8_chain_80 : decode cX8_chain 80 = .ok (.istore 5, 2) := by decide +kernel
theorem dX8_chain_82 : decode cX8_chain 82 = .ok (.iload 5, 2) := by decide +kernel
theorem dX8_chain_84 : decode cX8_chain 84 = .ok (.iconst 4, 1) := by decide +kernel
theorem dX8_chain_85 : decode cX8_chain 85 = .ok (.if_icmp .ge 99, 3) := by decide +kernel
theorem dX8_chain_88 : decode cX8_chain 88 = .ok (.aload_n 0, 1) := by decide +kernel
theorem dX8_chain_89 : decode cX8_chain 89 = .ok (.getfield 31, 3) := by decide +kernel
theorem dX8_chain_92 : decode cX8_chain 92 = .ok (.iload 4, 2) := by decide +kernel
theorem dX8_chain_94 : decode cX8_chain 94 = .ok (.iaload, 1) := by decide +kernel
theorem dX8_chain_95 : decode cX8_chain 95 = .ok (.ifCond .le 89, 3) := by decide +kernel
theorem dX8_chain_98 : decode cX8_chain 98 = .ok (.aload_n 0, 1) := by decide +kernel
theorem dX8_chain_99 : decode cX8_chain 99 = .ok (.iload 4, 2) := by decide +kernel
theorem dX8_chain_101 : decode cX8_chain 101 = .ok (.iload 5, 2) := by decide +kernel
theorem dX8_chain_103 : decode cX8_chain 103 = .ok (.invokevirtual 46, 3) := by decide +kernel
theorem dX8_chain_106 : decode cX8_chain 106 = .ok (.ifCond .le 38, 3) := by decide +kernel
theorem dX8_chain_109 : decode cX8_chain 109 = .ok (.aload_n 0, 1) := by decide +kernel
theorem dX8_chain_110 : decode cX8_chain 110 = .ok (.getfield 31, 3) := by decide +kernel
theorem dX8_chain_113 : decode cX8_chain 113 = .ok (.iload 5, 2) := by decide +kernel
theorem dX8_chain_115 : decode cX8_chain 115 = .ok (.iaload, 1) := by decide +kernel
theorem dX8_chain_116 : decode cX8_chain 116 = .ok (.bipush (-6), 2) := by decide +kernel
theorem dX8_chain_118 : decode cX8_chain 118 = .ok (.if_icmp .eq 22, 3) := by decide +kernel
theorem dX8_chain_121 : decode cX8_chain 121 = .ok (.aload_n 0, 1) := by decide +kernel
theorem dX8_chain_122 : decode cX8_chain 122 = .ok (.getfield 31, 3) := by decide +kernel
theorem dX8_chain_125 : decode cX8_chain 125 = .ok (.iload 4, 2) := by decide +kernel
theorem dX8_chain_127 : decode cX8_chain 127 = .ok (.iaload, 1) := by decide +kernel
theorem dX8_chain_128 : decode cX8_chain 128 = .ok (.iconst 1, 1) := by decide +kernel
theorem dX8_chain_129 : decode cX8_chain 129 = .ok (.iadd, 1) := by decide +kernel
theorem dX8_chain_130 : decode cX8_chain 130 = .ok (.aload_n 0, 1) := by decide +kernel
theorem dX8_chain_131 : decode cX8_chain 131 = .ok (.getfield 31, 3) := by decide +kernel
theorem dX8_chain_134 : decode cX8_chain 134 = .ok (.iload 5, 2) := by decide +kernel
theorem dX8_chain_136 : decode cX8_chain 136 = .ok (.iaload, 1) := by decide +kernel
theorem dX8_chain_137 : decode cX8_chain 137 = .ok (.if_icmp .ge 7, 3) := by decide +kernel
theorem dX8_chain_140 : decode cX8_chain 140 = .ok (.iconst 1, 1) := by decide +kernel
theorem dX8_chain_141 : decode cX8_chain 141 = .ok (.goto 4, 3) := by decide +kernel
theorem dX8_chain_144 : decode cX8_chain 144 = .ok (.iconst 0, 1) := by decide +kernel
theorem dX8_chain_145 : decode cX8_chain 145 = .ok (.istore 6, 2) := by decide +kernel
theorem dX8_chain_147 : decode cX8_chain 147 = .ok (.aload_n 0, 1) := by decide +kernel
theorem dX8_chain_148 : decode cX8_chain 148 = .ok (.getfield 31, 3) := by decide +kernel
theorem dX8_chain_151 : decode cX8_chain 151 = .ok (.iload 5, 2) := by decide +kernel
theorem dX8_chain_153 : decode cX8_chain 153 = .ok (.iload 6, 2) := by decide +kernel
theorem dX8_chain_155 : decode cX8_chain 155 = .ok (.ifCond .eq 15, 3) := by decide +kernel
theorem dX8_chain_158 : decode cX8_chain 158 = .ok (.aload_n 0, 1) := by decide +kernel
theorem dX8_chain_159 : decode cX8_chain 159 = .ok (.getfield 31, 3) := by decide +kernel
theorem dX8_chain_162 : decode cX8_chain 162 = .ok (.iload 4, 2) := by decide +kernel
theorem dX8_chain_164 : decode cX8_chain 164 = .ok (.iaload, 1) := by decide +kernel
theorem dX8_chain_165 : decode cX8_chain 165 = .ok (.iconst 1, 1) := by decide +kernel
theorem dX8_chain_166 : decode cX8_chain 166 = .ok (.iadd, 1) := by decide +kernel
theorem dX8_chain_167 : decode cX8_chain 167 = .ok (.goto 10, 3) := by decide +kernel
theorem dX8_chain_170 : decode cX8_chain 170 = .ok (.aload_n 0, 1) := by decide +kernel
theorem dX8_chain_171 : decode cX8_chain 171 = .ok (.getfield 31, 3) := by decide +kernel
theorem dX8_chain_174 : decode cX8_chain 174 = .ok (.iload 5, 2) := by decide +kernel
theorem dX8_chain_176 : decode cX8_chain 176 = .ok (.iaload, 1) := by decide +kernel
theorem dX8_chain_177 : decode cX8_chain 177 = .ok (.iastore, 1) := by decide +kernel
theorem dX8_chain_178 : decode cX8_chain 178 = .ok (.iinc 5 1, 3) := by decide +kernel
theorem dX8_chain_181 : decode cX8_chain 181 = .ok (.goto (-99), 3) := by decide +kernel
theorem dX8_chain_184 : decode cX8_chain 184 = .ok (.iinc 4 1, 3) := by decide +kernel
theorem dX8_chain_187 : decode cX8_chain 187 = .ok (.goto (-114), 3) := by decide +kernel
theorem dX8_chain_190 : decode cX8_chain 190 = .ok (.iinc 3 1, 3) := by decide +kernel
theorem dX8_chain_193 : decode cX8_chain 193 = .ok (.goto (-128), 3) := by decide +kernel
theorem dX8_chain_196 : decode cX8_chain 196 = .ok (.aload_n 0, 1) := by decide +kernel
theorem dX8_chain_197 : decode cX8_chain 197 = .ok (.getfield 31, 3) := by decide +kernel
theorem dX8_chain_200 : decode cX8_chain 200 = .ok (.iload_n 2, 1) := by decide +kernel
theorem dX8_chain_201 : decode cX8_chain 201 = .ok (.iaload, 1) := by decide +kernel
theorem dX8_chain_202 : decode cX8_chain 202 = .ok (.ireturn, 1) := by decide +kernel
theorem dX8_emptyIn_0 : decode cX8_emptyIn 0 = .ok (.aload_n 0, 1) := by decide +kernel
theorem dX8_emptyIn_1 : decode cX8_emptyIn 1 = .ok (.iload_n 1, 1) := by decide +kernel
theorem dX8_emptyIn_2 : decode cX8_emptyIn 2 = .ok (.invokevirtual 156, 3) := by decide +kernel
theorem dX8_emptyIn_5 : decode cX8_emptyIn 5 = .ok (.ifCond .ne 5, 3) := by decide +kernel
theorem dX8_emptyIn_8 : decode cX8_emptyIn 8 = .ok (.iconst (-1), 1) := by decide +kernel
theorem dX8_emptyIn_9 : decode cX8_emptyIn 9 = .ok (.ireturn, 1) := by decide +kernel
theorem dX8_emptyIn_10 : decode cX8_emptyIn 10 = .ok (.aload_n 0, 1) := by decide +kernel
theorem dX8_emptyIn_11 : decode cX8_emptyIn 11 = .ok (.getfield 7, 3) := by decide +kernel
theorem dX8_emptyIn_14 : decode cX8_emptyIn 14 = .ok (.iconst 0, 1) := by decide +kernel
theorem dX8_emptyIn_15 : decode cX8_emptyIn 15 = .ok (.aload_n 0, 1) := by decide +kernel
theorem dX8_emptyIn_16 : decode cX8_emptyIn 16 = .ok (.getfield 13, 3) := by decide +kernel
theorem dX8_emptyIn_19 : decode cX8_emptyIn 19 = .ok (.iconst 0, 1) := by decide +kernel
theorem dX8_emptyIn_20 : decode cX8_emptyIn 20 = .ok (.invokestatic 38, 3) := by decide +kernel
theorem dX8_emptyIn_23 : decode cX8_emptyIn 23 = .ok (.iconst 0, 1) := by decide +kernel
theorem dX8_emptyIn_24 : decode cX8_emptyIn 24 = .ok (.istore_n 2, 1) := by decide +kernel
theorem dX8_emptyIn_25 : decode cX8_emptyIn 25 = .ok (.aload_n 0, 1) := by decide +kernel
theorem dX8_emptyIn_26 : decode cX8_emptyIn 26 = .ok (.iload_n 1, 1) := by decide +kernel
theorem dX8_emptyIn_27 : decode cX8_emptyIn 27 = .ok (.iconst 0, 1) := by decide +kernel
theorem dX8_emptyIn_28 : decode cX8_emptyIn 28 = .ok (.invokevirtual 54, 3) := by decide +kernel
theorem dX8_emptyIn_31 : decode cX8_emptyIn 31 = .ok (.ifCond .le 20, 3) := by decide +kernel
theorem dX8_emptyIn_34 : decode cX8_emptyIn 34 = .ok (.iload_n 2, 1) := by decide +kernel
theorem dX8_emptyIn_35 : decode cX8_emptyIn 35 = .ok (.sipush 400, 3) := by decide +kernel
theorem dX8_emptyIn_38 : decode cX8_emptyIn 38 = .ok (.if_icmp .ge 13, 3) := by decide +kernel
theorem dX8_emptyIn_41 : decode cX8_emptyIn 41 = .ok (.aload_n 0, 1) := by decide +kernel
theorem dX8_emptyIn_42 : decode cX8_emptyIn 42 = .ok (.invokevirtual 122, 3) := by decide +kernel
theorem dX8_emptyIn_45 : decode cX8_emptyIn 45 = .ok (.iinc 2 1, 3) := by decide +kernel
theorem dX8_emptyIn_48 : decode cX8_emptyIn 48 = .ok (.goto (-23), 3) := by decide +kernel
theorem dX8_emptyIn_51 : decode cX8_emptyIn 51 = .ok (.aload_n 0, 1) := by decide +kernel
theorem dX8_emptyIn_52 : decode cX8_emptyIn 52 = .ok (.iload_n 1, 1) := by decide +kernel
theorem dX8_emptyIn_53 : decode cX8_emptyIn 53 = .ok (.iconst 0, 1) := by decide +kernel
theorem dX8_emptyIn_54 : decode cX8_emptyIn 54 = .ok (.invokevirtual 54, 3) := by decide +kernel
theorem dX8_emptyIn_57 : decode cX8_emptyIn 57 = .ok (.ifCond .ne 7, 3) := by decide +kernel
theorem dX8_emptyIn_60 : decode cX8_emptyIn 60 = .ok (.iload_n 2, 1) := by decide +kernel
theorem dX8_emptyIn_61 : decode cX8_emptyIn 61 = .ok (.goto 5, 3) := by decide +kernel
theorem dX8_emptyIn_64 : decode cX8_emptyIn 64 = .ok (.bipush (-6), 2) := by decide +kernel
theorem dX8_emptyIn_66 : decode cX8_emptyIn 66 = .ok (.istore_n 3, 1) := by decide +kernel
