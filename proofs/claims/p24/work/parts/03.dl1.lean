theorem dL_cell_0 : decode cL_cell 0 = .ok (.iload_n 1, 1) := by decide +kernel
theorem dL_cell_1 : decode cL_cell 1 = .ok (.aload_n 0, 1) := by decide +kernel
theorem dL_cell_2 : decode cL_cell 2 = .ok (.arraylength, 1) := by decide +kernel
theorem dL_cell_3 : decode cL_cell 3 = .ok (.if_icmp .ge 9, 3) := by decide +kernel
theorem dL_cell_6 : decode cL_cell 6 = .ok (.aload_n 0, 1) := by decide +kernel
theorem dL_cell_7 : decode cL_cell 7 = .ok (.iload_n 1, 1) := by decide +kernel
theorem dL_cell_8 : decode cL_cell 8 = .ok (.iaload, 1) := by decide +kernel
theorem dL_cell_9 : decode cL_cell 9 = .ok (.goto 12, 3) := by decide +kernel
theorem dL_cell_12 : decode cL_cell 12 = .ok (.ldc 7, 2) := by decide +kernel
theorem dL_cell_14 : decode cL_cell 14 = .ok (.iload_n 1, 1) := by decide +kernel
theorem dL_cell_15 : decode cL_cell 15 = .ok (.iconst 1, 1) := by decide +kernel
theorem dL_cell_16 : decode cL_cell 16 = .ok (.iadd, 1) := by decide +kernel
theorem dL_cell_17 : decode cL_cell 17 = .ok (.imul, 1) := by decide +kernel
theorem dL_cell_18 : decode cL_cell 18 = .ok (.ldc 8, 2) := by decide +kernel
theorem dL_cell_20 : decode cL_cell 20 = .ok (.iadd, 1) := by decide +kernel
theorem dL_cell_21 : decode cL_cell 21 = .ok (.ireturn, 1) := by decide +kernel
theorem dL_low_0 : decode cL_low 0 = .ok (.iload_n 0, 1) := by decide +kernel
theorem dL_low_1 : decode cL_low 1 = .ok (.ldc 9, 2) := by decide +kernel
theorem dL_low_3 : decode cL_low 3 = .ok (.iand, 1) := by decide +kernel
theorem dL_low_4 : decode cL_low 4 = .ok (.iload_n 1, 1) := by decide +kernel
theorem dL_low_5 : decode cL_low 5 = .ok (.irem, 1) := by decide +kernel
theorem dL_low_6 : decode cL_low 6 = .ok (.ireturn, 1) := by decide +kernel
theorem dL_die_0 : decode cL_die 0 = .ok (.aload_n 0, 1) := by decide +kernel
theorem dL_die_1 : decode cL_die 1 = .ok (.bipush 8, 2) := by decide +kernel
theorem dL_die_3 : decode cL_die 3 = .ok (.bipush 75, 2) := by decide +kernel
theorem dL_die_5 : decode cL_die 5 = .ok (.aload_n 0, 1) := by decide +kernel
theorem dL_die_6 : decode cL_die 6 = .ok (.bipush 8, 2) := by decide +kernel
theorem dL_die_8 : decode cL_die 8 = .ok (.iaload, 1) := by decide +kernel
theorem dL_die_9 : decode cL_die 9 = .ok (.imul, 1) := by decide +kernel
theorem dL_die_10 : decode cL_die 10 = .ok (.bipush 74, 2) := by decide +kernel
theorem dL_die_12 : decode cL_die 12 = .ok (.iadd, 1) := by decide +kernel
theorem dL_die_13 : decode cL_die 13 = .ok (.ldc 10, 2) := by decide +kernel
theorem dL_die_15 : decode cL_die 15 = .ok (.irem, 1) := by decide +kernel
theorem dL_die_16 : decode cL_die 16 = .ok (.iastore, 1) := by decide +kernel
theorem dL_die_17 : decode cL_die 17 = .ok (.aload_n 0, 1) := by decide +kernel
theorem dL_die_18 : decode cL_die 18 = .ok (.bipush 8, 2) := by decide +kernel
theorem dL_die_20 : decode cL_die 20 = .ok (.iaload, 1) := by decide +kernel
theorem dL_die_21 : decode cL_die 21 = .ok (.bipush 8, 2) := by decide +kernel
theorem dL_die_23 : decode cL_die 23 = .ok (.idiv, 1) := by decide +kernel
theorem dL_die_24 : decode cL_die 24 = .ok (.bipush 6, 2) := by decide +kernel
theorem dL_die_26 : decode cL_die 26 = .ok (.irem, 1) := by decide +kernel
theorem dL_die_27 : decode cL_die 27 = .ok (.iconst 1, 1) := by decide +kernel
theorem dL_die_28 : decode cL_die 28 = .ok (.iadd, 1) := by decide +kernel
theorem dL_die_29 : decode cL_die 29 = .ok (.ireturn, 1) := by decide +kernel
theorem dL_toll_0 : decode cL_toll 0 = .ok (.aload_n 2, 1) := by decide +kernel
theorem dL_toll_1 : decode cL_toll 1 = .ok (.iload_n 0, 1) := by decide +kernel
theorem dL_toll_2 : decode cL_toll 2 = .ok (.iaload, 1) := by decide +kernel
theorem dL_toll_3 : decode cL_toll 3 = .ok (.ifCond .ge 5, 3) := by decide +kernel
theorem dL_toll_6 : decode cL_toll 6 = .ok (.iconst 0, 1) := by decide +kernel
theorem dL_toll_7 : decode cL_toll 7 = .ok (.ireturn, 1) := by decide +kernel
theorem dL_toll_8 : decode cL_toll 8 = .ok (.iconst 1, 1) := by decide +kernel
theorem dL_toll_9 : decode cL_toll 9 = .ok (.istore_n 3, 1) := by decide +kernel
theorem dL_toll_10 : decode cL_toll 10 = .ok (.iload_n 0, 1) := by decide +kernel
theorem dL_toll_11 : decode cL_toll 11 = .ok (.iload_n 0, 1) := by decide +kernel
theorem dL_toll_12 : decode cL_toll 12 = .ok (.iconst 5, 1) := by decide +kernel
theorem dL_toll_13 : decode cL_toll 13 = .ok (.irem, 1) := by decide +kernel
theorem dL_toll_14 : decode cL_toll 14 = .ok (.isub, 1) := by decide +kernel
theorem dL_toll_15 : decode cL_toll 15 = .ok (.istore 4, 2) := by decide +kernel
theorem dL_toll_17 : decode cL_toll 17 = .ok (.iload 4, 2) := by decide +kernel
theorem dL_toll_19 : decode cL_toll 19 = .ok (.iconst 1, 1) := by decide +kernel
theorem dL_toll_20 : decode cL_toll 20 = .ok (.iadd, 1) := by decide +kernel
theorem dL_toll_21 : decode cL_toll 21 = .ok (.istore 5, 2) := by decide +kernel
theorem dL_toll_23 : decode cL_toll 23 = .ok (.iload 5, 2) := by decide +kernel
theorem dL_toll_25 : decode cL_toll 25 = .ok (.iload 4, 2) := by decide +kernel
theorem dL_toll_27 : decode cL_toll 27 = .ok (.iconst 5, 1) := by decide +kernel
theorem dL_toll_28 : decode cL_toll 28 = .ok (.iadd, 1) := by decide +kernel
theorem dL_toll_29 : decode cL_toll 29 = .ok (.if_icmp .ge 27, 3) := by decide +kernel
theorem dL_toll_32 : decode cL_toll 32 = .ok (.iload_n 3, 1) := by decide +kernel
theorem dL_toll_33 : decode cL_toll 33 = .ok (.aload_n 2, 1) := by decide +kernel
theorem dL_toll_34 : decode cL_toll 34 = .ok (.iload 5, 2) := by decide +kernel
theorem dL_toll_36 : decode cL_toll 36 = .ok (.iaload, 1) := by decide +kernel
theorem dL_toll_37 : decode cL_toll 37 = .ok (.aload_n 2, 1) := by decide +kernel
theorem dL_toll_38 : decode cL_toll 38 = .ok (.iload_n 0, 1) := by decide +kernel
theorem dL_toll_39 : decode cL_toll 39 = .ok (.iaload, 1) := by decide +kernel
theorem dL_toll_40 : decode cL_toll 40 = .ok (.if_icmp .ne 7, 3) := by decide +kernel
theorem dL_toll_43 : decode cL_toll 43 = .ok (.iconst 1, 1) := by decide +kernel
theorem dL_toll_44 : decode cL_toll 44 = .ok (.goto 4, 3) := by decide +kernel
theorem dL_toll_47 : decode cL_toll 47 = .ok (.iconst 0, 1) := by decide +kernel
theorem dL_toll_48 : decode cL_toll 48 = .ok (.iadd, 1) := by decide +kernel
theorem dL_toll_49 : decode cL_toll 49 = .ok (.istore_n 3, 1) := by decide +kernel
theorem dL_toll_50 : decode cL_toll 50 = .ok (.iinc 5 1, 3) := by decide +kernel
theorem dL_toll_53 : decode cL_toll 53 = .ok (.goto (-30), 3) := by decide +kernel
theorem dL_toll_56 : decode cL_toll 56 = .ok (.iload_n 3, 1) := by decide +kernel
theorem dL_toll_57 : decode cL_toll 57 = .ok (.aload_n 1, 1) := by decide +kernel
theorem dL_toll_58 : decode cL_toll 58 = .ok (.iconst 2, 1) := by decide +kernel
theorem dL_toll_59 : decode cL_toll 59 = .ok (.iaload, 1) := by decide +kernel
theorem dL_toll_60 : decode cL_toll 60 = .ok (.imul, 1) := by decide +kernel
theorem dL_toll_61 : decode cL_toll 61 = .ok (.ireturn, 1) := by decide +kernel
theorem dL_pay_0 : decode cL_pay 0 = .ok (.aload_n 3, 1) := by decide +kernel
theorem dL_pay_1 : decode cL_pay 1 = .ok (.bipush 6, 2) := by decide +kernel
theorem dL_pay_3 : decode cL_pay 3 = .ok (.iload_n 0, 1) := by decide +kernel
theorem dL_pay_4 : decode cL_pay 4 = .ok (.imul, 1) := by decide +kernel
theorem dL_pay_5 : decode cL_pay 5 = .ok (.iaload, 1) := by decide +kernel
theorem dL_pay_6 : decode cL_pay 6 = .ok (.iload_n 2, 1) := by decide +kernel
theorem dL_pay_7 : decode cL_pay 7 = .ok (.if_icmp .ge 12, 3) := by decide +kernel
theorem dL_pay_10 : decode cL_pay 10 = .ok (.aload_n 3, 1) := by decide +kernel
theorem dL_pay_11 : decode cL_pay 11 = .ok (.bipush 6, 2) := by decide +kernel
theorem dL_pay_13 : decode cL_pay 13 = .ok (.iload_n 0, 1) := by decide +kernel
theorem dL_pay_14 : decode cL_pay 14 = .ok (.imul, 1) := by decide +kernel
theorem dL_pay_15 : decode cL_pay 15 = .ok (.iaload, 1) := by decide +kernel
theorem dL_pay_16 : decode cL_pay 16 = .ok (.goto 4, 3) := by decide +kernel
theorem dL_pay_19 : decode cL_pay 19 = .ok (.iload_n 2, 1) := by decide +kernel
theorem dL_pay_20 : decode cL_pay 20 = .ok (.istore 6, 2) := by decide +kernel
theorem dL_pay_22 : decode cL_pay 22 = .ok (.aload_n 3, 1) := by decide +kernel
theorem dL_pay_23 : decode cL_pay 23 = .ok (.bipush 6, 2) := by decide +kernel
theorem dL_pay_25 : decode cL_pay 25 = .ok (.iload_n 0, 1) := by decide +kernel
theorem dL_pay_26 : decode cL_pay 26 = .ok (.imul, 1) := by decide +kernel
theorem dL_pay_27 : decode cL_pay 27 = .ok (.dup2, 1) := by decide +kernel
theorem dL_pay_28 : decode cL_pay 28 = .ok (.iaload, 1) := by decide +kernel
theorem dL_pay_29 : decode cL_pay 29 = .ok (.iload 6, 2) := by decide +kernel
theorem dL_pay_31 : decode cL_pay 31 = .ok (.isub, 1) := by decide +kernel
theorem dL_pay_32 : decode cL_pay 32 = .ok (.iastore, 1) := by decide +kernel
theorem dL_pay_33 : decode cL_pay 33 = .ok (.aload_n 3, 1) := by decide +kernel
theorem dL_pay_34 : decode cL_pay 34 = .ok (.bipush 6, 2) := by decide +kernel
theorem dL_pay_36 : decode cL_pay 36 = .ok (.iload_n 0, 1) := by decide +kernel
theorem dL_pay_37 : decode cL_pay 37 = .ok (.imul, 1) := by decide +kernel
theorem dL_pay_38 : decode cL_pay 38 = .ok (.iconst 2, 1) := by decide +kernel
theorem dL_pay_39 : decode cL_pay 39 = .ok (.iadd, 1) := by decide +kernel
theorem dL_pay_40 : decode cL_pay 40 = .ok (.dup2, 1) := by decide +kernel
theorem dL_pay_41 : decode cL_pay 41 = .ok (.iaload, 1) := by decide +kernel
theorem dL_pay_42 : decode cL_pay 42 = .ok (.iload 6, 2) := by decide +kernel
theorem dL_pay_44 : decode cL_pay 44 = .ok (.iadd, 1) := by decide +kernel
theorem dL_pay_45 : decode cL_pay 45 = .ok (.iastore, 1) := by decide +kernel
theorem dL_pay_46 : decode cL_pay 46 = .ok (.aload_n 3, 1) := by decide +kernel
theorem dL_pay_47 : decode cL_pay 47 = .ok (.bipush 6, 2) := by decide +kernel
theorem dL_pay_49 : decode cL_pay 49 = .ok (.iload_n 1, 1) := by decide +kernel
theorem dL_pay_50 : decode cL_pay 50 = .ok (.imul, 1) := by decide +kernel
theorem dL_pay_51 : decode cL_pay 51 = .ok (.dup2, 1) := by decide +kernel
theorem dL_pay_52 : decode cL_pay 52 = .ok (.iaload, 1) := by decide +kernel
theorem dL_pay_53 : decode cL_pay 53 = .ok (.iload 6, 2) := by decide +kernel
theorem dL_pay_55 : decode cL_pay 55 = .ok (.iadd, 1) := by decide +kernel
theorem dL_pay_56 : decode cL_pay 56 = .ok (.iastore, 1) := by decide +kernel
theorem dL_pay_57 : decode cL_pay 57 = .ok (.aload_n 3, 1) := by decide +kernel
theorem dL_pay_58 : decode cL_pay 58 = .ok (.bipush 6, 2) := by decide +kernel
theorem dL_pay_60 : decode cL_pay 60 = .ok (.iload_n 1, 1) := by decide +kernel
theorem dL_pay_61 : decode cL_pay 61 = .ok (.imul, 1) := by decide +kernel
theorem dL_pay_62 : decode cL_pay 62 = .ok (.iconst 3, 1) := by decide +kernel
theorem dL_pay_63 : decode cL_pay 63 = .ok (.iadd, 1) := by decide +kernel
theorem dL_pay_64 : decode cL_pay 64 = .ok (.dup2, 1) := by decide +kernel
theorem dL_pay_65 : decode cL_pay 65 = .ok (.iaload, 1) := by decide +kernel
theorem dL_pay_66 : decode cL_pay 66 = .ok (.iload 6, 2) := by decide +kernel
theorem dL_pay_68 : decode cL_pay 68 = .ok (.iadd, 1) := by decide +kernel
theorem dL_pay_69 : decode cL_pay 69 = .ok (.iastore, 1) := by decide +kernel
theorem dL_pay_70 : decode cL_pay 70 = .ok (.iload 6, 2) := by decide +kernel
theorem dL_pay_72 : decode cL_pay 72 = .ok (.iload_n 2, 1) := by decide +kernel
theorem dL_pay_73 : decode cL_pay 73 = .ok (.if_icmp .ne 4, 3) := by decide +kernel
theorem dL_pay_76 : decode cL_pay 76 = .ok (.return_, 1) := by decide +kernel
theorem dL_pay_77 : decode cL_pay 77 = .ok (.aload 4, 2) := by decide +kernel
theorem dL_pay_79 : decode cL_pay 79 = .ok (.iconst 4, 1) := by decide +kernel
theorem dL_pay_80 : decode cL_pay 80 = .ok (.iload_n 0, 1) := by decide +kernel
theorem dL_pay_81 : decode cL_pay 81 = .ok (.imul, 1) := by decide +kernel
theorem dL_pay_82 : decode cL_pay 82 = .ok (.iload_n 1, 1) := by decide +kernel
theorem dL_pay_83 : decode cL_pay 83 = .ok (.iadd, 1) := by decide +kernel
theorem dL_pay_84 : decode cL_pay 84 = .ok (.iaload, 1) := by decide +kernel
theorem dL_pay_85 : decode cL_pay 85 = .ok (.ifCond .ne 12, 3) := by decide +kernel
theorem dL_pay_88 : decode cL_pay 88 = .ok (.aload 5, 2) := by decide +kernel
theorem dL_pay_90 : decode cL_pay 90 = .ok (.iconst 4, 1) := by decide +kernel
theorem dL_pay_91 : decode cL_pay 91 = .ok (.iload_n 0, 1) := by decide +kernel
theorem dL_pay_92 : decode cL_pay 92 = .ok (.imul, 1) := by decide +kernel
theorem dL_pay_93 : decode cL_pay 93 = .ok (.iload_n 1, 1) := by decide +kernel
theorem dL_pay_94 : decode cL_pay 94 = .ok (.iadd, 1) := by decide +kernel
theorem dL_pay_95 : decode cL_pay 95 = .ok (.iconst 0, 1) := by decide +kernel
theorem dL_pay_96 : decode cL_pay 96 = .ok (.iastore, 1) := by decide +kernel
theorem dL_pay_97 : decode cL_pay 97 = .ok (.aload 4, 2) := by decide +kernel
theorem dL_pay_99 : decode cL_pay 99 = .ok (.iconst 4, 1) := by decide +kernel
theorem dL_pay_100 : decode cL_pay 100 = .ok (.iload_n 0, 1) := by decide +kernel
theorem dL_pay_101 : decode cL_pay 101 = .ok (.imul, 1) := by decide +kernel
theorem dL_pay_102 : decode cL_pay 102 = .ok (.iload_n 1, 1) := by decide +kernel
theorem dL_pay_103 : decode cL_pay 103 = .ok (.iadd, 1) := by decide +kernel
theorem dL_pay_104 : decode cL_pay 104 = .ok (.dup2, 1) := by decide +kernel
theorem dL_pay_105 : decode cL_pay 105 = .ok (.iaload, 1) := by decide +kernel
theorem dL_pay_106 : decode cL_pay 106 = .ok (.iload_n 2, 1) := by decide +kernel
theorem dL_pay_107 : decode cL_pay 107 = .ok (.iload 6, 2) := by decide +kernel
theorem dL_pay_109 : decode cL_pay 109 = .ok (.isub, 1) := by decide +kernel
theorem dL_pay_110 : decode cL_pay 110 = .ok (.iadd, 1) := by decide +kernel
theorem dL_pay_111 : decode cL_pay 111 = .ok (.iastore, 1) := by decide +kernel
theorem dL_pay_112 : decode cL_pay 112 = .ok (.return_, 1) := by decide +kernel
theorem dL_creditors_0 : decode cL_creditors 0 = .ok (.iconst 0, 1) := by decide +kernel
theorem dL_creditors_1 : decode cL_creditors 1 = .ok (.istore_n 3, 1) := by decide +kernel
theorem dL_creditors_2 : decode cL_creditors 2 = .ok (.iconst 0, 1) := by decide +kernel
theorem dL_creditors_3 : decode cL_creditors 3 = .ok (.istore 4, 2) := by decide +kernel
theorem dL_creditors_5 : decode cL_creditors 5 = .ok (.iconst 0, 1) := by decide +kernel
theorem dL_creditors_6 : decode cL_creditors 6 = .ok (.istore 5, 2) := by decide +kernel
theorem dL_creditors_8 : decode cL_creditors 8 = .ok (.iconst (-1), 1) := by decide +kernel
theorem dL_creditors_9 : decode cL_creditors 9 = .ok (.istore 6, 2) := by decide +kernel
theorem dL_creditors_11 : decode cL_creditors 11 = .ok (.iconst 0, 1) := by decide +kernel
theorem dL_creditors_12 : decode cL_creditors 12 = .ok (.istore 7, 2) := by decide +kernel
theorem dL_creditors_14 : decode cL_creditors 14 = .ok (.iload 7, 2) := by decide +kernel
theorem dL_creditors_16 : decode cL_creditors 16 = .ok (.iconst 4, 1) := by decide +kernel
theorem dL_creditors_17 : decode cL_creditors 17 = .ok (.if_icmp .ge 70, 3) := by decide +kernel
theorem dL_creditors_20 : decode cL_creditors 20 = .ok (.aload_n 1, 1) := by decide +kernel
theorem dL_creditors_21 : decode cL_creditors 21 = .ok (.iconst 4, 1) := by decide +kernel
theorem dL_creditors_22 : decode cL_creditors 22 = .ok (.iload_n 0, 1) := by decide +kernel
theorem dL_creditors_23 : decode cL_creditors 23 = .ok (.imul, 1) := by decide +kernel
theorem dL_creditors_24 : decode cL_creditors 24 = .ok (.iload 7, 2) := by decide +kernel
theorem dL_creditors_26 : decode cL_creditors 26 = .ok (.iadd, 1) := by decide +kernel
theorem dL_creditors_27 : decode cL_creditors 27 = .ok (.iaload, 1) := by decide +kernel
theorem dL_creditors_28 : decode cL_creditors 28 = .ok (.ifCond .le 17, 3) := by decide +kernel
theorem dL_creditors_31 : decode cL_creditors 31 = .ok (.iload 5, 2) := by decide +kernel
theorem dL_creditors_33 : decode cL_creditors 33 = .ok (.iload 7, 2) := by decide +kernel
theorem dL_creditors_35 : decode cL_creditors 35 = .ok (.ishr, 1) := by decide +kernel
theorem dL_creditors_36 : decode cL_creditors 36 = .ok (.iconst 1, 1) := by decide +kernel
theorem dL_creditors_37 : decode cL_creditors 37 = .ok (.iand, 1) := by decide +kernel
theorem dL_creditors_38 : decode cL_creditors 38 = .ok (.ifCond .ne 7, 3) := by decide +kernel
theorem dL_creditors_41 : decode cL_creditors 41 = .ok (.iconst 1, 1) := by decide +kernel
theorem dL_creditors_42 : decode cL_creditors 42 = .ok (.goto 4, 3) := by decide +kernel
theorem dL_creditors_45 : decode cL_creditors 45 = .ok (.iconst 0, 1) := by decide +kernel
theorem dL_creditors_46 : decode cL_creditors 46 = .ok (.istore 8, 2) := by decide +kernel
theorem dL_creditors_48 : decode cL_creditors 48 = .ok (.iload 8, 2) := by decide +kernel
theorem dL_creditors_50 : decode cL_creditors 50 = .ok (.ifCond .eq 31, 3) := by decide +kernel
theorem dL_creditors_53 : decode cL_creditors 53 = .ok (.iload 6, 2) := by decide +kernel
theorem dL_creditors_55 : decode cL_creditors 55 = .ok (.ifCond .lt 22, 3) := by decide +kernel
theorem dL_creditors_58 : decode cL_creditors 58 = .ok (.aload_n 2, 1) := by decide +kernel
theorem dL_creditors_59 : decode cL_creditors 59 = .ok (.iconst 4, 1) := by decide +kernel
theorem dL_creditors_60 : decode cL_creditors 60 = .ok (.iload_n 0, 1) := by decide +kernel
theorem dL_creditors_61 : decode cL_creditors 61 = .ok (.imul, 1) := by decide +kernel
theorem dL_creditors_62 : decode cL_creditors 62 = .ok (.iload 7, 2) := by decide +kernel
theorem dL_creditors_64 : decode cL_creditors 64 = .ok (.iadd, 1) := by decide +kernel
theorem dL_creditors_65 : decode cL_creditors 65 = .ok (.iaload, 1) := by decide +kernel
theorem dL_creditors_66 : decode cL_creditors 66 = .ok (.aload_n 2, 1) := by decide +kernel
theorem dL_creditors_67 : decode cL_creditors 67 = .ok (.iconst 4, 1) := by decide +kernel
theorem dL_creditors_68 : decode cL_creditors 68 = .ok (.iload_n 0, 1) := by decide +kernel
theorem dL_creditors_69 : decode cL_creditors 69 = .ok (.imul, 1) := by decide +kernel
theorem dL_creditors_70 : decode cL_creditors 70 = .ok (.iload 6, 2) := by decide +kernel
theorem dL_creditors_72 : decode cL_creditors 72 = .ok (.iadd, 1) := by decide +kernel
theorem dL_creditors_73 : decode cL_creditors 73 = .ok (.iaload, 1) := by decide +kernel
theorem dL_creditors_74 : decode cL_creditors 74 = .ok (.if_icmp .le 7, 3) := by decide +kernel
theorem dL_creditors_77 : decode cL_creditors 77 = .ok (.iload 7, 2) := by decide +kernel
theorem dL_creditors_79 : decode cL_creditors 79 = .ok (.istore 6, 2) := by decide +kernel
theorem dL_creditors_81 : decode cL_creditors 81 = .ok (.iinc 7 1, 3) := by decide +kernel
theorem dL_creditors_84 : decode cL_creditors 84 = .ok (.goto (-70), 3) := by decide +kernel
theorem dL_creditors_87 : decode cL_creditors 87 = .ok (.iload 6, 2) := by decide +kernel
theorem dL_creditors_89 : decode cL_creditors 89 = .ok (.ifCond .ge 11, 3) := by decide +kernel
theorem dL_creditors_92 : decode cL_creditors 92 = .ok (.iload_n 3, 1) := by decide +kernel
theorem dL_creditors_93 : decode cL_creditors 93 = .ok (.iload 4, 2) := by decide +kernel
theorem dL_creditors_95 : decode cL_creditors 95 = .ok (.bipush 8, 2) := by decide +kernel
theorem dL_creditors_97 : decode cL_creditors 97 = .ok (.ishl, 1) := by decide +kernel
theorem dL_creditors_98 : decode cL_creditors 98 = .ok (.ior, 1) := by decide +kernel
theorem dL_creditors_99 : decode cL_creditors 99 = .ok (.ireturn, 1) := by decide +kernel
theorem dL_creditors_100 : decode cL_creditors 100 = .ok (.iload_n 3, 1) := by decide +kernel
theorem dL_creditors_101 : decode cL_creditors 101 = .ok (.iload 6, 2) := by decide +kernel
theorem dL_creditors_103 : decode cL_creditors 103 = .ok (.iconst 2, 1) := by decide +kernel
theorem dL_creditors_104 : decode cL_creditors 104 = .ok (.iload 4, 2) := by decide +kernel
theorem dL_creditors_106 : decode cL_creditors 106 = .ok (.imul, 1) := by decide +kernel
theorem dL_creditors_107 : decode cL_creditors 107 = .ok (.ishl, 1) := by decide +kernel
theorem dL_creditors_108 : decode cL_creditors 108 = .ok (.ior, 1) := by decide +kernel
theorem dL_creditors_109 : decode cL_creditors 109 = .ok (.istore_n 3, 1) := by decide +kernel
theorem dL_creditors_110 : decode cL_creditors 110 = .ok (.iload 5, 2) := by decide +kernel
theorem dL_creditors_112 : decode cL_creditors 112 = .ok (.iconst 1, 1) := by decide +kernel
theorem dL_creditors_113 : decode cL_creditors 113 = .ok (.iload 6, 2) := by decide +kernel
theorem dL_creditors_115 : decode cL_creditors 115 = .ok (.ishl, 1) := by decide +kernel
theorem dL_creditors_116 : decode cL_creditors 116 = .ok (.ior, 1) := by decide +kernel
theorem dL_creditors_117 : decode cL_creditors 117 = .ok (.istore 5, 2) := by decide +kernel
theorem dL_creditors_119 : decode cL_creditors 119 = .ok (.iinc 4 1, 3) := by decide +kernel
theorem dL_creditors_122 : decode cL_creditors 122 = .ok (.goto (-114), 3) := by decide +kernel
theorem dL_turn_0 : decode cL_turn 0 = .ok (.aload_n 0, 1) := by decide +kernel
theorem dL_turn_1 : decode cL_turn 1 = .ok (.bipush 7, 2) := by decide +kernel
theorem dL_turn_3 : decode cL_turn 3 = .ok (.iaload, 1) := by decide +kernel
theorem dL_turn_4 : decode cL_turn 4 = .ok (.istore 5, 2) := by decide +kernel
theorem dL_turn_6 : decode cL_turn 6 = .ok (.iload 5, 2) := by decide +kernel
theorem dL_turn_8 : decode cL_turn 8 = .ok (.aload_n 3, 1) := by decide +kernel
theorem dL_turn_9 : decode cL_turn 9 = .ok (.aload 4, 2) := by decide +kernel
theorem dL_turn_11 : decode cL_turn 11 = .ok (.invokestatic 11, 3) := by decide +kernel
theorem dL_turn_14 : decode cL_turn 14 = .ok (.istore 6, 2) := by decide +kernel
theorem dL_turn_16 : decode cL_turn 16 = .ok (.iconst 0, 1) := by decide +kernel
theorem dL_turn_17 : decode cL_turn 17 = .ok (.istore 7, 2) := by decide +kernel
theorem dL_turn_19 : decode cL_turn 19 = .ok (.iload 7, 2) := by decide +kernel
theorem dL_turn_21 : decode cL_turn 21 = .ok (.iload 6, 2) := by decide +kernel
theorem dL_turn_23 : decode cL_turn 23 = .ok (.bipush 8, 2) := by decide +kernel
theorem dL_turn_25 : decode cL_turn 25 = .ok (.ishr, 1) := by decide +kernel
theorem dL_turn_26 : decode cL_turn 26 = .ok (.if_icmp .ge 94, 3) := by decide +kernel
theorem dL_turn_29 : decode cL_turn 29 = .ok (.iload 6, 2) := by decide +kernel
theorem dL_turn_31 : decode cL_turn 31 = .ok (.iconst 2, 1) := by decide +kernel
theorem dL_turn_32 : decode cL_turn 32 = .ok (.iload 7, 2) := by decide +kernel
theorem dL_turn_34 : decode cL_turn 34 = .ok (.imul, 1) := by decide +kernel
theorem dL_turn_35 : decode cL_turn 35 = .ok (.ishr, 1) := by decide +kernel
theorem dL_turn_36 : decode cL_turn 36 = .ok (.iconst 3, 1) := by decide +kernel
theorem dL_turn_37 : decode cL_turn 37 = .ok (.iand, 1) := by decide +kernel
theorem dL_turn_38 : decode cL_turn 38 = .ok (.istore 8, 2) := by decide +kernel
theorem dL_turn_40 : decode cL_turn 40 = .ok (.aload_n 3, 1) := by decide +kernel
theorem dL_turn_41 : decode cL_turn 41 = .ok (.iconst 4, 1) := by decide +kernel
theorem dL_turn_42 : decode cL_turn 42 = .ok (.iload 5, 2) := by decide +kernel
theorem dL_turn_44 : decode cL_turn 44 = .ok (.imul, 1) := by decide +kernel
theorem dL_turn_45 : decode cL_turn 45 = .ok (.iload 8, 2) := by decide +kernel
theorem dL_turn_47 : decode cL_turn 47 = .ok (.iadd, 1) := by decide +kernel
theorem dL_turn_48 : decode cL_turn 48 = .ok (.iaload, 1) := by decide +kernel
theorem dL_turn_49 : decode cL_turn 49 = .ok (.istore 9, 2) := by decide +kernel
theorem dL_turn_51 : decode cL_turn 51 = .ok (.aload_n 3, 1) := by decide +kernel
theorem dL_turn_52 : decode cL_turn 52 = .ok (.iconst 4, 1) := by decide +kernel
theorem dL_turn_53 : decode cL_turn 53 = .ok (.iload 5, 2) := by decide +kernel
theorem dL_turn_55 : decode cL_turn 55 = .ok (.imul, 1) := by decide +kernel
theorem dL_turn_56 : decode cL_turn 56 = .ok (.iload 8, 2) := by decide +kernel
theorem dL_turn_58 : decode cL_turn 58 = .ok (.iadd, 1) := by decide +kernel
theorem dL_turn_59 : decode cL_turn 59 = .ok (.iconst 0, 1) := by decide +kernel
theorem dL_turn_60 : decode cL_turn 60 = .ok (.iastore, 1) := by decide +kernel
theorem dL_turn_61 : decode cL_turn 61 = .ok (.aload 4, 2) := by decide +kernel
theorem dL_turn_63 : decode cL_turn 63 = .ok (.iconst 4, 1) := by decide +kernel
theorem dL_turn_64 : decode cL_turn 64 = .ok (.iload 5, 2) := by decide +kernel
theorem dL_turn_66 : decode cL_turn 66 = .ok (.imul, 1) := by decide +kernel
theorem dL_turn_67 : decode cL_turn 67 = .ok (.iload 8, 2) := by decide +kernel
theorem dL_turn_69 : decode cL_turn 69 = .ok (.iadd, 1) := by decide +kernel
theorem dL_turn_70 : decode cL_turn 70 = .ok (.iaload, 1) := by decide +kernel
theorem dL_turn_71 : decode cL_turn 71 = .ok (.istore 10, 2) := by decide +kernel
theorem dL_turn_73 : decode cL_turn 73 = .ok (.iload 5, 2) := by decide +kernel
theorem dL_turn_75 : decode cL_turn 75 = .ok (.iload 8, 2) := by decide +kernel
theorem dL_turn_77 : decode cL_turn 77 = .ok (.iload 9, 2) := by decide +kernel
theorem dL_turn_79 : decode cL_turn 79 = .ok (.aload_n 1, 1) := by decide +kernel
theorem dL_turn_80 : decode cL_turn 80 = .ok (.aload_n 3, 1) := by decide +kernel
theorem dL_turn_81 : decode cL_turn 81 = .ok (.aload 4, 2) := by decide +kernel
theorem dL_turn_83 : decode cL_turn 83 = .ok (.invokestatic 17, 3) := by decide +kernel
theorem dL_turn_86 : decode cL_turn 86 = .ok (.aload 4, 2) := by decide +kernel
theorem dL_turn_88 : decode cL_turn 88 = .ok (.iconst 4, 1) := by decide +kernel
theorem dL_turn_89 : decode cL_turn 89 = .ok (.iload 5, 2) := by decide +kernel
theorem dL_turn_91 : decode cL_turn 91 = .ok (.imul, 1) := by decide +kernel
theorem dL_turn_92 : decode cL_turn 92 = .ok (.iload 8, 2) := by decide +kernel
theorem dL_turn_94 : decode cL_turn 94 = .ok (.iadd, 1) := by decide +kernel
theorem dL_turn_95 : decode cL_turn 95 = .ok (.aload_n 3, 1) := by decide +kernel
theorem dL_turn_96 : decode cL_turn 96 = .ok (.iconst 4, 1) := by decide +kernel
theorem dL_turn_97 : decode cL_turn 97 = .ok (.iload 5, 2) := by decide +kernel
theorem dL_turn_99 : decode cL_turn 99 = .ok (.imul, 1) := by decide +kernel
theorem dL_turn_100 : decode cL_turn 100 = .ok (.iload 8, 2) := by decide +kernel
theorem dL_turn_102 : decode cL_turn 102 = .ok (.iadd, 1) := by decide +kernel
theorem dL_turn_103 : decode cL_turn 103 = .ok (.iaload, 1) := by decide +kernel
theorem dL_turn_104 : decode cL_turn 104 = .ok (.ifCond .le 8, 3) := by decide +kernel
theorem dL_turn_107 : decode cL_turn 107 = .ok (.iload 10, 2) := by decide +kernel
theorem dL_turn_109 : decode cL_turn 109 = .ok (.goto 4, 3) := by decide +kernel
theorem dL_turn_112 : decode cL_turn 112 = .ok (.iconst 0, 1) := by decide +kernel
theorem dL_turn_113 : decode cL_turn 113 = .ok (.iastore, 1) := by decide +kernel
theorem dL_turn_114 : decode cL_turn 114 = .ok (.iinc 7 1, 3) := by decide +kernel
theorem dL_turn_117 : decode cL_turn 117 = .ok (.goto (-98), 3) := by decide +kernel
theorem dL_turn_120 : decode cL_turn 120 = .ok (.aload_n 0, 1) := by decide +kernel
theorem dL_turn_121 : decode cL_turn 121 = .ok (.invokestatic 21, 3) := by decide +kernel
theorem dL_turn_124 : decode cL_turn 124 = .ok (.istore 7, 2) := by decide +kernel
theorem dL_turn_126 : decode cL_turn 126 = .ok (.iload 7, 2) := by decide +kernel
theorem dL_turn_128 : decode cL_turn 128 = .ok (.aload_n 0, 1) := by decide +kernel
theorem dL_turn_129 : decode cL_turn 129 = .ok (.invokestatic 21, 3) := by decide +kernel
theorem dL_turn_132 : decode cL_turn 132 = .ok (.iadd, 1) := by decide +kernel
theorem dL_turn_133 : decode cL_turn 133 = .ok (.istore 7, 2) := by decide +kernel
theorem dL_turn_135 : decode cL_turn 135 = .ok (.aload_n 1, 1) := by decide +kernel
theorem dL_turn_136 : decode cL_turn 136 = .ok (.bipush 6, 2) := by decide +kernel
theorem dL_turn_138 : decode cL_turn 138 = .ok (.iload 5, 2) := by decide +kernel
theorem dL_turn_140 : decode cL_turn 140 = .ok (.imul, 1) := by decide +kernel
theorem dL_turn_141 : decode cL_turn 141 = .ok (.iconst 1, 1) := by decide +kernel
theorem dL_turn_142 : decode cL_turn 142 = .ok (.iadd, 1) := by decide +kernel
theorem dL_turn_143 : decode cL_turn 143 = .ok (.iaload, 1) := by decide +kernel
theorem dL_turn_144 : decode cL_turn 144 = .ok (.iload 7, 2) := by decide +kernel
theorem dL_turn_146 : decode cL_turn 146 = .ok (.iadd, 1) := by decide +kernel
theorem dL_turn_147 : decode cL_turn 147 = .ok (.istore 8, 2) := by decide +kernel
theorem dL_turn_149 : decode cL_turn 149 = .ok (.iload 8, 2) := by decide +kernel
theorem dL_turn_151 : decode cL_turn 151 = .ok (.bipush 19, 2) := by decide +kernel
theorem dL_turn_153 : decode cL_turn 153 = .ok (.if_icmp .le 29, 3) := by decide +kernel
theorem dL_turn_156 : decode cL_turn 156 = .ok (.iinc 8 (-20), 3) := by decide +kernel
theorem dL_turn_159 : decode cL_turn 159 = .ok (.aload_n 1, 1) := by decide +kernel
theorem dL_turn_160 : decode cL_turn 160 = .ok (.bipush 6, 2) := by decide +kernel
theorem dL_turn_162 : decode cL_turn 162 = .ok (.iload 5, 2) := by decide +kernel
theorem dL_turn_164 : decode cL_turn 164 = .ok (.imul, 1) := by decide +kernel
theorem dL_turn_165 : decode cL_turn 165 = .ok (.dup2, 1) := by decide +kernel
theorem dL_turn_166 : decode cL_turn 166 = .ok (.iaload, 1) := by decide +kernel
theorem dL_turn_167 : decode cL_turn 167 = .ok (.aload_n 0, 1) := by decide +kernel
theorem dL_turn_168 : decode cL_turn 168 = .ok (.iconst 0, 1) := by decide +kernel
theorem dL_turn_169 : decode cL_turn 169 = .ok (.iaload, 1) := by decide +kernel
theorem dL_turn_170 : decode cL_turn 170 = .ok (.iadd, 1) := by decide +kernel
theorem dL_turn_171 : decode cL_turn 171 = .ok (.iastore, 1) := by decide +kernel
theorem dL_turn_172 : decode cL_turn 172 = .ok (.aload_n 0, 1) := by decide +kernel
theorem dL_turn_173 : decode cL_turn 173 = .ok (.bipush 10, 2) := by decide +kernel
theorem dL_turn_175 : decode cL_turn 175 = .ok (.dup2, 1) := by decide +kernel
theorem dL_turn_176 : decode cL_turn 176 = .ok (.iaload, 1) := by decide +kernel
theorem dL_turn_177 : decode cL_turn 177 = .ok (.aload_n 0, 1) := by decide +kernel
theorem dL_turn_178 : decode cL_turn 178 = .ok (.iconst 0, 1) := by decide +kernel
theorem dL_turn_179 : decode cL_turn 179 = .ok (.iaload, 1) := by decide +kernel
theorem dL_turn_180 : decode cL_turn 180 = .ok (.iadd, 1) := by decide +kernel
theorem dL_turn_181 : decode cL_turn 181 = .ok (.iastore, 1) := by decide +kernel
theorem dL_turn_182 : decode cL_turn 182 = .ok (.aload_n 1, 1) := by decide +kernel
theorem dL_turn_183 : decode cL_turn 183 = .ok (.bipush 6, 2) := by decide +kernel
theorem dL_turn_185 : decode cL_turn 185 = .ok (.iload 5, 2) := by decide +kernel
theorem dL_turn_187 : decode cL_turn 187 = .ok (.imul, 1) := by decide +kernel
theorem dL_turn_188 : decode cL_turn 188 = .ok (.iconst 1, 1) := by decide +kernel
theorem dL_turn_189 : decode cL_turn 189 = .ok (.iadd, 1) := by decide +kernel
theorem dL_turn_190 : decode cL_turn 190 = .ok (.iload 8, 2) := by decide +kernel
theorem dL_turn_192 : decode cL_turn 192 = .ok (.iastore, 1) := by decide +kernel
theorem dL_turn_193 : decode cL_turn 193 = .ok (.aload_n 2, 1) := by decide +kernel
theorem dL_turn_194 : decode cL_turn 194 = .ok (.iload 8, 2) := by decide +kernel
theorem dL_turn_196 : decode cL_turn 196 = .ok (.iaload, 1) := by decide +kernel
theorem dL_turn_197 : decode cL_turn 197 = .ok (.iload 5, 2) := by decide +kernel
theorem dL_turn_199 : decode cL_turn 199 = .ok (.if_icmp .eq 15, 3) := by decide +kernel
theorem dL_turn_202 : decode cL_turn 202 = .ok (.aload_n 2, 1) := by decide +kernel
theorem dL_turn_203 : decode cL_turn 203 = .ok (.bipush 20, 2) := by decide +kernel
theorem dL_turn_205 : decode cL_turn 205 = .ok (.iload 8, 2) := by decide +kernel
theorem dL_turn_207 : decode cL_turn 207 = .ok (.iadd, 1) := by decide +kernel
theorem dL_turn_208 : decode cL_turn 208 = .ok (.iaload, 1) := by decide +kernel
theorem dL_turn_209 : decode cL_turn 209 = .ok (.iload 5, 2) := by decide +kernel
theorem dL_turn_211 : decode cL_turn 211 = .ok (.if_icmp .ne 7, 3) := by decide +kernel
theorem dL_turn_214 : decode cL_turn 214 = .ok (.iconst 1, 1) := by decide +kernel
theorem dL_turn_215 : decode cL_turn 215 = .ok (.goto 4, 3) := by decide +kernel
theorem dL_turn_218 : decode cL_turn 218 = .ok (.iconst 0, 1) := by decide +kernel
theorem dL_turn_219 : decode cL_turn 219 = .ok (.istore 9, 2) := by decide +kernel
theorem dL_turn_221 : decode cL_turn 221 = .ok (.iload 8, 2) := by decide +kernel
theorem dL_turn_223 : decode cL_turn 223 = .ok (.iconst 5, 1) := by decide +kernel
theorem dL_turn_224 : decode cL_turn 224 = .ok (.irem, 1) := by decide +kernel
theorem dL_turn_225 : decode cL_turn 225 = .ok (.ifCond .eq 10, 3) := by decide +kernel
theorem dL_turn_228 : decode cL_turn 228 = .ok (.aload_n 2, 1) := by decide +kernel
theorem dL_turn_229 : decode cL_turn 229 = .ok (.iload 8, 2) := by decide +kernel
theorem dL_turn_231 : decode cL_turn 231 = .ok (.iaload, 1) := by decide +kernel
theorem dL_turn_232 : decode cL_turn 232 = .ok (.ifCond .lt 22, 3) := by decide +kernel
theorem dL_turn_235 : decode cL_turn 235 = .ok (.iload 8, 2) := by decide +kernel
theorem dL_turn_237 : decode cL_turn 237 = .ok (.bipush 10, 2) := by decide +kernel
theorem dL_turn_239 : decode cL_turn 239 = .ok (.irem, 1) := by decide +kernel
theorem dL_turn_240 : decode cL_turn 240 = .ok (.iconst 5, 1) := by decide +kernel
theorem dL_turn_241 : decode cL_turn 241 = .ok (.if_icmp .ne 17, 3) := by decide +kernel
theorem dL_turn_244 : decode cL_turn 244 = .ok (.aload_n 2, 1) := by decide +kernel
theorem dL_turn_245 : decode cL_turn 245 = .ok (.bipush 20, 2) := by decide +kernel
theorem dL_turn_247 : decode cL_turn 247 = .ok (.iload 8, 2) := by decide +kernel
theorem dL_turn_249 : decode cL_turn 249 = .ok (.iadd, 1) := by decide +kernel
theorem dL_turn_250 : decode cL_turn 250 = .ok (.iaload, 1) := by decide +kernel
theorem dL_turn_251 : decode cL_turn 251 = .ok (.ifCond .ge 7, 3) := by decide +kernel
theorem dL_turn_254 : decode cL_turn 254 = .ok (.iconst 1, 1) := by decide +kernel
theorem dL_turn_255 : decode cL_turn 255 = .ok (.goto 4, 3) := by decide +kernel
theorem dL_turn_258 : decode cL_turn 258 = .ok (.iconst 0, 1) := by decide +kernel
theorem dL_turn_259 : decode cL_turn 259 = .ok (.istore 10, 2) := by decide +kernel
theorem dL_turn_261 : decode cL_turn 261 = .ok (.iload 9, 2) := by decide +kernel
theorem dL_turn_263 : decode cL_turn 263 = .ok (.ifCond .ne 97, 3) := by decide +kernel
theorem dL_turn_266 : decode cL_turn 266 = .ok (.iload 10, 2) := by decide +kernel
theorem dL_turn_268 : decode cL_turn 268 = .ok (.ifCond .eq 92, 3) := by decide +kernel
theorem dL_turn_271 : decode cL_turn 271 = .ok (.aload_n 0, 1) := by decide +kernel
theorem dL_turn_272 : decode cL_turn 272 = .ok (.invokestatic 21, 3) := by decide +kernel
theorem dL_turn_275 : decode cL_turn 275 = .ok (.aload_n 0, 1) := by decide +kernel
theorem dL_turn_276 : decode cL_turn 276 = .ok (.iconst 3, 1) := by decide +kernel
theorem dL_turn_277 : decode cL_turn 277 = .ok (.iaload, 1) := by decide +kernel
theorem dL_turn_278 : decode cL_turn 278 = .ok (.if_icmp .lt 82, 3) := by decide +kernel
theorem dL_turn_281 : decode cL_turn 281 = .ok (.aload_n 1, 1) := by decide +kernel
theorem dL_turn_282 : decode cL_turn 282 = .ok (.bipush 6, 2) := by decide +kernel
theorem dL_turn_284 : decode cL_turn 284 = .ok (.iload 5, 2) := by decide +kernel
theorem dL_turn_286 : decode cL_turn 286 = .ok (.imul, 1) := by decide +kernel
theorem dL_turn_287 : decode cL_turn 287 = .ok (.iaload, 1) := by decide +kernel
theorem dL_turn_288 : decode cL_turn 288 = .ok (.aload_n 0, 1) := by decide +kernel
theorem dL_turn_289 : decode cL_turn 289 = .ok (.iconst 1, 1) := by decide +kernel
theorem dL_turn_290 : decode cL_turn 290 = .ok (.iaload, 1) := by decide +kernel
theorem dL_turn_291 : decode cL_turn 291 = .ok (.if_icmp .lt 69, 3) := by decide +kernel
theorem dL_turn_294 : decode cL_turn 294 = .ok (.aload_n 1, 1) := by decide +kernel
theorem dL_turn_295 : decode cL_turn 295 = .ok (.bipush 6, 2) := by decide +kernel
theorem dL_turn_297 : decode cL_turn 297 = .ok (.iload 5, 2) := by decide +kernel
theorem dL_turn_299 : decode cL_turn 299 = .ok (.imul, 1) := by decide +kernel
theorem dL_turn_300 : decode cL_turn 300 = .ok (.dup2, 1) := by decide +kernel
theorem dL_turn_301 : decode cL_turn 301 = .ok (.iaload, 1) := by decide +kernel
theorem dL_turn_302 : decode cL_turn 302 = .ok (.aload_n 0, 1) := by decide +kernel
theorem dL_turn_303 : decode cL_turn 303 = .ok (.iconst 1, 1) := by decide +kernel
theorem dL_turn_304 : decode cL_turn 304 = .ok (.iaload, 1) := by decide +kernel
theorem dL_turn_305 : decode cL_turn 305 = .ok (.isub, 1) := by decide +kernel
theorem dL_turn_306 : decode cL_turn 306 = .ok (.iastore, 1) := by decide +kernel
theorem dL_turn_307 : decode cL_turn 307 = .ok (.aload_n 2, 1) := by decide +kernel
theorem dL_turn_308 : decode cL_turn 308 = .ok (.iload 8, 2) := by decide +kernel
theorem dL_turn_310 : decode cL_turn 310 = .ok (.iaload, 1) := by decide +kernel
theorem dL_turn_311 : decode cL_turn 311 = .ok (.ifCond .ge 22, 3) := by decide +kernel
theorem dL_turn_314 : decode cL_turn 314 = .ok (.aload_n 2, 1) := by decide +kernel
theorem dL_turn_315 : decode cL_turn 315 = .ok (.iload 8, 2) := by decide +kernel
theorem dL_turn_317 : decode cL_turn 317 = .ok (.iload 5, 2) := by decide +kernel
theorem dL_turn_319 : decode cL_turn 319 = .ok (.iastore, 1) := by decide +kernel
theorem dL_turn_320 : decode cL_turn 320 = .ok (.aload_n 0, 1) := by decide +kernel
theorem dL_turn_321 : decode cL_turn 321 = .ok (.bipush 9, 2) := by decide +kernel
theorem dL_turn_323 : decode cL_turn 323 = .ok (.dup2, 1) := by decide +kernel
theorem dL_turn_324 : decode cL_turn 324 = .ok (.iaload, 1) := by decide +kernel
theorem dL_turn_325 : decode cL_turn 325 = .ok (.aload_n 0, 1) := by decide +kernel
theorem dL_turn_326 : decode cL_turn 326 = .ok (.iconst 1, 1) := by decide +kernel
theorem dL_turn_327 : decode cL_turn 327 = .ok (.iaload, 1) := by decide +kernel
theorem dL_turn_328 : decode cL_turn 328 = .ok (.iadd, 1) := by decide +kernel
theorem dL_turn_329 : decode cL_turn 329 = .ok (.iastore, 1) := by decide +kernel
theorem dL_turn_330 : decode cL_turn 330 = .ok (.goto 27, 3) := by decide +kernel
theorem dL_turn_333 : decode cL_turn 333 = .ok (.aload_n 2, 1) := by decide +kernel
theorem dL_turn_334 : decode cL_turn 334 = .ok (.bipush 20, 2) := by decide +kernel
theorem dL_turn_336 : decode cL_turn 336 = .ok (.iload 8, 2) := by decide +kernel
theorem dL_turn_338 : decode cL_turn 338 = .ok (.iadd, 1) := by decide +kernel
theorem dL_turn_339 : decode cL_turn 339 = .ok (.iload 5, 2) := by decide +kernel
theorem dL_turn_341 : decode cL_turn 341 = .ok (.iastore, 1) := by decide +kernel
theorem dL_turn_342 : decode cL_turn 342 = .ok (.aload_n 1, 1) := by decide +kernel
theorem dL_turn_343 : decode cL_turn 343 = .ok (.bipush 6, 2) := by decide +kernel
theorem dL_turn_345 : decode cL_turn 345 = .ok (.aload_n 2, 1) := by decide +kernel
theorem dL_turn_346 : decode cL_turn 346 = .ok (.iload 8, 2) := by decide +kernel
theorem dL_turn_348 : decode cL_turn 348 = .ok (.iaload, 1) := by decide +kernel
theorem dL_turn_349 : decode cL_turn 349 = .ok (.imul, 1) := by decide +kernel
theorem dL_turn_350 : decode cL_turn 350 = .ok (.dup2, 1) := by decide +kernel
theorem dL_turn_351 : decode cL_turn 351 = .ok (.iaload, 1) := by decide +kernel
theorem dL_turn_352 : decode cL_turn 352 = .ok (.aload_n 0, 1) := by decide +kernel
theorem dL_turn_353 : decode cL_turn 353 = .ok (.iconst 1, 1) := by decide +kernel
theorem dL_turn_354 : decode cL_turn 354 = .ok (.iaload, 1) := by decide +kernel
theorem dL_turn_355 : decode cL_turn 355 = .ok (.iadd, 1) := by decide +kernel
theorem dL_turn_356 : decode cL_turn 356 = .ok (.iastore, 1) := by decide +kernel
theorem dL_turn_357 : decode cL_turn 357 = .ok (.iconst 1, 1) := by decide +kernel
theorem dL_turn_358 : decode cL_turn 358 = .ok (.istore 9, 2) := by decide +kernel
theorem dL_turn_360 : decode cL_turn 360 = .ok (.iload 9, 2) := by decide +kernel
theorem dL_turn_362 : decode cL_turn 362 = .ok (.ifCond .ne 78, 3) := by decide +kernel
theorem dL_turn_365 : decode cL_turn 365 = .ok (.aload_n 2, 1) := by decide +kernel
theorem dL_turn_366 : decode cL_turn 366 = .ok (.iload 8, 2) := by decide +kernel
theorem dL_turn_368 : decode cL_turn 368 = .ok (.iaload, 1) := by decide +kernel
theorem dL_turn_369 : decode cL_turn 369 = .ok (.ifCond .lt 71, 3) := by decide +kernel
theorem dL_turn_372 : decode cL_turn 372 = .ok (.iload 8, 2) := by decide +kernel
theorem dL_turn_374 : decode cL_turn 374 = .ok (.aload_n 0, 1) := by decide +kernel
theorem dL_turn_375 : decode cL_turn 375 = .ok (.aload_n 2, 1) := by decide +kernel
theorem dL_turn_376 : decode cL_turn 376 = .ok (.invokestatic 25, 3) := by decide +kernel
theorem dL_turn_379 : decode cL_turn 379 = .ok (.istore 11, 2) := by decide +kernel
theorem dL_turn_381 : decode cL_turn 381 = .ok (.aload_n 2, 1) := by decide +kernel
theorem dL_turn_382 : decode cL_turn 382 = .ok (.bipush 20, 2) := by decide +kernel
theorem dL_turn_384 : decode cL_turn 384 = .ok (.iload 8, 2) := by decide +kernel
theorem dL_turn_386 : decode cL_turn 386 = .ok (.iadd, 1) := by decide +kernel
theorem dL_turn_387 : decode cL_turn 387 = .ok (.iaload, 1) := by decide +kernel
theorem dL_turn_388 : decode cL_turn 388 = .ok (.istore 12, 2) := by decide +kernel
theorem dL_turn_390 : decode cL_turn 390 = .ok (.iload 5, 2) := by decide +kernel
theorem dL_turn_392 : decode cL_turn 392 = .ok (.aload_n 2, 1) := by decide +kernel
theorem dL_turn_393 : decode cL_turn 393 = .ok (.iload 8, 2) := by decide +kernel
theorem dL_turn_395 : decode cL_turn 395 = .ok (.iaload, 1) := by decide +kernel
theorem dL_turn_396 : decode cL_turn 396 = .ok (.iload 12, 2) := by decide +kernel
theorem dL_turn_398 : decode cL_turn 398 = .ok (.ifCond .ge 8, 3) := by decide +kernel
theorem dL_turn_401 : decode cL_turn 401 = .ok (.iload 11, 2) := by decide +kernel
theorem dL_turn_403 : decode cL_turn 403 = .ok (.goto 10, 3) := by decide +kernel
theorem dL_turn_406 : decode cL_turn 406 = .ok (.iload 11, 2) := by decide +kernel
theorem dL_turn_408 : decode cL_turn 408 = .ok (.iload 11, 2) := by decide +kernel
theorem dL_turn_410 : decode cL_turn 410 = .ok (.iconst 2, 1) := by decide +kernel
theorem dL_turn_411 : decode cL_turn 411 = .ok (.idiv, 1) := by decide +kernel
theorem dL_turn_412 : decode cL_turn 412 = .ok (.isub, 1) := by decide +kernel
theorem dL_turn_413 : decode cL_turn 413 = .ok (.aload_n 1, 1) := by decide +kernel
theorem dL_turn_414 : decode cL_turn 414 = .ok (.aload_n 3, 1) := by decide +kernel
theorem dL_turn_415 : decode cL_turn 415 = .ok (.aload 4, 2) := by decide +kernel
theorem dL_turn_417 : decode cL_turn 417 = .ok (.invokestatic 17, 3) := by decide +kernel
theorem dL_turn_420 : decode cL_turn 420 = .ok (.iload 12, 2) := by decide +kernel
theorem dL_turn_422 : decode cL_turn 422 = .ok (.ifCond .lt 18, 3) := by decide +kernel
theorem dL_turn_425 : decode cL_turn 425 = .ok (.iload 5, 2) := by decide +kernel
theorem dL_turn_427 : decode cL_turn 427 = .ok (.iload 12, 2) := by decide +kernel
theorem dL_turn_429 : decode cL_turn 429 = .ok (.iload 11, 2) := by decide +kernel
theorem dL_turn_431 : decode cL_turn 431 = .ok (.iconst 2, 1) := by decide +kernel
theorem dL_turn_432 : decode cL_turn 432 = .ok (.idiv, 1) := by decide +kernel
theorem dL_turn_433 : decode cL_turn 433 = .ok (.aload_n 1, 1) := by decide +kernel
theorem dL_turn_434 : decode cL_turn 434 = .ok (.aload_n 3, 1) := by decide +kernel
theorem dL_turn_435 : decode cL_turn 435 = .ok (.aload 4, 2) := by decide +kernel
theorem dL_turn_437 : decode cL_turn 437 = .ok (.invokestatic 17, 3) := by decide +kernel
theorem dL_turn_440 : decode cL_turn 440 = .ok (.iconst 0, 1) := by decide +kernel
theorem dL_turn_441 : decode cL_turn 441 = .ok (.istore 11, 2) := by decide +kernel
theorem dL_turn_443 : decode cL_turn 443 = .ok (.iload 11, 2) := by decide +kernel
theorem dL_turn_445 : decode cL_turn 445 = .ok (.iconst 4, 1) := by decide +kernel
theorem dL_turn_446 : decode cL_turn 446 = .ok (.if_icmp .ge 39, 3) := by decide +kernel
theorem dL_turn_449 : decode cL_turn 449 = .ok (.aload 4, 2) := by decide +kernel
theorem dL_turn_451 : decode cL_turn 451 = .ok (.iconst 4, 1) := by decide +kernel
theorem dL_turn_452 : decode cL_turn 452 = .ok (.iload 5, 2) := by decide +kernel
theorem dL_turn_454 : decode cL_turn 454 = .ok (.imul, 1) := by decide +kernel
theorem dL_turn_455 : decode cL_turn 455 = .ok (.iload 11, 2) := by decide +kernel
theorem dL_turn_457 : decode cL_turn 457 = .ok (.iadd, 1) := by decide +kernel
theorem dL_turn_458 : decode cL_turn 458 = .ok (.dup2, 1) := by decide +kernel
theorem dL_turn_459 : decode cL_turn 459 = .ok (.iaload, 1) := by decide +kernel
theorem dL_turn_460 : decode cL_turn 460 = .ok (.aload_n 3, 1) := by decide +kernel
theorem dL_turn_461 : decode cL_turn 461 = .ok (.iconst 4, 1) := by decide +kernel
theorem dL_turn_462 : decode cL_turn 462 = .ok (.iload 5, 2) := by decide +kernel
theorem dL_turn_464 : decode cL_turn 464 = .ok (.imul, 1) := by decide +kernel
theorem dL_turn_465 : decode cL_turn 465 = .ok (.iload 11, 2) := by decide +kernel
theorem dL_turn_467 : decode cL_turn 467 = .ok (.iadd, 1) := by decide +kernel
theorem dL_turn_468 : decode cL_turn 468 = .ok (.iaload, 1) := by decide +kernel
theorem dL_turn_469 : decode cL_turn 469 = .ok (.ifCond .le 7, 3) := by decide +kernel
theorem dL_turn_472 : decode cL_turn 472 = .ok (.iconst 1, 1) := by decide +kernel
theorem dL_turn_473 : decode cL_turn 473 = .ok (.goto 4, 3) := by decide +kernel
theorem dL_turn_476 : decode cL_turn 476 = .ok (.iconst 0, 1) := by decide +kernel
theorem dL_turn_477 : decode cL_turn 477 = .ok (.iadd, 1) := by decide +kernel
theorem dL_turn_478 : decode cL_turn 478 = .ok (.iastore, 1) := by decide +kernel
theorem dL_turn_479 : decode cL_turn 479 = .ok (.iinc 11 1, 3) := by decide +kernel
theorem dL_turn_482 : decode cL_turn 482 = .ok (.goto (-39), 3) := by decide +kernel
theorem dL_turn_485 : decode cL_turn 485 = .ok (.iload 5, 2) := by decide +kernel
theorem dL_turn_487 : decode cL_turn 487 = .ok (.aload_n 3, 1) := by decide +kernel
theorem dL_turn_488 : decode cL_turn 488 = .ok (.aload 4, 2) := by decide +kernel
theorem dL_turn_490 : decode cL_turn 490 = .ok (.invokestatic 11, 3) := by decide +kernel
theorem dL_turn_493 : decode cL_turn 493 = .ok (.istore 6, 2) := by decide +kernel
theorem dL_turn_495 : decode cL_turn 495 = .ok (.iconst 0, 1) := by decide +kernel
theorem dL_turn_496 : decode cL_turn 496 = .ok (.istore 11, 2) := by decide +kernel
theorem dL_turn_498 : decode cL_turn 498 = .ok (.iload 11, 2) := by decide +kernel
theorem dL_turn_500 : decode cL_turn 500 = .ok (.iload 6, 2) := by decide +kernel
theorem dL_turn_502 : decode cL_turn 502 = .ok (.bipush 8, 2) := by decide +kernel
theorem dL_turn_504 : decode cL_turn 504 = .ok (.ishr, 1) := by decide +kernel
theorem dL_turn_505 : decode cL_turn 505 = .ok (.if_icmp .ge 196, 3) := by decide +kernel
theorem dL_turn_508 : decode cL_turn 508 = .ok (.iload 6, 2) := by decide +kernel
theorem dL_turn_510 : decode cL_turn 510 = .ok (.iconst 2, 1) := by decide +kernel
theorem dL_turn_511 : decode cL_turn 511 = .ok (.iload 11, 2) := by decide +kernel
theorem dL_turn_513 : decode cL_turn 513 = .ok (.imul, 1) := by decide +kernel
theorem dL_turn_514 : decode cL_turn 514 = .ok (.ishr, 1) := by decide +kernel
theorem dL_turn_515 : decode cL_turn 515 = .ok (.iconst 3, 1) := by decide +kernel
theorem dL_turn_516 : decode cL_turn 516 = .ok (.iand, 1) := by decide +kernel
theorem dL_turn_517 : decode cL_turn 517 = .ok (.istore 12, 2) := by decide +kernel
theorem dL_turn_519 : decode cL_turn 519 = .ok (.aload 4, 2) := by decide +kernel
theorem dL_turn_521 : decode cL_turn 521 = .ok (.iconst 4, 1) := by decide +kernel
theorem dL_turn_522 : decode cL_turn 522 = .ok (.iload 5, 2) := by decide +kernel
theorem dL_turn_524 : decode cL_turn 524 = .ok (.imul, 1) := by decide +kernel
theorem dL_turn_525 : decode cL_turn 525 = .ok (.iload 12, 2) := by decide +kernel
theorem dL_turn_527 : decode cL_turn 527 = .ok (.iadd, 1) := by decide +kernel
theorem dL_turn_528 : decode cL_turn 528 = .ok (.iaload, 1) := by decide +kernel
theorem dL_turn_529 : decode cL_turn 529 = .ok (.aload_n 0, 1) := by decide +kernel
theorem dL_turn_530 : decode cL_turn 530 = .ok (.iconst 4, 1) := by decide +kernel
theorem dL_turn_531 : decode cL_turn 531 = .ok (.iaload, 1) := by decide +kernel
theorem dL_turn_532 : decode cL_turn 532 = .ok (.if_icmp .gt 6, 3) := by decide +kernel
theorem dL_turn_535 : decode cL_turn 535 = .ok (.goto 160, 3) := by decide +kernel
theorem dL_turn_538 : decode cL_turn 538 = .ok (.iconst 0, 1) := by decide +kernel
theorem dL_turn_539 : decode cL_turn 539 = .ok (.istore 13, 2) := by decide +kernel
theorem dL_turn_541 : decode cL_turn 541 = .ok (.iload 13, 2) := by decide +kernel
theorem dL_turn_543 : decode cL_turn 543 = .ok (.bipush 20, 2) := by decide +kernel
theorem dL_turn_545 : decode cL_turn 545 = .ok (.if_icmp .ge 150, 3) := by decide +kernel
theorem dL_turn_548 : decode cL_turn 548 = .ok (.aload_n 2, 1) := by decide +kernel
theorem dL_turn_549 : decode cL_turn 549 = .ok (.iload 13, 2) := by decide +kernel
theorem dL_turn_551 : decode cL_turn 551 = .ok (.iaload, 1) := by decide +kernel
theorem dL_turn_552 : decode cL_turn 552 = .ok (.iload 5, 2) := by decide +kernel
theorem dL_turn_554 : decode cL_turn 554 = .ok (.if_icmp .ne 7, 3) := by decide +kernel
theorem dL_turn_557 : decode cL_turn 557 = .ok (.iconst 1, 1) := by decide +kernel
theorem dL_turn_558 : decode cL_turn 558 = .ok (.goto 4, 3) := by decide +kernel
theorem dL_turn_561 : decode cL_turn 561 = .ok (.iconst 0, 1) := by decide +kernel
theorem dL_turn_562 : decode cL_turn 562 = .ok (.istore 14, 2) := by decide +kernel
theorem dL_turn_564 : decode cL_turn 564 = .ok (.iload 14, 2) := by decide +kernel
theorem dL_turn_566 : decode cL_turn 566 = .ok (.ifCond .ne 18, 3) := by decide +kernel
theorem dL_turn_569 : decode cL_turn 569 = .ok (.aload_n 2, 1) := by decide +kernel
theorem dL_turn_570 : decode cL_turn 570 = .ok (.bipush 20, 2) := by decide +kernel
theorem dL_turn_572 : decode cL_turn 572 = .ok (.iload 13, 2) := by decide +kernel
theorem dL_turn_574 : decode cL_turn 574 = .ok (.iadd, 1) := by decide +kernel
theorem dL_turn_575 : decode cL_turn 575 = .ok (.iaload, 1) := by decide +kernel
theorem dL_turn_576 : decode cL_turn 576 = .ok (.iload 5, 2) := by decide +kernel
theorem dL_turn_578 : decode cL_turn 578 = .ok (.if_icmp .eq 6, 3) := by decide +kernel
theorem dL_turn_581 : decode cL_turn 581 = .ok (.goto 108, 3) := by decide +kernel
theorem dL_turn_584 : decode cL_turn 584 = .ok (.iload 14, 2) := by decide +kernel
theorem dL_turn_586 : decode cL_turn 586 = .ok (.ifCond .eq 13, 3) := by decide +kernel
theorem dL_turn_589 : decode cL_turn 589 = .ok (.aload_n 2, 1) := by decide +kernel
theorem dL_turn_590 : decode cL_turn 590 = .ok (.bipush 20, 2) := by decide +kernel
theorem dL_turn_592 : decode cL_turn 592 = .ok (.iload 13, 2) := by decide +kernel
theorem dL_turn_594 : decode cL_turn 594 = .ok (.iadd, 1) := by decide +kernel
theorem dL_turn_595 : decode cL_turn 595 = .ok (.iaload, 1) := by decide +kernel
theorem dL_turn_596 : decode cL_turn 596 = .ok (.goto 7, 3) := by decide +kernel
theorem dL_turn_599 : decode cL_turn 599 = .ok (.aload_n 2, 1) := by decide +kernel
theorem dL_turn_600 : decode cL_turn 600 = .ok (.iload 13, 2) := by decide +kernel
theorem dL_turn_602 : decode cL_turn 602 = .ok (.iaload, 1) := by decide +kernel
theorem dL_turn_603 : decode cL_turn 603 = .ok (.istore 15, 2) := by decide +kernel
theorem dL_turn_605 : decode cL_turn 605 = .ok (.aload_n 2, 1) := by decide +kernel
theorem dL_turn_606 : decode cL_turn 606 = .ok (.iload 13, 2) := by decide +kernel
theorem dL_turn_608 : decode cL_turn 608 = .ok (.iload 14, 2) := by decide +kernel
theorem dL_turn_610 : decode cL_turn 610 = .ok (.ifCond .eq 8, 3) := by decide +kernel
theorem dL_turn_613 : decode cL_turn 613 = .ok (.iload 12, 2) := by decide +kernel
theorem dL_turn_615 : decode cL_turn 615 = .ok (.goto 5, 3) := by decide +kernel
theorem dL_turn_618 : decode cL_turn 618 = .ok (.iload 15, 2) := by decide +kernel
theorem dL_turn_620 : decode cL_turn 620 = .ok (.iastore, 1) := by decide +kernel
theorem dL_turn_621 : decode cL_turn 621 = .ok (.aload_n 2, 1) := by decide +kernel
theorem dL_turn_622 : decode cL_turn 622 = .ok (.bipush 20, 2) := by decide +kernel
theorem dL_turn_624 : decode cL_turn 624 = .ok (.iload 13, 2) := by decide +kernel
theorem dL_turn_626 : decode cL_turn 626 = .ok (.iadd, 1) := by decide +kernel
theorem dL_turn_627 : decode cL_turn 627 = .ok (.iload 15, 2) := by decide +kernel
theorem dL_turn_629 : decode cL_turn 629 = .ok (.iload 12, 2) := by decide +kernel
theorem dL_turn_631 : decode cL_turn 631 = .ok (.if_icmp .ne 8, 3) := by decide +kernel
theorem dL_turn_634 : decode cL_turn 634 = .ok (.bipush (-6), 2) := by decide +kernel
theorem dL_turn_636 : decode cL_turn 636 = .ok (.goto 15, 3) := by decide +kernel
theorem dL_turn_639 : decode cL_turn 639 = .ok (.iload 14, 2) := by decide +kernel
theorem dL_turn_641 : decode cL_turn 641 = .ok (.ifCond .eq 8, 3) := by decide +kernel
theorem dL_turn_644 : decode cL_turn 644 = .ok (.iload 15, 2) := by decide +kernel
theorem dL_turn_646 : decode cL_turn 646 = .ok (.goto 5, 3) := by decide +kernel
theorem dL_turn_649 : decode cL_turn 649 = .ok (.iload 12, 2) := by decide +kernel
theorem dL_turn_651 : decode cL_turn 651 = .ok (.iastore, 1) := by decide +kernel
theorem dL_turn_652 : decode cL_turn 652 = .ok (.aload_n 3, 1) := by decide +kernel
theorem dL_turn_653 : decode cL_turn 653 = .ok (.iconst 4, 1) := by decide +kernel
theorem dL_turn_654 : decode cL_turn 654 = .ok (.iload 5, 2) := by decide +kernel
theorem dL_turn_656 : decode cL_turn 656 = .ok (.imul, 1) := by decide +kernel
theorem dL_turn_657 : decode cL_turn 657 = .ok (.iload 12, 2) := by decide +kernel
theorem dL_turn_659 : decode cL_turn 659 = .ok (.iadd, 1) := by decide +kernel
theorem dL_turn_660 : decode cL_turn 660 = .ok (.iconst 0, 1) := by decide +kernel
theorem dL_turn_661 : decode cL_turn 661 = .ok (.iastore, 1) := by decide +kernel
theorem dL_turn_662 : decode cL_turn 662 = .ok (.aload 4, 2) := by decide +kernel
theorem dL_turn_664 : decode cL_turn 664 = .ok (.iconst 4, 1) := by decide +kernel
theorem dL_turn_665 : decode cL_turn 665 = .ok (.iload 5, 2) := by decide +kernel
theorem dL_turn_667 : decode cL_turn 667 = .ok (.imul, 1) := by decide +kernel
theorem dL_turn_668 : decode cL_turn 668 = .ok (.iload 12, 2) := by decide +kernel
theorem dL_turn_670 : decode cL_turn 670 = .ok (.iadd, 1) := by decide +kernel
theorem dL_turn_671 : decode cL_turn 671 = .ok (.iconst 0, 1) := by decide +kernel
theorem dL_turn_672 : decode cL_turn 672 = .ok (.iastore, 1) := by decide +kernel
theorem dL_turn_673 : decode cL_turn 673 = .ok (.aload_n 1, 1) := by decide +kernel
theorem dL_turn_674 : decode cL_turn 674 = .ok (.bipush 6, 2) := by decide +kernel
theorem dL_turn_676 : decode cL_turn 676 = .ok (.iload 5, 2) := by decide +kernel
theorem dL_turn_678 : decode cL_turn 678 = .ok (.imul, 1) := by decide +kernel
theorem dL_turn_679 : decode cL_turn 679 = .ok (.iconst 5, 1) := by decide +kernel
theorem dL_turn_680 : decode cL_turn 680 = .ok (.iadd, 1) := by decide +kernel
theorem dL_turn_681 : decode cL_turn 681 = .ok (.dup2, 1) := by decide +kernel
theorem dL_turn_682 : decode cL_turn 682 = .ok (.iaload, 1) := by decide +kernel
theorem dL_turn_683 : decode cL_turn 683 = .ok (.iconst 1, 1) := by decide +kernel
theorem dL_turn_684 : decode cL_turn 684 = .ok (.iadd, 1) := by decide +kernel
theorem dL_turn_685 : decode cL_turn 685 = .ok (.iastore, 1) := by decide +kernel
theorem dL_turn_686 : decode cL_turn 686 = .ok (.goto 9, 3) := by decide +kernel
theorem dL_turn_689 : decode cL_turn 689 = .ok (.iinc 13 1, 3) := by decide +kernel
theorem dL_turn_692 : decode cL_turn 692 = .ok (.goto (-151), 3) := by decide +kernel
theorem dL_turn_695 : decode cL_turn 695 = .ok (.iinc 11 1, 3) := by decide +kernel
theorem dL_turn_698 : decode cL_turn 698 = .ok (.goto (-200), 3) := by decide +kernel
theorem dL_turn_701 : decode cL_turn 701 = .ok (.aload_n 1, 1) := by decide +kernel
theorem dL_turn_702 : decode cL_turn 702 = .ok (.bipush 6, 2) := by decide +kernel
theorem dL_turn_704 : decode cL_turn 704 = .ok (.iload 5, 2) := by decide +kernel
theorem dL_turn_706 : decode cL_turn 706 = .ok (.imul, 1) := by decide +kernel
theorem dL_turn_707 : decode cL_turn 707 = .ok (.iconst 4, 1) := by decide +kernel
theorem dL_turn_708 : decode cL_turn 708 = .ok (.iadd, 1) := by decide +kernel
theorem dL_turn_709 : decode cL_turn 709 = .ok (.dup2, 1) := by decide +kernel
theorem dL_turn_710 : decode cL_turn 710 = .ok (.iaload, 1) := by decide +kernel
theorem dL_turn_711 : decode cL_turn 711 = .ok (.iconst 1, 1) := by decide +kernel
theorem dL_turn_712 : decode cL_turn 712 = .ok (.iadd, 1) := by decide +kernel
theorem dL_turn_713 : decode cL_turn 713 = .ok (.iastore, 1) := by decide +kernel
theorem dL_turn_714 : decode cL_turn 714 = .ok (.aload_n 0, 1) := by decide +kernel
theorem dL_turn_715 : decode cL_turn 715 = .ok (.bipush 7, 2) := by decide +kernel
theorem dL_turn_717 : decode cL_turn 717 = .ok (.iload 5, 2) := by decide +kernel
theorem dL_turn_719 : decode cL_turn 719 = .ok (.iconst 1, 1) := by decide +kernel
theorem dL_turn_720 : decode cL_turn 720 = .ok (.iadd, 1) := by decide +kernel
