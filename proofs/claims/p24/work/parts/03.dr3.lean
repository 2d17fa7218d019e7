theorem dX7_owes_35 : decode cX7_owes 35 = .ok (.if_icmp .ne 6, 3) := by decide +kernel
theorem dX7_owes_38 : decode cX7_owes 38 = .ok (.bipush (-2), 2) := by decide +kernel
theorem dX7_owes_40 : decode cX7_owes 40 = .ok (.ireturn, 1) := by decide +kernel
theorem dX7_owes_41 : decode cX7_owes 41 = .ok (.iload_n 3, 1) := by decide +kernel
theorem dX7_owes_42 : decode cX7_owes 42 = .ok (.ifCond .ne 18, 3) := by decide +kernel
theorem dX7_owes_45 : decode cX7_owes 45 = .ok (.aload_n 0, 1) := by decide +kernel
theorem dX7_owes_46 : decode cX7_owes 46 = .ok (.getfield 12, 3) := by decide +kernel
theorem dX7_owes_49 : decode cX7_owes 49 = .ok (.getfield 79, 3) := by decide +kernel
theorem dX7_owes_52 : decode cX7_owes 52 = .ok (.iload_n 1, 1) := by decide +kernel
theorem dX7_owes_53 : decode cX7_owes 53 = .ok (.iload_n 2, 1) := by decide +kernel
theorem dX7_owes_54 : decode cX7_owes 54 = .ok (.invokevirtual 83, 3) := by decide +kernel
theorem dX7_owes_57 : decode cX7_owes 57 = .ok (.goto 15, 3) := by decide +kernel
theorem dX7_owes_60 : decode cX7_owes 60 = .ok (.aload_n 0, 1) := by decide +kernel
theorem dX7_owes_61 : decode cX7_owes 61 = .ok (.getfield 12, 3) := by decide +kernel
theorem dX7_owes_64 : decode cX7_owes 64 = .ok (.getfield 79, 3) := by decide +kernel
theorem dX7_owes_67 : decode cX7_owes 67 = .ok (.iload_n 1, 1) := by decide +kernel
theorem dX7_owes_68 : decode cX7_owes 68 = .ok (.iload_n 2, 1) := by decide +kernel
theorem dX7_owes_69 : decode cX7_owes 69 = .ok (.invokevirtual 88, 3) := by decide +kernel
theorem dX7_owes_72 : decode cX7_owes 72 = .ok (.ireturn, 1) := by decide +kernel
theorem dX7_count_0 : decode cX7_count 0 = .ok (.iload_n 1, 1) := by decide +kernel
theorem dX7_count_1 : decode cX7_count 1 = .ok (.tableswitch 62 14 16 #[27, 46, 54], 27) := by decide +kernel
theorem dX7_count_28 : decode cX7_count 28 = .ok (.aload_n 0, 1) := by decide +kernel
theorem dX7_count_29 : decode cX7_count 29 = .ok (.getfield 12, 3) := by decide +kernel
theorem dX7_count_32 : decode cX7_count 32 = .ok (.aload_n 0, 1) := by decide +kernel
theorem dX7_count_33 : decode cX7_count 33 = .ok (.getfield 39, 3) := by decide +kernel
theorem dX7_count_36 : decode cX7_count 36 = .ok (.invokevirtual 91, 3) := by decide +kernel
theorem dX7_count_39 : decode cX7_count 39 = .ok (.aload_n 0, 1) := by decide +kernel
theorem dX7_count_40 : decode cX7_count 40 = .ok (.getfield 39, 3) := by decide +kernel
theorem dX7_count_43 : decode cX7_count 43 = .ok (.invokevirtual 95, 3) := by decide +kernel
theorem dX7_count_46 : decode cX7_count 46 = .ok (.ireturn, 1) := by decide +kernel
theorem dX7_count_47 : decode cX7_count 47 = .ok (.aload_n 0, 1) := by decide +kernel
theorem dX7_count_48 : decode cX7_count 48 = .ok (.getfield 35, 3) := by decide +kernel
theorem dX7_count_51 : decode cX7_count 51 = .ok (.invokevirtual 95, 3) := by decide +kernel
theorem dX7_count_54 : decode cX7_count 54 = .ok (.ireturn, 1) := by decide +kernel
theorem dX7_count_55 : decode cX7_count 55 = .ok (.aload_n 0, 1) := by decide +kernel
theorem dX7_count_56 : decode cX7_count 56 = .ok (.getfield 22, 3) := by decide +kernel
theorem dX7_count_59 : decode cX7_count 59 = .ok (.invokevirtual 99, 3) := by decide +kernel
theorem dX7_count_62 : decode cX7_count 62 = .ok (.ireturn, 1) := by decide +kernel
theorem dX7_count_63 : decode cX7_count 63 = .ok (.aload_n 0, 1) := by decide +kernel
theorem dX7_count_64 : decode cX7_count 64 = .ok (.getfield 12, 3) := by decide +kernel
theorem dX7_count_67 : decode cX7_count 67 = .ok (.iload_n 1, 1) := by decide +kernel
theorem dX7_count_68 : decode cX7_count 68 = .ok (.invokevirtual 102, 3) := by decide +kernel
theorem dX7_count_71 : decode cX7_count 71 = .ok (.ireturn, 1) := by decide +kernel
theorem dX7_sign_0 : decode cX7_sign 0 = .ok (.aload_n 0, 1) := by decide +kernel
theorem dX7_sign_1 : decode cX7_sign 1 = .ok (.getfield 12, 3) := by decide +kernel
theorem dX7_sign_4 : decode cX7_sign 4 = .ok (.aload_n 0, 1) := by decide +kernel
theorem dX7_sign_5 : decode cX7_sign 5 = .ok (.getfield 39, 3) := by decide +kernel
theorem dX7_sign_8 : decode cX7_sign 8 = .ok (.invokevirtual 91, 3) := by decide +kernel
theorem dX7_sign_11 : decode cX7_sign 11 = .ok (.aload_n 0, 1) := by decide +kernel
theorem dX7_sign_12 : decode cX7_sign 12 = .ok (.getfield 39, 3) := by decide +kernel
theorem dX7_sign_15 : decode cX7_sign 15 = .ok (.iload_n 1, 1) := by decide +kernel
theorem dX7_sign_16 : decode cX7_sign 16 = .ok (.invokevirtual 105, 3) := by decide +kernel
theorem dX7_sign_19 : decode cX7_sign 19 = .ok (.ireturn, 1) := by decide +kernel
theorem dX7_chain_0 : decode cX7_chain 0 = .ok (.aload_n 0, 1) := by decide +kernel
theorem dX7_chain_1 : decode cX7_chain 1 = .ok (.getfield 12, 3) := by decide +kernel
theorem dX7_chain_4 : decode cX7_chain 4 = .ok (.iload_n 1, 1) := by decide +kernel
theorem dX7_chain_5 : decode cX7_chain 5 = .ok (.invokevirtual 69, 3) := by decide +kernel
theorem dX7_chain_8 : decode cX7_chain 8 = .ok (.ifCond .eq 14, 3) := by decide +kernel
theorem dX7_chain_11 : decode cX7_chain 11 = .ok (.aload_n 0, 1) := by decide +kernel
theorem dX7_chain_12 : decode cX7_chain 12 = .ok (.getfield 12, 3) := by decide +kernel
theorem dX7_chain_15 : decode cX7_chain 15 = .ok (.iload_n 2, 1) := by decide +kernel
theorem dX7_chain_16 : decode cX7_chain 16 = .ok (.invokevirtual 69, 3) := by decide +kernel
theorem dX7_chain_19 : decode cX7_chain 19 = .ok (.ifCond .ne 5, 3) := by decide +kernel
theorem dX7_chain_22 : decode cX7_chain 22 = .ok (.iconst (-1), 1) := by decide +kernel
theorem dX7_chain_23 : decode cX7_chain 23 = .ok (.ireturn, 1) := by decide +kernel
theorem dX7_chain_24 : decode cX7_chain 24 = .ok (.aload_n 0, 1) := by decide +kernel
theorem dX7_chain_25 : decode cX7_chain 25 = .ok (.getfield 12, 3) := by decide +kernel
theorem dX7_chain_28 : decode cX7_chain 28 = .ok (.getfield 79, 3) := by decide +kernel
theorem dX7_chain_31 : decode cX7_chain 31 = .ok (.iload_n 1, 1) := by decide +kernel
theorem dX7_chain_32 : decode cX7_chain 32 = .ok (.iload_n 2, 1) := by decide +kernel
theorem dX7_chain_33 : decode cX7_chain 33 = .ok (.invokevirtual 108, 3) := by decide +kernel
theorem dX7_chain_36 : decode cX7_chain 36 = .ok (.ireturn, 1) := by decide +kernel
theorem dX7_emptyIn_0 : decode cX7_emptyIn 0 = .ok (.aload_n 0, 1) := by decide +kernel
theorem dX7_emptyIn_1 : decode cX7_emptyIn 1 = .ok (.getfield 12, 3) := by decide +kernel
theorem dX7_emptyIn_4 : decode cX7_emptyIn 4 = .ok (.iload_n 1, 1) := by decide +kernel
theorem dX7_emptyIn_5 : decode cX7_emptyIn 5 = .ok (.invokevirtual 69, 3) := by decide +kernel
theorem dX7_emptyIn_8 : decode cX7_emptyIn 8 = .ok (.ifCond .ne 5, 3) := by decide +kernel
theorem dX7_emptyIn_11 : decode cX7_emptyIn 11 = .ok (.iconst (-1), 1) := by decide +kernel
theorem dX7_emptyIn_12 : decode cX7_emptyIn 12 = .ok (.ireturn, 1) := by decide +kernel
theorem dX7_emptyIn_13 : decode cX7_emptyIn 13 = .ok (.aload_n 0, 1) := by decide +kernel
theorem dX7_emptyIn_14 : decode cX7_emptyIn 14 = .ok (.getfield 16, 3) := by decide +kernel
theorem dX7_emptyIn_17 : decode cX7_emptyIn 17 = .ok (.aload_n 0, 1) := by decide +kernel
theorem dX7_emptyIn_18 : decode cX7_emptyIn 18 = .ok (.getfield 12, 3) := by decide +kernel
theorem dX7_emptyIn_21 : decode cX7_emptyIn 21 = .ok (.invokevirtual 111, 3) := by decide +kernel
theorem dX7_emptyIn_24 : decode cX7_emptyIn 24 = .ok (.iconst 0, 1) := by decide +kernel
theorem dX7_emptyIn_25 : decode cX7_emptyIn 25 = .ok (.istore_n 2, 1) := by decide +kernel
theorem dX7_emptyIn_26 : decode cX7_emptyIn 26 = .ok (.iload_n 2, 1) := by decide +kernel
theorem dX7_emptyIn_27 : decode cX7_emptyIn 27 = .ok (.sipush 400, 3) := by decide +kernel
theorem dX7_emptyIn_30 : decode cX7_emptyIn 30 = .ok (.if_icmp .gt 29, 3) := by decide +kernel
theorem dX7_emptyIn_33 : decode cX7_emptyIn 33 = .ok (.aload_n 0, 1) := by decide +kernel
theorem dX7_emptyIn_34 : decode cX7_emptyIn 34 = .ok (.getfield 16, 3) := by decide +kernel
theorem dX7_emptyIn_37 : decode cX7_emptyIn 37 = .ok (.iload_n 1, 1) := by decide +kernel
theorem dX7_emptyIn_38 : decode cX7_emptyIn 38 = .ok (.invokevirtual 114, 3) := by decide +kernel
theorem dX7_emptyIn_41 : decode cX7_emptyIn 41 = .ok (.ifCond .ne 5, 3) := by decide +kernel
theorem dX7_emptyIn_44 : decode cX7_emptyIn 44 = .ok (.iload_n 2, 1) := by decide +kernel
theorem dX7_emptyIn_45 : decode cX7_emptyIn 45 = .ok (.ireturn, 1) := by decide +kernel
theorem dX7_emptyIn_46 : decode cX7_emptyIn 46 = .ok (.aload_n 0, 1) := by decide +kernel
theorem dX7_emptyIn_47 : decode cX7_emptyIn 47 = .ok (.getfield 16, 3) := by decide +kernel
theorem dX7_emptyIn_50 : decode cX7_emptyIn 50 = .ok (.invokevirtual 117, 3) := by decide +kernel
theorem dX7_emptyIn_53 : decode cX7_emptyIn 53 = .ok (.iinc 2 1, 3) := by decide +kernel
theorem dX7_emptyIn_56 : decode cX7_emptyIn 56 = .ok (.goto (-30), 3) := by decide +kernel
theorem dX7_emptyIn_59 : decode cX7_emptyIn 59 = .ok (.bipush (-6), 2) := by decide +kernel
theorem dX7_emptyIn_61 : decode cX7_emptyIn 61 = .ok (.ireturn, 1) := by decide +kernel
theorem dX7_purseIn_0 : decode cX7_purseIn 0 = .ok (.aload_n 0, 1) := by decide +kernel
theorem dX7_purseIn_1 : decode cX7_purseIn 1 = .ok (.getfield 12, 3) := by decide +kernel
theorem dX7_purseIn_4 : decode cX7_purseIn 4 = .ok (.iload_n 1, 1) := by decide +kernel
theorem dX7_purseIn_5 : decode cX7_purseIn 5 = .ok (.invokevirtual 69, 3) := by decide +kernel
theorem dX7_purseIn_8 : decode cX7_purseIn 8 = .ok (.ifCond .ne 5, 3) := by decide +kernel
theorem dX7_purseIn_11 : decode cX7_purseIn 11 = .ok (.iconst (-1), 1) := by decide +kernel
theorem dX7_purseIn_12 : decode cX7_purseIn 12 = .ok (.ireturn, 1) := by decide +kernel
theorem dX7_purseIn_13 : decode cX7_purseIn 13 = .ok (.iload_n 2, 1) := by decide +kernel
theorem dX7_purseIn_14 : decode cX7_purseIn 14 = .ok (.iconst 1, 1) := by decide +kernel
theorem dX7_purseIn_15 : decode cX7_purseIn 15 = .ok (.if_icmp .lt 9, 3) := by decide +kernel
theorem dX7_purseIn_18 : decode cX7_purseIn 18 = .ok (.iload_n 2, 1) := by decide +kernel
theorem dX7_purseIn_19 : decode cX7_purseIn 19 = .ok (.bipush 99, 2) := by decide +kernel
theorem dX7_purseIn_21 : decode cX7_purseIn 21 = .ok (.if_icmp .le 6, 3) := by decide +kernel
theorem dX7_purseIn_24 : decode cX7_purseIn 24 = .ok (.bipush (-2), 2) := by decide +kernel
theorem dX7_purseIn_26 : decode cX7_purseIn 26 = .ok (.ireturn, 1) := by decide +kernel
theorem dX7_purseIn_27 : decode cX7_purseIn 27 = .ok (.aload_n 0, 1) := by decide +kernel
theorem dX7_purseIn_28 : decode cX7_purseIn 28 = .ok (.getfield 16, 3) := by decide +kernel
theorem dX7_purseIn_31 : decode cX7_purseIn 31 = .ok (.aload_n 0, 1) := by decide +kernel
theorem dX7_purseIn_32 : decode cX7_purseIn 32 = .ok (.getfield 12, 3) := by decide +kernel
theorem dX7_purseIn_35 : decode cX7_purseIn 35 = .ok (.invokevirtual 111, 3) := by decide +kernel
theorem dX7_purseIn_38 : decode cX7_purseIn 38 = .ok (.aload_n 0, 1) := by decide +kernel
theorem dX7_purseIn_39 : decode cX7_purseIn 39 = .ok (.getfield 16, 3) := by decide +kernel
theorem dX7_purseIn_42 : decode cX7_purseIn 42 = .ok (.iload_n 2, 1) := by decide +kernel
theorem dX7_purseIn_43 : decode cX7_purseIn 43 = .ok (.invokevirtual 120, 3) := by decide +kernel
theorem dX7_purseIn_46 : decode cX7_purseIn 46 = .ok (.aload_n 0, 1) := by decide +kernel
theorem dX7_purseIn_47 : decode cX7_purseIn 47 = .ok (.getfield 16, 3) := by decide +kernel
theorem dX7_purseIn_50 : decode cX7_purseIn 50 = .ok (.iload_n 1, 1) := by decide +kernel
theorem dX7_purseIn_51 : decode cX7_purseIn 51 = .ok (.invokevirtual 114, 3) := by decide +kernel
theorem dX7_purseIn_54 : decode cX7_purseIn 54 = .ok (.ireturn, 1) := by decide +kernel
theorem dX7_bestSeed_0 : decode cX7_bestSeed 0 = .ok (.aload_n 0, 1) := by decide +kernel
theorem dX7_bestSeed_1 : decode cX7_bestSeed 1 = .ok (.getfield 12, 3) := by decide +kernel
theorem dX7_bestSeed_4 : decode cX7_bestSeed 4 = .ok (.iload_n 1, 1) := by decide +kernel
theorem dX7_bestSeed_5 : decode cX7_bestSeed 5 = .ok (.invokevirtual 69, 3) := by decide +kernel
theorem dX7_bestSeed_8 : decode cX7_bestSeed 8 = .ok (.ifCond .ne 5, 3) := by decide +kernel
theorem dX7_bestSeed_11 : decode cX7_bestSeed 11 = .ok (.iconst (-1), 1) := by decide +kernel
theorem dX7_bestSeed_12 : decode cX7_bestSeed 12 = .ok (.ireturn, 1) := by decide +kernel
theorem dX7_bestSeed_13 : decode cX7_bestSeed 13 = .ok (.iload_n 2, 1) := by decide +kernel
theorem dX7_bestSeed_14 : decode cX7_bestSeed 14 = .ok (.iconst 1, 1) := by decide +kernel
theorem dX7_bestSeed_15 : decode cX7_bestSeed 15 = .ok (.if_icmp .lt 9, 3) := by decide +kernel
theorem dX7_bestSeed_18 : decode cX7_bestSeed 18 = .ok (.iload_n 2, 1) := by decide +kernel
theorem dX7_bestSeed_19 : decode cX7_bestSeed 19 = .ok (.bipush 60, 2) := by decide +kernel
theorem dX7_bestSeed_21 : decode cX7_bestSeed 21 = .ok (.if_icmp .le 6, 3) := by decide +kernel
theorem dX7_bestSeed_24 : decode cX7_bestSeed 24 = .ok (.bipush (-2), 2) := by decide +kernel
theorem dX7_bestSeed_26 : decode cX7_bestSeed 26 = .ok (.ireturn, 1) := by decide +kernel
theorem dX7_bestSeed_27 : decode cX7_bestSeed 27 = .ok (.iconst 0, 1) := by decide +kernel
theorem dX7_bestSeed_28 : decode cX7_bestSeed 28 = .ok (.istore_n 3, 1) := by decide +kernel
theorem dX7_bestSeed_29 : decode cX7_bestSeed 29 = .ok (.iconst 0, 1) := by decide +kernel
theorem dX7_bestSeed_30 : decode cX7_bestSeed 30 = .ok (.istore 4, 2) := by decide +kernel
theorem dX7_bestSeed_32 : decode cX7_bestSeed 32 = .ok (.iconst 0, 1) := by decide +kernel
theorem dX7_bestSeed_33 : decode cX7_bestSeed 33 = .ok (.istore 5, 2) := by decide +kernel
theorem dX7_bestSeed_35 : decode cX7_bestSeed 35 = .ok (.iload 5, 2) := by decide +kernel
theorem dX7_bestSeed_37 : decode cX7_bestSeed 37 = .ok (.bipush 50, 2) := by decide +kernel
theorem dX7_bestSeed_39 : decode cX7_bestSeed 39 = .ok (.if_icmp .ge 67, 3) := by decide +kernel
theorem dX7_bestSeed_42 : decode cX7_bestSeed 42 = .ok (.aload_n 0, 1) := by decide +kernel
theorem dX7_bestSeed_43 : decode cX7_bestSeed 43 = .ok (.getfield 16, 3) := by decide +kernel
theorem dX7_bestSeed_46 : decode cX7_bestSeed 46 = .ok (.aload_n 0, 1) := by decide +kernel
theorem dX7_bestSeed_47 : decode cX7_bestSeed 47 = .ok (.getfield 12, 3) := by decide +kernel
theorem dX7_bestSeed_50 : decode cX7_bestSeed 50 = .ok (.invokevirtual 111, 3) := by decide +kernel
theorem dX7_bestSeed_53 : decode cX7_bestSeed 53 = .ok (.aload_n 0, 1) := by decide +kernel
theorem dX7_bestSeed_54 : decode cX7_bestSeed 54 = .ok (.getfield 16, 3) := by decide +kernel
theorem dX7_bestSeed_57 : decode cX7_bestSeed 57 = .ok (.iload 5, 2) := by decide +kernel
theorem dX7_bestSeed_59 : decode cX7_bestSeed 59 = .ok (.invokevirtual 57, 3) := by decide +kernel
theorem dX7_bestSeed_62 : decode cX7_bestSeed 62 = .ok (.pop, 1) := by decide +kernel
theorem dX7_bestSeed_63 : decode cX7_bestSeed 63 = .ok (.aload_n 0, 1) := by decide +kernel
theorem dX7_bestSeed_64 : decode cX7_bestSeed 64 = .ok (.getfield 16, 3) := by decide +kernel
theorem dX7_bestSeed_67 : decode cX7_bestSeed 67 = .ok (.iload_n 2, 1) := by decide +kernel
theorem dX7_bestSeed_68 : decode cX7_bestSeed 68 = .ok (.invokevirtual 120, 3) := by decide +kernel
theorem dX7_bestSeed_71 : decode cX7_bestSeed 71 = .ok (.aload_n 0, 1) := by decide +kernel
theorem dX7_bestSeed_72 : decode cX7_bestSeed 72 = .ok (.getfield 16, 3) := by decide +kernel
theorem dX7_bestSeed_75 : decode cX7_bestSeed 75 = .ok (.iload_n 1, 1) := by decide +kernel
theorem dX7_bestSeed_76 : decode cX7_bestSeed 76 = .ok (.invokevirtual 123, 3) := by decide +kernel
theorem dX7_bestSeed_79 : decode cX7_bestSeed 79 = .ok (.istore 6, 2) := by decide +kernel
theorem dX7_bestSeed_81 : decode cX7_bestSeed 81 = .ok (.iload 5, 2) := by decide +kernel
theorem dX7_bestSeed_83 : decode cX7_bestSeed 83 = .ok (.ifCond .eq 10, 3) := by decide +kernel
theorem dX7_bestSeed_86 : decode cX7_bestSeed 86 = .ok (.iload 6, 2) := by decide +kernel
theorem dX7_bestSeed_88 : decode cX7_bestSeed 88 = .ok (.iload 4, 2) := by decide +kernel
theorem dX7_bestSeed_90 : decode cX7_bestSeed 90 = .ok (.if_icmp .le 10, 3) := by decide +kernel
theorem dX7_bestSeed_93 : decode cX7_bestSeed 93 = .ok (.iload 5, 2) := by decide +kernel
theorem dX7_bestSeed_95 : decode cX7_bestSeed 95 = .ok (.istore_n 3, 1) := by decide +kernel
theorem dX7_bestSeed_96 : decode cX7_bestSeed 96 = .ok (.iload 6, 2) := by decide +kernel
theorem dX7_bestSeed_98 : decode cX7_bestSeed 98 = .ok (.istore 4, 2) := by decide +kernel
theorem dX7_bestSeed_100 : decode cX7_bestSeed 100 = .ok (.iinc 5 1, 3) := by decide +kernel
theorem dX7_bestSeed_103 : decode cX7_bestSeed 103 = .ok (.goto (-68), 3) := by decide +kernel
theorem dX7_bestSeed_106 : decode cX7_bestSeed 106 = .ok (.iload_n 3, 1) := by decide +kernel
theorem dX7_bestSeed_107 : decode cX7_bestSeed 107 = .ok (.ireturn, 1) := by decide +kernel
