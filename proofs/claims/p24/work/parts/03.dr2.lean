theorem dX1_coinsOf_6 : decode cX1_coinsOf 6 = .ok (.imul, 1) := by decide +kernel
theorem dX1_coinsOf_7 : decode cX1_coinsOf 7 = .ok (.iload_n 2, 1) := by decide +kernel
theorem dX1_coinsOf_8 : decode cX1_coinsOf 8 = .ok (.iadd, 1) := by decide +kernel
theorem dX1_coinsOf_9 : decode cX1_coinsOf 9 = .ok (.invokevirtual 30, 3) := by decide +kernel
theorem dX1_coinsOf_12 : decode cX1_coinsOf 12 = .ok (.ireturn, 1) := by decide +kernel
theorem dX1_ageOf_0 : decode cX1_ageOf 0 = .ok (.aload_n 0, 1) := by decide +kernel
theorem dX1_ageOf_1 : decode cX1_ageOf 1 = .ok (.getfield 20, 3) := by decide +kernel
theorem dX1_ageOf_4 : decode cX1_ageOf 4 = .ok (.iload_n 1, 1) := by decide +kernel
theorem dX1_ageOf_5 : decode cX1_ageOf 5 = .ok (.iconst 4, 1) := by decide +kernel
theorem dX1_ageOf_6 : decode cX1_ageOf 6 = .ok (.imul, 1) := by decide +kernel
theorem dX1_ageOf_7 : decode cX1_ageOf 7 = .ok (.iload_n 2, 1) := by decide +kernel
theorem dX1_ageOf_8 : decode cX1_ageOf 8 = .ok (.iadd, 1) := by decide +kernel
theorem dX1_ageOf_9 : decode cX1_ageOf 9 = .ok (.invokevirtual 30, 3) := by decide +kernel
theorem dX1_ageOf_12 : decode cX1_ageOf 12 = .ok (.ireturn, 1) := by decide +kernel
theorem dX1_grow_0 : decode cX1_grow 0 = .ok (.iload_n 1, 1) := by decide +kernel
theorem dX1_grow_1 : decode cX1_grow 1 = .ok (.iconst 4, 1) := by decide +kernel
theorem dX1_grow_2 : decode cX1_grow 2 = .ok (.imul, 1) := by decide +kernel
theorem dX1_grow_3 : decode cX1_grow 3 = .ok (.iload_n 2, 1) := by decide +kernel
theorem dX1_grow_4 : decode cX1_grow 4 = .ok (.iadd, 1) := by decide +kernel
theorem dX1_grow_5 : decode cX1_grow 5 = .ok (.istore 4, 2) := by decide +kernel
theorem dX1_grow_7 : decode cX1_grow 7 = .ok (.iload_n 3, 1) := by decide +kernel
theorem dX1_grow_8 : decode cX1_grow 8 = .ok (.ifCond .le 25, 3) := by decide +kernel
theorem dX1_grow_11 : decode cX1_grow 11 = .ok (.aload_n 0, 1) := by decide +kernel
theorem dX1_grow_12 : decode cX1_grow 12 = .ok (.getfield 14, 3) := by decide +kernel
theorem dX1_grow_15 : decode cX1_grow 15 = .ok (.iload 4, 2) := by decide +kernel
theorem dX1_grow_17 : decode cX1_grow 17 = .ok (.invokevirtual 30, 3) := by decide +kernel
theorem dX1_grow_20 : decode cX1_grow 20 = .ok (.ifCond .ne 13, 3) := by decide +kernel
theorem dX1_grow_23 : decode cX1_grow 23 = .ok (.aload_n 0, 1) := by decide +kernel
theorem dX1_grow_24 : decode cX1_grow 24 = .ok (.getfield 20, 3) := by decide +kernel
theorem dX1_grow_27 : decode cX1_grow 27 = .ok (.iload 4, 2) := by decide +kernel
theorem dX1_grow_29 : decode cX1_grow 29 = .ok (.iconst 0, 1) := by decide +kernel
theorem dX1_grow_30 : decode cX1_grow 30 = .ok (.invokevirtual 34, 3) := by decide +kernel
theorem dX1_grow_33 : decode cX1_grow 33 = .ok (.aload_n 0, 1) := by decide +kernel
theorem dX1_grow_34 : decode cX1_grow 34 = .ok (.getfield 14, 3) := by decide +kernel
theorem dX1_grow_37 : decode cX1_grow 37 = .ok (.iload 4, 2) := by decide +kernel
theorem dX1_grow_39 : decode cX1_grow 39 = .ok (.iload_n 3, 1) := by decide +kernel
theorem dX1_grow_40 : decode cX1_grow 40 = .ok (.invokevirtual 37, 3) := by decide +kernel
theorem dX1_grow_43 : decode cX1_grow 43 = .ok (.return_, 1) := by decide +kernel
theorem dX1_shrink_0 : decode cX1_shrink 0 = .ok (.iload_n 1, 1) := by decide +kernel
theorem dX1_shrink_1 : decode cX1_shrink 1 = .ok (.iconst 4, 1) := by decide +kernel
theorem dX1_shrink_2 : decode cX1_shrink 2 = .ok (.imul, 1) := by decide +kernel
theorem dX1_shrink_3 : decode cX1_shrink 3 = .ok (.iload_n 2, 1) := by decide +kernel
theorem dX1_shrink_4 : decode cX1_shrink 4 = .ok (.iadd, 1) := by decide +kernel
theorem dX1_shrink_5 : decode cX1_shrink 5 = .ok (.istore 4, 2) := by decide +kernel
theorem dX1_shrink_7 : decode cX1_shrink 7 = .ok (.aload_n 0, 1) := by decide +kernel
theorem dX1_shrink_8 : decode cX1_shrink 8 = .ok (.getfield 14, 3) := by decide +kernel
theorem dX1_shrink_11 : decode cX1_shrink 11 = .ok (.iload 4, 2) := by decide +kernel
theorem dX1_shrink_13 : decode cX1_shrink 13 = .ok (.iload_n 3, 1) := by decide +kernel
theorem dX1_shrink_14 : decode cX1_shrink 14 = .ok (.ineg, 1) := by decide +kernel
theorem dX1_shrink_15 : decode cX1_shrink 15 = .ok (.invokevirtual 37, 3) := by decide +kernel
theorem dX1_shrink_18 : decode cX1_shrink 18 = .ok (.aload_n 0, 1) := by decide +kernel
theorem dX1_shrink_19 : decode cX1_shrink 19 = .ok (.getfield 14, 3) := by decide +kernel
theorem dX1_shrink_22 : decode cX1_shrink 22 = .ok (.iload 4, 2) := by decide +kernel
theorem dX1_shrink_24 : decode cX1_shrink 24 = .ok (.invokevirtual 30, 3) := by decide +kernel
theorem dX1_shrink_27 : decode cX1_shrink 27 = .ok (.ifCond .ne 14, 3) := by decide +kernel
theorem dX1_shrink_30 : decode cX1_shrink 30 = .ok (.aload_n 0, 1) := by decide +kernel
theorem dX1_shrink_31 : decode cX1_shrink 31 = .ok (.getfield 20, 3) := by decide +kernel
theorem dX1_shrink_34 : decode cX1_shrink 34 = .ok (.iload 4, 2) := by decide +kernel
theorem dX1_shrink_36 : decode cX1_shrink 36 = .ok (.bipush (-6), 2) := by decide +kernel
theorem dX1_shrink_38 : decode cX1_shrink 38 = .ok (.invokevirtual 34, 3) := by decide +kernel
theorem dX1_shrink_41 : decode cX1_shrink 41 = .ok (.return_, 1) := by decide +kernel
theorem dX1_makeOlder_0 : decode cX1_makeOlder 0 = .ok (.iconst 0, 1) := by decide +kernel
theorem dX1_makeOlder_1 : decode cX1_makeOlder 1 = .ok (.istore_n 2, 1) := by decide +kernel
theorem dX1_makeOlder_2 : decode cX1_makeOlder 2 = .ok (.iload_n 2, 1) := by decide +kernel
theorem dX1_makeOlder_3 : decode cX1_makeOlder 3 = .ok (.iconst 4, 1) := by decide +kernel
theorem dX1_makeOlder_4 : decode cX1_makeOlder 4 = .ok (.if_icmp .ge 35, 3) := by decide +kernel
theorem dX1_makeOlder_7 : decode cX1_makeOlder 7 = .ok (.iload_n 1, 1) := by decide +kernel
theorem dX1_makeOlder_8 : decode cX1_makeOlder 8 = .ok (.iconst 4, 1) := by decide +kernel
theorem dX1_makeOlder_9 : decode cX1_makeOlder 9 = .ok (.imul, 1) := by decide +kernel
theorem dX1_makeOlder_10 : decode cX1_makeOlder 10 = .ok (.iload_n 2, 1) := by decide +kernel
theorem dX1_makeOlder_11 : decode cX1_makeOlder 11 = .ok (.iadd, 1) := by decide +kernel
theorem dX1_makeOlder_12 : decode cX1_makeOlder 12 = .ok (.istore_n 3, 1) := by decide +kernel
theorem dX1_makeOlder_13 : decode cX1_makeOlder 13 = .ok (.aload_n 0, 1) := by decide +kernel
theorem dX1_makeOlder_14 : decode cX1_makeOlder 14 = .ok (.getfield 14, 3) := by decide +kernel
theorem dX1_makeOlder_17 : decode cX1_makeOlder 17 = .ok (.iload_n 3, 1) := by decide +kernel
theorem dX1_makeOlder_18 : decode cX1_makeOlder 18 = .ok (.invokevirtual 30, 3) := by decide +kernel
theorem dX1_makeOlder_21 : decode cX1_makeOlder 21 = .ok (.ifCond .le 12, 3) := by decide +kernel
theorem dX1_makeOlder_24 : decode cX1_makeOlder 24 = .ok (.aload_n 0, 1) := by decide +kernel
theorem dX1_makeOlder_25 : decode cX1_makeOlder 25 = .ok (.getfield 20, 3) := by decide +kernel
theorem dX1_makeOlder_28 : decode cX1_makeOlder 28 = .ok (.iload_n 3, 1) := by decide +kernel
theorem dX1_makeOlder_29 : decode cX1_makeOlder 29 = .ok (.iconst 1, 1) := by decide +kernel
theorem dX1_makeOlder_30 : decode cX1_makeOlder 30 = .ok (.invokevirtual 37, 3) := by decide +kernel
theorem dX1_makeOlder_33 : decode cX1_makeOlder 33 = .ok (.iinc 2 1, 3) := by decide +kernel
theorem dX1_makeOlder_36 : decode cX1_makeOlder 36 = .ok (.goto (-34), 3) := by decide +kernel
theorem dX1_makeOlder_39 : decode cX1_makeOlder 39 = .ok (.return_, 1) := by decide +kernel
theorem dX1_oldestOf_0 : decode cX1_oldestOf 0 = .ok (.bipush (-6), 2) := by decide +kernel
theorem dX1_oldestOf_2 : decode cX1_oldestOf 2 = .ok (.istore_n 2, 1) := by decide +kernel
theorem dX1_oldestOf_3 : decode cX1_oldestOf 3 = .ok (.bipush (-6), 2) := by decide +kernel
theorem dX1_oldestOf_5 : decode cX1_oldestOf 5 = .ok (.istore_n 3, 1) := by decide +kernel
theorem dX1_oldestOf_6 : decode cX1_oldestOf 6 = .ok (.iconst 0, 1) := by decide +kernel
theorem dX1_oldestOf_7 : decode cX1_oldestOf 7 = .ok (.istore 4, 2) := by decide +kernel
theorem dX1_oldestOf_9 : decode cX1_oldestOf 9 = .ok (.iload 4, 2) := by decide +kernel
theorem dX1_oldestOf_11 : decode cX1_oldestOf 11 = .ok (.iconst 4, 1) := by decide +kernel
theorem dX1_oldestOf_12 : decode cX1_oldestOf 12 = .ok (.if_icmp .ge 55, 3) := by decide +kernel
theorem dX1_oldestOf_15 : decode cX1_oldestOf 15 = .ok (.iload_n 1, 1) := by decide +kernel
theorem dX1_oldestOf_16 : decode cX1_oldestOf 16 = .ok (.iconst 4, 1) := by decide +kernel
theorem dX1_oldestOf_17 : decode cX1_oldestOf 17 = .ok (.imul, 1) := by decide +kernel
theorem dX1_oldestOf_18 : decode cX1_oldestOf 18 = .ok (.iload 4, 2) := by decide +kernel
theorem dX1_oldestOf_20 : decode cX1_oldestOf 20 = .ok (.iadd, 1) := by decide +kernel
theorem dX1_oldestOf_21 : decode cX1_oldestOf 21 = .ok (.istore 5, 2) := by decide +kernel
theorem dX1_oldestOf_23 : decode cX1_oldestOf 23 = .ok (.aload_n 0, 1) := by decide +kernel
theorem dX1_oldestOf_24 : decode cX1_oldestOf 24 = .ok (.getfield 14, 3) := by decide +kernel
theorem dX1_oldestOf_27 : decode cX1_oldestOf 27 = .ok (.iload 5, 2) := by decide +kernel
theorem dX1_oldestOf_29 : decode cX1_oldestOf 29 = .ok (.invokevirtual 30, 3) := by decide +kernel
theorem dX1_oldestOf_32 : decode cX1_oldestOf 32 = .ok (.ifCond .le 29, 3) := by decide +kernel
theorem dX1_oldestOf_35 : decode cX1_oldestOf 35 = .ok (.aload_n 0, 1) := by decide +kernel
theorem dX1_oldestOf_36 : decode cX1_oldestOf 36 = .ok (.getfield 20, 3) := by decide +kernel
theorem dX1_oldestOf_39 : decode cX1_oldestOf 39 = .ok (.iload 5, 2) := by decide +kernel
theorem dX1_oldestOf_41 : decode cX1_oldestOf 41 = .ok (.invokevirtual 30, 3) := by decide +kernel
theorem dX1_oldestOf_44 : decode cX1_oldestOf 44 = .ok (.iload_n 3, 1) := by decide +kernel
theorem dX1_oldestOf_45 : decode cX1_oldestOf 45 = .ok (.if_icmp .le 16, 3) := by decide +kernel
theorem dX1_oldestOf_48 : decode cX1_oldestOf 48 = .ok (.iload 4, 2) := by decide +kernel
theorem dX1_oldestOf_50 : decode cX1_oldestOf 50 = .ok (.istore_n 2, 1) := by decide +kernel
theorem dX1_oldestOf_51 : decode cX1_oldestOf 51 = .ok (.aload_n 0, 1) := by decide +kernel
theorem dX1_oldestOf_52 : decode cX1_oldestOf 52 = .ok (.getfield 20, 3) := by decide +kernel
theorem dX1_oldestOf_55 : decode cX1_oldestOf 55 = .ok (.iload 5, 2) := by decide +kernel
theorem dX1_oldestOf_57 : decode cX1_oldestOf 57 = .ok (.invokevirtual 30, 3) := by decide +kernel
theorem dX1_oldestOf_60 : decode cX1_oldestOf 60 = .ok (.istore_n 3, 1) := by decide +kernel
theorem dX1_oldestOf_61 : decode cX1_oldestOf 61 = .ok (.iinc 4 1, 3) := by decide +kernel
theorem dX1_oldestOf_64 : decode cX1_oldestOf 64 = .ok (.goto (-55), 3) := by decide +kernel
theorem dX1_oldestOf_67 : decode cX1_oldestOf 67 = .ok (.iload_n 2, 1) := by decide +kernel
theorem dX1_oldestOf_68 : decode cX1_oldestOf 68 = .ok (.ireturn, 1) := by decide +kernel
theorem dX1_owedBy_0 : decode cX1_owedBy 0 = .ok (.iconst 0, 1) := by decide +kernel
theorem dX1_owedBy_1 : decode cX1_owedBy 1 = .ok (.istore_n 2, 1) := by decide +kernel
theorem dX1_owedBy_2 : decode cX1_owedBy 2 = .ok (.iconst 0, 1) := by decide +kernel
theorem dX1_owedBy_3 : decode cX1_owedBy 3 = .ok (.istore_n 3, 1) := by decide +kernel
theorem dX1_owedBy_4 : decode cX1_owedBy 4 = .ok (.iload_n 3, 1) := by decide +kernel
theorem dX1_owedBy_5 : decode cX1_owedBy 5 = .ok (.iconst 4, 1) := by decide +kernel
theorem dX1_owedBy_6 : decode cX1_owedBy 6 = .ok (.if_icmp .ge 24, 3) := by decide +kernel
theorem dX1_owedBy_9 : decode cX1_owedBy 9 = .ok (.iload_n 2, 1) := by decide +kernel
theorem dX1_owedBy_10 : decode cX1_owedBy 10 = .ok (.aload_n 0, 1) := by decide +kernel
theorem dX1_owedBy_11 : decode cX1_owedBy 11 = .ok (.getfield 14, 3) := by decide +kernel
theorem dX1_owedBy_14 : decode cX1_owedBy 14 = .ok (.iload_n 1, 1) := by decide +kernel
theorem dX1_owedBy_15 : decode cX1_owedBy 15 = .ok (.iconst 4, 1) := by decide +kernel
theorem dX1_owedBy_16 : decode cX1_owedBy 16 = .ok (.imul, 1) := by decide +kernel
theorem dX1_owedBy_17 : decode cX1_owedBy 17 = .ok (.iload_n 3, 1) := by decide +kernel
theorem dX1_owedBy_18 : decode cX1_owedBy 18 = .ok (.iadd, 1) := by decide +kernel
theorem dX1_owedBy_19 : decode cX1_owedBy 19 = .ok (.invokevirtual 30, 3) := by decide +kernel
theorem dX1_owedBy_22 : decode cX1_owedBy 22 = .ok (.iadd, 1) := by decide +kernel
theorem dX1_owedBy_23 : decode cX1_owedBy 23 = .ok (.istore_n 2, 1) := by decide +kernel
theorem dX1_owedBy_24 : decode cX1_owedBy 24 = .ok (.iinc 3 1, 3) := by decide +kernel
theorem dX1_owedBy_27 : decode cX1_owedBy 27 = .ok (.goto (-23), 3) := by decide +kernel
theorem dX1_owedBy_30 : decode cX1_owedBy 30 = .ok (.iload_n 2, 1) := by decide +kernel
theorem dX1_owedBy_31 : decode cX1_owedBy 31 = .ok (.ireturn, 1) := by decide +kernel
theorem dX1_owedTo_0 : decode cX1_owedTo 0 = .ok (.iconst 0, 1) := by decide +kernel
theorem dX1_owedTo_1 : decode cX1_owedTo 1 = .ok (.istore_n 2, 1) := by decide +kernel
theorem dX1_owedTo_2 : decode cX1_owedTo 2 = .ok (.iconst 0, 1) := by decide +kernel
theorem dX1_owedTo_3 : decode cX1_owedTo 3 = .ok (.istore_n 3, 1) := by decide +kernel
theorem dX1_owedTo_4 : decode cX1_owedTo 4 = .ok (.iload_n 3, 1) := by decide +kernel
theorem dX1_owedTo_5 : decode cX1_owedTo 5 = .ok (.iconst 4, 1) := by decide +kernel
theorem dX1_owedTo_6 : decode cX1_owedTo 6 = .ok (.if_icmp .ge 24, 3) := by decide +kernel
theorem dX1_owedTo_9 : decode cX1_owedTo 9 = .ok (.iload_n 2, 1) := by decide +kernel
theorem dX1_owedTo_10 : decode cX1_owedTo 10 = .ok (.aload_n 0, 1) := by decide +kernel
theorem dX1_owedTo_11 : decode cX1_owedTo 11 = .ok (.getfield 14, 3) := by decide +kernel
theorem dX1_owedTo_14 : decode cX1_owedTo 14 = .ok (.iload_n 3, 1) := by decide +kernel
theorem dX1_owedTo_15 : decode cX1_owedTo 15 = .ok (.iconst 4, 1) := by decide +kernel
theorem dX1_owedTo_16 : decode cX1_owedTo 16 = .ok (.imul, 1) := by decide +kernel
theorem dX1_owedTo_17 : decode cX1_owedTo 17 = .ok (.iload_n 1, 1) := by decide +kernel
theorem dX1_owedTo_18 : decode cX1_owedTo 18 = .ok (.iadd, 1) := by decide +kernel
theorem dX1_owedTo_19 : decode cX1_owedTo 19 = .ok (.invokevirtual 30, 3) := by decide +kernel
theorem dX1_owedTo_22 : decode cX1_owedTo 22 = .ok (.iadd, 1) := by decide +kernel
theorem dX1_owedTo_23 : decode cX1_owedTo 23 = .ok (.istore_n 2, 1) := by decide +kernel
theorem dX1_owedTo_24 : decode cX1_owedTo 24 = .ok (.iinc 3 1, 3) := by decide +kernel
theorem dX1_owedTo_27 : decode cX1_owedTo 27 = .ok (.goto (-23), 3) := by decide +kernel
theorem dX1_owedTo_30 : decode cX1_owedTo 30 = .ok (.iload_n 2, 1) := by decide +kernel
theorem dX1_owedTo_31 : decode cX1_owedTo 31 = .ok (.ireturn, 1) := by decide +kernel
theorem dX1_inAll_0 : decode cX1_inAll 0 = .ok (.aload_n 0, 1) := by decide +kernel
theorem dX1_inAll_1 : decode cX1_inAll 1 = .ok (.getfield 14, 3) := by decide +kernel
theorem dX1_inAll_4 : decode cX1_inAll 4 = .ok (.invokevirtual 40, 3) := by decide +kernel
theorem dX1_inAll_7 : decode cX1_inAll 7 = .ok (.ireturn, 1) := by decide +kernel
theorem dX1_howMany_0 : decode cX1_howMany 0 = .ok (.iconst 0, 1) := by decide +kernel
theorem dX1_howMany_1 : decode cX1_howMany 1 = .ok (.istore_n 1, 1) := by decide +kernel
theorem dX1_howMany_2 : decode cX1_howMany 2 = .ok (.iconst 0, 1) := by decide +kernel
theorem dX1_howMany_3 : decode cX1_howMany 3 = .ok (.istore_n 2, 1) := by decide +kernel
theorem dX1_howMany_4 : decode cX1_howMany 4 = .ok (.iload_n 2, 1) := by decide +kernel
theorem dX1_howMany_5 : decode cX1_howMany 5 = .ok (.bipush 16, 2) := by decide +kernel
theorem dX1_howMany_7 : decode cX1_howMany 7 = .ok (.if_icmp .ge 28, 3) := by decide +kernel
theorem dX1_howMany_10 : decode cX1_howMany 10 = .ok (.iload_n 1, 1) := by decide +kernel
theorem dX1_howMany_11 : decode cX1_howMany 11 = .ok (.aload_n 0, 1) := by decide +kernel
theorem dX1_howMany_12 : decode cX1_howMany 12 = .ok (.getfield 14, 3) := by decide +kernel
theorem dX1_howMany_15 : decode cX1_howMany 15 = .ok (.iload_n 2, 1) := by decide +kernel
theorem dX1_howMany_16 : decode cX1_howMany 16 = .ok (.invokevirtual 30, 3) := by decide +kernel
theorem dX1_howMany_19 : decode cX1_howMany 19 = .ok (.ifCond .le 7, 3) := by decide +kernel
theorem dX1_howMany_22 : decode cX1_howMany 22 = .ok (.iconst 1, 1) := by decide +kernel
theorem dX1_howMany_23 : decode cX1_howMany 23 = .ok (.goto 4, 3) := by decide +kernel
theorem dX1_howMany_26 : decode cX1_howMany 26 = .ok (.iconst 0, 1) := by decide +kernel
theorem dX1_howMany_27 : decode cX1_howMany 27 = .ok (.iadd, 1) := by decide +kernel
theorem dX1_howMany_28 : decode cX1_howMany 28 = .ok (.istore_n 1, 1) := by decide +kernel
theorem dX1_howMany_29 : decode cX1_howMany 29 = .ok (.iinc 2 1, 3) := by decide +kernel
theorem dX1_howMany_32 : decode cX1_howMany 32 = .ok (.goto (-28), 3) := by decide +kernel
theorem dX1_howMany_35 : decode cX1_howMany 35 = .ok (.iload_n 1, 1) := by decide +kernel
theorem dX1_howMany_36 : decode cX1_howMany 36 = .ok (.ireturn, 1) := by decide +kernel
theorem dX1_distance_0 : decode cX1_distance 0 = .ok (.iconst 1, 1) := by decide +kernel
theorem dX1_distance_1 : decode cX1_distance 1 = .ok (.iload_n 1, 1) := by decide +kernel
theorem dX1_distance_2 : decode cX1_distance 2 = .ok (.ishl, 1) := by decide +kernel
theorem dX1_distance_3 : decode cX1_distance 3 = .ok (.istore_n 3, 1) := by decide +kernel
theorem dX1_distance_4 : decode cX1_distance 4 = .ok (.iconst 1, 1) := by decide +kernel
theorem dX1_distance_5 : decode cX1_distance 5 = .ok (.istore 4, 2) := by decide +kernel
theorem dX1_distance_7 : decode cX1_distance 7 = .ok (.iload 4, 2) := by decide +kernel
theorem dX1_distance_9 : decode cX1_distance 9 = .ok (.iconst 4, 1) := by decide +kernel
theorem dX1_distance_10 : decode cX1_distance 10 = .ok (.if_icmp .gt 79, 3) := by decide +kernel
theorem dX1_distance_13 : decode cX1_distance 13 = .ok (.iconst 0, 1) := by decide +kernel
theorem dX1_distance_14 : decode cX1_distance 14 = .ok (.istore 5, 2) := by decide +kernel
theorem dX1_distance_16 : decode cX1_distance 16 = .ok (.iconst 0, 1) := by decide +kernel
theorem dX1_distance_17 : decode cX1_distance 17 = .ok (.istore 6, 2) := by decide +kernel
theorem dX1_distance_19 : decode cX1_distance 19 = .ok (.iload 6, 2) := by decide +kernel
theorem dX1_distance_21 : decode cX1_distance 21 = .ok (.bipush 16, 2) := by decide +kernel
theorem dX1_distance_23 : decode cX1_distance 23 = .ok (.if_icmp .ge 44, 3) := by decide +kernel
theorem dX1_distance_26 : decode cX1_distance 26 = .ok (.iload_n 3, 1) := by decide +kernel
theorem dX1_distance_27 : decode cX1_distance 27 = .ok (.iload 6, 2) := by decide +kernel
theorem dX1_distance_29 : decode cX1_distance 29 = .ok (.iconst 4, 1) := by decide +kernel
theorem dX1_distance_30 : decode cX1_distance 30 = .ok (.idiv, 1) := by decide +kernel
theorem dX1_distance_31 : decode cX1_distance 31 = .ok (.ishr, 1) := by decide +kernel
theorem dX1_distance_32 : decode cX1_distance 32 = .ok (.iconst 1, 1) := by decide +kernel
theorem dX1_distance_33 : decode cX1_distance 33 = .ok (.iand, 1) := by decide +kernel
theorem dX1_distance_34 : decode cX1_distance 34 = .ok (.iconst 1, 1) := by decide +kernel
theorem dX1_distance_35 : decode cX1_distance 35 = .ok (.if_icmp .ne 26, 3) := by decide +kernel
theorem dX1_distance_38 : decode cX1_distance 38 = .ok (.aload_n 0, 1) := by decide +kernel
theorem dX1_distance_39 : decode cX1_distance 39 = .ok (.getfield 14, 3) := by decide +kernel
theorem dX1_distance_42 : decode cX1_distance 42 = .ok (.iload 6, 2) := by decide +kernel
theorem dX1_distance_44 : decode cX1_distance 44 = .ok (.invokevirtual 30, 3) := by decide +kernel
theorem dX1_distance_47 : decode cX1_distance 47 = .ok (.ifCond .le 14, 3) := by decide +kernel
theorem dX1_distance_50 : decode cX1_distance 50 = .ok (.iload 5, 2) := by decide +kernel
theorem dX1_distance_52 : decode cX1_distance 52 = .ok (.iconst 1, 1) := by decide +kernel
theorem dX1_distance_53 : decode cX1_distance 53 = .ok (.iload 6, 2) := by decide +kernel
theorem dX1_distance_55 : decode cX1_distance 55 = .ok (.iconst 4, 1) := by decide +kernel
theorem dX1_distance_56 : decode cX1_distance 56 = .ok (.irem, 1) := by decide +kernel
theorem dX1_distance_57 : decode cX1_distance 57 = .ok (.ishl, 1) := by decide +kernel
theorem dX1_distance_58 : decode cX1_distance 58 = .ok (.ior, 1) := by decide +kernel
theorem dX1_distance_59 : decode cX1_distance 59 = .ok (.istore 5, 2) := by decide +kernel
theorem dX1_distance_61 : decode cX1_distance 61 = .ok (.iinc 6 1, 3) := by decide +kernel
theorem dX1_distance_64 : decode cX1_distance 64 = .ok (.goto (-45), 3) := by decide +kernel
theorem dX1_distance_67 : decode cX1_distance 67 = .ok (.iload 5, 2) := by decide +kernel
theorem dX1_distance_69 : decode cX1_distance 69 = .ok (.iload_n 2, 1) := by decide +kernel
theorem dX1_distance_70 : decode cX1_distance 70 = .ok (.ishr, 1) := by decide +kernel
theorem dX1_distance_71 : decode cX1_distance 71 = .ok (.iconst 1, 1) := by decide +kernel
theorem dX1_distance_72 : decode cX1_distance 72 = .ok (.iand, 1) := by decide +kernel
theorem dX1_distance_73 : decode cX1_distance 73 = .ok (.iconst 1, 1) := by decide +kernel
theorem dX1_distance_74 : decode cX1_distance 74 = .ok (.if_icmp .ne 6, 3) := by decide +kernel
theorem dX1_distance_77 : decode cX1_distance 77 = .ok (.iload 4, 2) := by decide +kernel
theorem dX1_distance_79 : decode cX1_distance 79 = .ok (.ireturn, 1) := by decide +kernel
theorem dX1_distance_80 : decode cX1_distance 80 = .ok (.iload 5, 2) := by decide +kernel
theorem dX1_distance_82 : decode cX1_distance 82 = .ok (.istore_n 3, 1) := by decide +kernel
theorem dX1_distance_83 : decode cX1_distance 83 = .ok (.iinc 4 1, 3) := by decide +kernel
theorem dX1_distance_86 : decode cX1_distance 86 = .ok (.goto (-79), 3) := by decide +kernel
theorem dX1_distance_89 : decode cX1_distance 89 = .ok (.bipush (-6), 2) := by decide +kernel
theorem dX1_distance_91 : decode cX1_distance 91 = .ok (.ireturn, 1) := by decide +kernel
theorem dX1_clearRing_0 : decode cX1_clearRing 0 = .ok (.aload_n 0, 1) := by decide +kernel
theorem dX1_clearRing_1 : decode cX1_clearRing 1 = .ok (.iload_n 1, 1) := by decide +kernel
theorem dX1_clearRing_2 : decode cX1_clearRing 2 = .ok (.iload_n 1, 1) := by decide +kernel
theorem dX1_clearRing_3 : decode cX1_clearRing 3 = .ok (.invokevirtual 44, 3) := by decide +kernel
theorem dX1_clearRing_6 : decode cX1_clearRing 6 = .ok (.istore_n 2, 1) := by decide +kernel
theorem dX1_clearRing_7 : decode cX1_clearRing 7 = .ok (.iload_n 2, 1) := by decide +kernel
theorem dX1_clearRing_8 : decode cX1_clearRing 8 = .ok (.bipush (-6), 2) := by decide +kernel
theorem dX1_clearRing_10 : decode cX1_clearRing 10 = .ok (.if_icmp .ne 5, 3) := by decide +kernel
theorem dX1_clearRing_13 : decode cX1_clearRing 13 = .ok (.iconst 0, 1) := by decide +kernel
theorem dX1_clearRing_14 : decode cX1_clearRing 14 = .ok (.ireturn, 1) := by decide +kernel
theorem dX1_clearRing_15 : decode cX1_clearRing 15 = .ok (.aload_n 0, 1) := by decide +kernel
theorem dX1_clearRing_16 : decode cX1_clearRing 16 = .ok (.getfield 23, 3) := by decide +kernel
theorem dX1_clearRing_19 : decode cX1_clearRing 19 = .ok (.iconst 0, 1) := by decide +kernel
theorem dX1_clearRing_20 : decode cX1_clearRing 20 = .ok (.iload_n 1, 1) := by decide +kernel
theorem dX1_clearRing_21 : decode cX1_clearRing 21 = .ok (.invokevirtual 34, 3) := by decide +kernel
theorem dX1_clearRing_24 : decode cX1_clearRing 24 = .ok (.iconst 0, 1) := by decide +kernel
theorem dX1_clearRing_25 : decode cX1_clearRing 25 = .ok (.istore_n 3, 1) := by decide +kernel
theorem dX1_clearRing_26 : decode cX1_clearRing 26 = .ok (.iconst 0, 1) := by decide +kernel
theorem dX1_clearRing_27 : decode cX1_clearRing 27 = .ok (.istore 4, 2) := by decide +kernel
theorem dX1_clearRing_29 : decode cX1_clearRing 29 = .ok (.iload 4, 2) := by decide +kernel
theorem dX1_clearRing_31 : decode cX1_clearRing 31 = .ok (.iload_n 2, 1) := by decide +kernel
theorem dX1_clearRing_32 : decode cX1_clearRing 32 = .ok (.if_icmp .ge 73, 3) := by decide +kernel
theorem dX1_clearRing_35 : decode cX1_clearRing 35 = .ok (.aload_n 0, 1) := by decide +kernel
theorem dX1_clearRing_36 : decode cX1_clearRing 36 = .ok (.getfield 23, 3) := by decide +kernel
theorem dX1_clearRing_39 : decode cX1_clearRing 39 = .ok (.iload 4, 2) := by decide +kernel
theorem dX1_clearRing_41 : decode cX1_clearRing 41 = .ok (.invokevirtual 30, 3) := by decide +kernel
theorem dX1_clearRing_44 : decode cX1_clearRing 44 = .ok (.istore 5, 2) := by decide +kernel
theorem dX1_clearRing_46 : decode cX1_clearRing 46 = .ok (.aload_n 0, 1) := by decide +kernel
theorem dX1_clearRing_47 : decode cX1_clearRing 47 = .ok (.iload 5, 2) := by decide +kernel
theorem dX1_clearRing_49 : decode cX1_clearRing 49 = .ok (.iload_n 1, 1) := by decide +kernel
theorem dX1_clearRing_50 : decode cX1_clearRing 50 = .ok (.iload_n 2, 1) := by decide +kernel
theorem dX1_clearRing_51 : decode cX1_clearRing 51 = .ok (.iload 4, 2) := by decide +kernel
theorem dX1_clearRing_53 : decode cX1_clearRing 53 = .ok (.isub, 1) := by decide +kernel
theorem dX1_clearRing_54 : decode cX1_clearRing 54 = .ok (.invokevirtual 48, 3) := by decide +kernel
theorem dX1_clearRing_57 : decode cX1_clearRing 57 = .ok (.istore 6, 2) := by decide +kernel
theorem dX1_clearRing_59 : decode cX1_clearRing 59 = .ok (.aload_n 0, 1) := by decide +kernel
theorem dX1_clearRing_60 : decode cX1_clearRing 60 = .ok (.getfield 23, 3) := by decide +kernel
theorem dX1_clearRing_63 : decode cX1_clearRing 63 = .ok (.iload 4, 2) := by decide +kernel
theorem dX1_clearRing_65 : decode cX1_clearRing 65 = .ok (.iconst 1, 1) := by decide +kernel
theorem dX1_clearRing_66 : decode cX1_clearRing 66 = .ok (.iadd, 1) := by decide +kernel
theorem dX1_clearRing_67 : decode cX1_clearRing 67 = .ok (.iload 6, 2) := by decide +kernel
theorem dX1_clearRing_69 : decode cX1_clearRing 69 = .ok (.invokevirtual 34, 3) := by decide +kernel
theorem dX1_clearRing_72 : decode cX1_clearRing 72 = .ok (.aload_n 0, 1) := by decide +kernel
theorem dX1_clearRing_73 : decode cX1_clearRing 73 = .ok (.iload 5, 2) := by decide +kernel
theorem dX1_clearRing_75 : decode cX1_clearRing 75 = .ok (.iload 6, 2) := by decide +kernel
theorem dX1_clearRing_77 : decode cX1_clearRing 77 = .ok (.invokevirtual 52, 3) := by decide +kernel
theorem dX1_clearRing_80 : decode cX1_clearRing 80 = .ok (.istore 7, 2) := by decide +kernel
theorem dX1_clearRing_82 : decode cX1_clearRing 82 = .ok (.iload 4, 2) := by decide +kernel
theorem dX1_clearRing_84 : decode cX1_clearRing 84 = .ok (.ifCond .ne 8, 3) := by decide +kernel
theorem dX1_clearRing_87 : decode cX1_clearRing 87 = .ok (.iload 7, 2) := by decide +kernel
theorem dX1_clearRing_89 : decode cX1_clearRing 89 = .ok (.goto 9, 3) := by decide +kernel
theorem dX1_clearRing_92 : decode cX1_clearRing 92 = .ok (.iload_n 3, 1) := by decide +kernel
theorem dX1_clearRing_93 : decode cX1_clearRing 93 = .ok (.iload 7, 2) := by decide +kernel
theorem dX1_clearRing_95 : decode cX1_clearRing 95 = .ok (.invokestatic 55, 3) := by decide +kernel
theorem dX1_clearRing_98 : decode cX1_clearRing 98 = .ok (.istore_n 3, 1) := by decide +kernel
theorem dX1_clearRing_99 : decode cX1_clearRing 99 = .ok (.iinc 4 1, 3) := by decide +kernel
theorem dX1_clearRing_102 : decode cX1_clearRing 102 = .ok (.goto (-73), 3) := by decide +kernel
theorem dX1_clearRing_105 : decode cX1_clearRing 105 = .ok (.iconst 0, 1) := by decide +kernel
theorem dX1_clearRing_106 : decode cX1_clearRing 106 = .ok (.istore 4, 2) := by decide +kernel
theorem dX1_clearRing_108 : decode cX1_clearRing 108 = .ok (.iload 4, 2) := by decide +kernel
theorem dX1_clearRing_110 : decode cX1_clearRing 110 = .ok (.iload_n 2, 1) := by decide +kernel
theorem dX1_clearRing_111 : decode cX1_clearRing 111 = .ok (.if_icmp .ge 34, 3) := by decide +kernel
theorem dX1_clearRing_114 : decode cX1_clearRing 114 = .ok (.aload_n 0, 1) := by decide +kernel
theorem dX1_clearRing_115 : decode cX1_clearRing 115 = .ok (.aload_n 0, 1) := by decide +kernel
theorem dX1_clearRing_116 : decode cX1_clearRing 116 = .ok (.getfield 23, 3) := by decide +kernel
theorem dX1_clearRing_119 : decode cX1_clearRing 119 = .ok (.iload 4, 2) := by decide +kernel
theorem dX1_clearRing_121 : decode cX1_clearRing 121 = .ok (.invokevirtual 30, 3) := by decide +kernel
theorem dX1_clearRing_124 : decode cX1_clearRing 124 = .ok (.aload_n 0, 1) := by decide +kernel
theorem dX1_clearRing_125 : decode cX1_clearRing 125 = .ok (.getfield 23, 3) := by decide +kernel
theorem dX1_clearRing_128 : decode cX1_clearRing 128 = .ok (.iload 4, 2) := by decide +kernel
theorem dX1_clearRing_130 : decode cX1_clearRing 130 = .ok (.iconst 1, 1) := by decide +kernel
theorem dX1_clearRing_131 : decode cX1_clearRing 131 = .ok (.iadd, 1) := by decide +kernel
theorem dX1_clearRing_132 : decode cX1_clearRing 132 = .ok (.invokevirtual 30, 3) := by decide +kernel
theorem dX1_clearRing_135 : decode cX1_clearRing 135 = .ok (.iload_n 3, 1) := by decide +kernel
theorem dX1_clearRing_136 : decode cX1_clearRing 136 = .ok (.invokevirtual 60, 3) := by decide +kernel
theorem dX1_clearRing_139 : decode cX1_clearRing 139 = .ok (.iinc 4 1, 3) := by decide +kernel
theorem dX1_clearRing_142 : decode cX1_clearRing 142 = .ok (.goto (-34), 3) := by decide +kernel
theorem dX1_clearRing_145 : decode cX1_clearRing 145 = .ok (.iload_n 3, 1) := by decide +kernel
theorem dX1_clearRing_146 : decode cX1_clearRing 146 = .ok (.ireturn, 1) := by decide +kernel
theorem dX1_nextOnRing_0 : decode cX1_nextOnRing 0 = .ok (.iload_n 3, 1) := by decide +kernel
theorem dX1_nextOnRing_1 : decode cX1_nextOnRing 1 = .ok (.iconst 1, 1) := by decide +kernel
theorem dX1_nextOnRing_2 : decode cX1_nextOnRing 2 = .ok (.if_icmp .ne 5, 3) := by decide +kernel
theorem dX1_nextOnRing_5 : decode cX1_nextOnRing 5 = .ok (.iload_n 2, 1) := by decide +kernel
theorem dX1_nextOnRing_6 : decode cX1_nextOnRing 6 = .ok (.ireturn, 1) := by decide +kernel
theorem dX1_nextOnRing_7 : decode cX1_nextOnRing 7 = .ok (.iconst 0, 1) := by decide +kernel
theorem dX1_nextOnRing_8 : decode cX1_nextOnRing 8 = .ok (.istore 4, 2) := by decide +kernel
theorem dX1_nextOnRing_10 : decode cX1_nextOnRing 10 = .ok (.iload 4, 2) := by decide +kernel
theorem dX1_nextOnRing_12 : decode cX1_nextOnRing 12 = .ok (.iconst 4, 1) := by decide +kernel
theorem dX1_nextOnRing_13 : decode cX1_nextOnRing 13 = .ok (.if_icmp .ge 35, 3) := by decide +kernel
theorem dX1_nextOnRing_16 : decode cX1_nextOnRing 16 = .ok (.aload_n 0, 1) := by decide +kernel
theorem dX1_nextOnRing_17 : decode cX1_nextOnRing 17 = .ok (.iload_n 1, 1) := by decide +kernel
theorem dX1_nextOnRing_18 : decode cX1_nextOnRing 18 = .ok (.iload 4, 2) := by decide +kernel
theorem dX1_nextOnRing_20 : decode cX1_nextOnRing 20 = .ok (.invokevirtual 52, 3) := by decide +kernel
theorem dX1_nextOnRing_23 : decode cX1_nextOnRing 23 = .ok (.ifCond .le 19, 3) := by decide +kernel
theorem dX1_nextOnRing_26 : decode cX1_nextOnRing 26 = .ok (.aload_n 0, 1) := by decide +kernel
theorem dX1_nextOnRing_27 : decode cX1_nextOnRing 27 = .ok (.iload 4, 2) := by decide +kernel
theorem dX1_nextOnRing_29 : decode cX1_nextOnRing 29 = .ok (.iload_n 2, 1) := by decide +kernel
theorem dX1_nextOnRing_30 : decode cX1_nextOnRing 30 = .ok (.invokevirtual 44, 3) := by decide +kernel
theorem dX1_nextOnRing_33 : decode cX1_nextOnRing 33 = .ok (.iload_n 3, 1) := by decide +kernel
theorem dX1_nextOnRing_34 : decode cX1_nextOnRing 34 = .ok (.iconst 1, 1) := by decide +kernel
theorem dX1_nextOnRing_35 : decode cX1_nextOnRing 35 = .ok (.isub, 1) := by decide +kernel
theorem dX1_nextOnRing_36 : decode cX1_nextOnRing 36 = .ok (.if_icmp .ne 6, 3) := by decide +kernel
theorem dX1_nextOnRing_39 : decode cX1_nextOnRing 39 = .ok (.iload 4, 2) := by decide +kernel
theorem dX1_nextOnRing_41 : decode cX1_nextOnRing 41 = .ok (.ireturn, 1) := by decide +kernel
theorem dX1_nextOnRing_42 : decode cX1_nextOnRing 42 = .ok (.iinc 4 1, 3) := by decide +kernel
theorem dX1_nextOnRing_45 : decode cX1_nextOnRing 45 = .ok (.goto (-35), 3) := by decide +kernel
theorem dX1_nextOnRing_48 : decode cX1_nextOnRing 48 = .ok (.bipush (-6), 2) := by decide +kernel
theorem dX1_nextOnRing_50 : decode cX1_nextOnRing 50 = .ok (.ireturn, 1) := by decide +kernel
theorem dX2_init_0 : decode cX2_init 0 = .ok (.aload_n 0, 1) := by decide +kernel
theorem dX2_init_1 : decode cX2_init 1 = .ok (.invokespecial 3, 3) := by decide +kernel
theorem dX2_init_4 : decode cX2_init 4 = .ok (.aload_n 0, 1) := by decide +kernel
theorem dX2_init_5 : decode cX2_init 5 = .ok (.bipush 7, 2) := by decide +kernel
theorem dX2_init_7 : decode cX2_init 7 = .ok (.anewarray 9, 3) := by decide +kernel
theorem dX2_init_10 : decode cX2_init 10 = .ok (.putfield 11, 3) := by decide +kernel
theorem dX2_init_13 : decode cX2_init 13 = .ok (.aload_n 0, 1) := by decide +kernel
theorem dX2_init_14 : decode cX2_init 14 = .ok (.iconst 0, 1) := by decide +kernel
theorem dX2_init_15 : decode cX2_init 15 = .ok (.putfield 17, 3) := by decide +kernel
theorem dX2_init_18 : decode cX2_init 18 = .ok (.aload_n 0, 1) := by decide +kernel
theorem dX2_init_19 : decode cX2_init 19 = .ok (.iconst 0, 1) := by decide +kernel
theorem dX2_init_20 : decode cX2_init 20 = .ok (.putfield 21, 3) := by decide +kernel
theorem dX2_init_23 : decode cX2_init 23 = .ok (.iconst 0, 1) := by decide +kernel
theorem dX2_init_24 : decode cX2_init 24 = .ok (.istore_n 1, 1) := by decide +kernel
theorem dX2_init_25 : decode cX2_init 25 = .ok (.iload_n 1, 1) := by decide +kernel
theorem dX2_init_26 : decode cX2_init 26 = .ok (.aload_n 0, 1) := by decide +kernel
theorem dX2_init_27 : decode cX2_init 27 = .ok (.getfield 11, 3) := by decide +kernel
theorem dX2_init_30 : decode cX2_init 30 = .ok (.arraylength, 1) := by decide +kernel
theorem dX2_init_31 : decode cX2_init 31 = .ok (.if_icmp .ge 22, 3) := by decide +kernel
theorem dX2_init_34 : decode cX2_init 34 = .ok (.aload_n 0, 1) := by decide +kernel
theorem dX2_init_35 : decode cX2_init 35 = .ok (.getfield 11, 3) := by decide +kernel
theorem dX2_init_38 : decode cX2_init 38 = .ok (.iload_n 1, 1) := by decide +kernel
theorem dX2_init_39 : decode cX2_init 39 = .ok (.new 9, 3) := by decide +kernel
theorem dX2_init_42 : decode cX2_init 42 = .ok (.dup, 1) := by decide +kernel
theorem dX2_init_43 : decode cX2_init 43 = .ok (.invokespecial 24, 3) := by decide +kernel
theorem dX2_init_46 : decode cX2_init 46 = .ok (.aastore, 1) := by decide +kernel
theorem dX2_init_47 : decode cX2_init 47 = .ok (.iinc 1 1, 3) := by decide +kernel
theorem dX2_init_50 : decode cX2_init 50 = .ok (.goto (-25), 3) := by decide +kernel
theorem dX2_init_53 : decode cX2_init 53 = .ok (.return_, 1) := by decide +kernel
theorem dX2_kept_0 : decode cX2_kept 0 = .ok (.aload_n 0, 1) := by decide +kernel
theorem dX2_kept_1 : decode cX2_kept 1 = .ok (.getfield 21, 3) := by decide +kernel
theorem dX2_kept_4 : decode cX2_kept 4 = .ok (.ireturn, 1) := by decide +kernel
theorem dX2_stage_0 : decode cX2_stage 0 = .ok (.aload_n 0, 1) := by decide +kernel
theorem dX2_stage_1 : decode cX2_stage 1 = .ok (.getfield 17, 3) := by decide +kernel
theorem dX2_stage_4 : decode cX2_stage 4 = .ok (.ifCond .lt 27, 3) := by decide +kernel
theorem dX2_stage_7 : decode cX2_stage 7 = .ok (.aload_n 0, 1) := by decide +kernel
theorem dX2_stage_8 : decode cX2_stage 8 = .ok (.getfield 17, 3) := by decide +kernel
theorem dX2_stage_11 : decode cX2_stage 11 = .ok (.aload_n 0, 1) := by decide +kernel
theorem dX2_stage_12 : decode cX2_stage 12 = .ok (.getfield 11, 3) := by decide +kernel
theorem dX2_stage_15 : decode cX2_stage 15 = .ok (.arraylength, 1) := by decide +kernel
theorem dX2_stage_16 : decode cX2_stage 16 = .ok (.if_icmp .ge 15, 3) := by decide +kernel
theorem dX2_stage_19 : decode cX2_stage 19 = .ok (.aload_n 0, 1) := by decide +kernel
theorem dX2_stage_20 : decode cX2_stage 20 = .ok (.getfield 11, 3) := by decide +kernel
theorem dX2_stage_23 : decode cX2_stage 23 = .ok (.aload_n 0, 1) := by decide +kernel
theorem dX2_stage_24 : decode cX2_stage 24 = .ok (.getfield 17, 3) := by decide +kernel
theorem dX2_stage_27 : decode cX2_stage 27 = .ok (.aaload, 1) := by decide +kernel
theorem dX2_stage_28 : decode cX2_stage 28 = .ok (.goto 4, 3) := by decide +kernel
theorem dX2_stage_31 : decode cX2_stage 31 = .ok (.aconst_null, 1) := by decide +kernel
theorem dX2_stage_32 : decode cX2_stage 32 = .ok (.astore_n 2, 1) := by decide +kernel
theorem dX2_stage_33 : decode cX2_stage 33 = .ok (.aload_n 2, 1) := by decide +kernel
theorem dX2_stage_34 : decode cX2_stage 34 = .ok (.ifnull 8, 3) := by decide +kernel
theorem dX2_stage_37 : decode cX2_stage 37 = .ok (.aload_n 2, 1) := by decide +kernel
theorem dX2_stage_38 : decode cX2_stage 38 = .ok (.aload_n 1, 1) := by decide +kernel
theorem dX2_stage_39 : decode cX2_stage 39 = .ok (.invokevirtual 25, 3) := by decide +kernel
theorem dX2_stage_42 : decode cX2_stage 42 = .ok (.return_, 1) := by decide +kernel
theorem dX2_keepStaged_0 : decode cX2_keepStaged 0 = .ok (.aload_n 0, 1) := by decide +kernel
theorem dX2_keepStaged_1 : decode cX2_keepStaged 1 = .ok (.aload_n 0, 1) := by decide +kernel
theorem dX2_keepStaged_2 : decode cX2_keepStaged 2 = .ok (.getfield 17, 3) := by decide +kernel
theorem dX2_keepStaged_5 : decode cX2_keepStaged 5 = .ok (.bipush 6, 2) := by decide +kernel
theorem dX2_keepStaged_7 : decode cX2_keepStaged 7 = .ok (.if_icmp .ge 12, 3) := by decide +kernel
theorem dX2_keepStaged_10 : decode cX2_keepStaged 10 = .ok (.aload_n 0, 1) := by decide +kernel
theorem dX2_keepStaged_11 : decode cX2_keepStaged 11 = .ok (.getfield 17, 3) := by decide +kernel
theorem dX2_keepStaged_14 : decode cX2_keepStaged 14 = .ok (.iconst 1, 1) := by decide +kernel
theorem dX2_keepStaged_15 : decode cX2_keepStaged 15 = .ok (.iadd, 1) := by decide +kernel
theorem dX2_keepStaged_16 : decode cX2_keepStaged 16 = .ok (.goto 4, 3) := by decide +kernel
theorem dX2_keepStaged_19 : decode cX2_keepStaged 19 = .ok (.iconst 0, 1) := by decide +kernel
theorem dX2_keepStaged_20 : decode cX2_keepStaged 20 = .ok (.putfield 17, 3) := by decide +kernel
theorem dX2_keepStaged_23 : decode cX2_keepStaged 23 = .ok (.aload_n 0, 1) := by decide +kernel
theorem dX2_keepStaged_24 : decode cX2_keepStaged 24 = .ok (.aload_n 0, 1) := by decide +kernel
theorem dX2_keepStaged_25 : decode cX2_keepStaged 25 = .ok (.getfield 21, 3) := by decide +kernel
theorem dX2_keepStaged_28 : decode cX2_keepStaged 28 = .ok (.iconst 1, 1) := by decide +kernel
theorem dX2_keepStaged_29 : decode cX2_keepStaged 29 = .ok (.iadd, 1) := by decide +kernel
theorem dX2_keepStaged_30 : decode cX2_keepStaged 30 = .ok (.bipush 6, 2) := by decide +kernel
theorem dX2_keepStaged_32 : decode cX2_keepStaged 32 = .ok (.invokestatic 29, 3) := by decide +kernel
theorem dX2_keepStaged_35 : decode cX2_keepStaged 35 = .ok (.putfield 21, 3) := by decide +kernel
theorem dX2_keepStaged_38 : decode cX2_keepStaged 38 = .ok (.return_, 1) := by decide +kernel
theorem dX3_init_0 : decode cX3_init 0 = .ok (.aload_n 0, 1) := by decide +kernel
theorem dX3_init_1 : decode cX3_init 1 = .ok (.invokespecial 3, 3) := by decide +kernel
theorem dX3_init_4 : decode cX3_init 4 = .ok (.aload_n 0, 1) := by decide +kernel
theorem dX3_init_5 : decode cX3_init 5 = .ok (.iconst 0, 1) := by decide +kernel
theorem dX3_init_6 : decode cX3_init 6 = .ok (.putfield 9, 3) := by decide +kernel
theorem dX3_init_9 : decode cX3_init 9 = .ok (.aload_n 0, 1) := by decide +kernel
theorem dX3_init_10 : decode cX3_init 10 = .ok (.new 15, 3) := by decide +kernel
theorem dX3_init_13 : decode cX3_init 13 = .ok (.dup, 1) := by decide +kernel
theorem dX3_init_14 : decode cX3_init 14 = .ok (.iload_n 1, 1) := by decide +kernel
theorem dX3_init_15 : decode cX3_init 15 = .ok (.iconst (-1), 1) := by decide +kernel
theorem dX3_init_16 : decode cX3_init 16 = .ok (.invokespecial 17, 3) := by decide +kernel
theorem dX3_init_19 : decode cX3_init 19 = .ok (.putfield 20, 3) := by decide +kernel
theorem dX3_init_22 : decode cX3_init 22 = .ok (.aload_n 0, 1) := by decide +kernel
theorem dX3_init_23 : decode cX3_init 23 = .ok (.iload_n 1, 1) := by decide +kernel
theorem dX3_init_24 : decode cX3_init 24 = .ok (.putfield 24, 3) := by decide +kernel
theorem dX3_init_27 : decode cX3_init 27 = .ok (.return_, 1) := by decide +kernel
theorem dX3_length_0 : decode cX3_length 0 = .ok (.aload_n 0, 1) := by decide +kernel
theorem dX3_length_1 : decode cX3_length 1 = .ok (.getfield 9, 3) := by decide +kernel
theorem dX3_length_4 : decode cX3_length 4 = .ok (.ireturn, 1) := by decide +kernel
theorem dX3_at_0 : decode cX3_at 0 = .ok (.iload_n 1, 1) := by decide +kernel
theorem dX3_at_1 : decode cX3_at 1 = .ok (.aload_n 0, 1) := by decide +kernel
theorem dX3_at_2 : decode cX3_at 2 = .ok (.getfield 9, 3) := by decide +kernel
theorem dX3_at_5 : decode cX3_at 5 = .ok (.if_icmp .ge 14, 3) := by decide +kernel
theorem dX3_at_8 : decode cX3_at 8 = .ok (.aload_n 0, 1) := by decide +kernel
theorem dX3_at_9 : decode cX3_at 9 = .ok (.getfield 20, 3) := by decide +kernel
theorem dX3_at_12 : decode cX3_at 12 = .ok (.iload_n 1, 1) := by decide +kernel
theorem dX3_at_13 : decode cX3_at 13 = .ok (.invokevirtual 27, 3) := by decide +kernel
theorem dX3_at_16 : decode cX3_at 16 = .ok (.goto 4, 3) := by decide +kernel
theorem dX3_at_19 : decode cX3_at 19 = .ok (.iconst (-1), 1) := by decide +kernel
theorem dX3_at_20 : decode cX3_at 20 = .ok (.ireturn, 1) := by decide +kernel
theorem dX3_append_0 : decode cX3_append 0 = .ok (.aload_n 0, 1) := by decide +kernel
theorem dX3_append_1 : decode cX3_append 1 = .ok (.getfield 9, 3) := by decide +kernel
theorem dX3_append_4 : decode cX3_append 4 = .ok (.aload_n 0, 1) := by decide +kernel
theorem dX3_append_5 : decode cX3_append 5 = .ok (.getfield 24, 3) := by decide +kernel
theorem dX3_append_8 : decode cX3_append 8 = .ok (.if_icmp .ge 25, 3) := by decide +kernel
theorem dX3_append_11 : decode cX3_append 11 = .ok (.aload_n 0, 1) := by decide +kernel
theorem dX3_append_12 : decode cX3_append 12 = .ok (.getfield 20, 3) := by decide +kernel
theorem dX3_append_15 : decode cX3_append 15 = .ok (.aload_n 0, 1) := by decide +kernel
theorem dX3_append_16 : decode cX3_append 16 = .ok (.getfield 9, 3) := by decide +kernel
theorem dX3_append_19 : decode cX3_append 19 = .ok (.iload_n 1, 1) := by decide +kernel
theorem dX3_append_20 : decode cX3_append 20 = .ok (.invokevirtual 31, 3) := by decide +kernel
theorem dX3_append_23 : decode cX3_append 23 = .ok (.aload_n 0, 1) := by decide +kernel
theorem dX3_append_24 : decode cX3_append 24 = .ok (.dup, 1) := by decide +kernel
theorem dX3_append_25 : decode cX3_append 25 = .ok (.getfield 9, 3) := by decide +kernel
theorem dX3_append_28 : decode cX3_append 28 = .ok (.iconst 1, 1) := by decide +kernel
theorem dX3_append_29 : decode cX3_append 29 = .ok (.iadd, 1) := by decide +kernel
theorem dX3_append_30 : decode cX3_append 30 = .ok (.putfield 9, 3) := by decide +kernel
theorem dX3_append_33 : decode cX3_append 33 = .ok (.return_, 1) := by decide +kernel
theorem dX3_makeEmpty_0 : decode cX3_makeEmpty 0 = .ok (.aload_n 0, 1) := by decide +kernel
theorem dX3_makeEmpty_1 : decode cX3_makeEmpty 1 = .ok (.iconst 0, 1) := by decide +kernel
theorem dX3_makeEmpty_2 : decode cX3_makeEmpty 2 = .ok (.putfield 9, 3) := by decide +kernel
theorem dX3_makeEmpty_5 : decode cX3_makeEmpty 5 = .ok (.return_, 1) := by decide +kernel
theorem dX5_init_0 : decode cX5_init 0 = .ok (.aload_n 0, 1) := by decide +kernel
theorem dX5_init_1 : decode cX5_init 1 = .ok (.invokespecial 3, 3) := by decide +kernel
theorem dX5_init_4 : decode cX5_init 4 = .ok (.aload_n 0, 1) := by decide +kernel
theorem dX5_init_5 : decode cX5_init 5 = .ok (.new 9, 3) := by decide +kernel
theorem dX5_init_8 : decode cX5_init 8 = .ok (.dup, 1) := by decide +kernel
theorem dX5_init_9 : decode cX5_init 9 = .ok (.bipush 20, 2) := by decide +kernel
theorem dX5_init_11 : decode cX5_init 11 = .ok (.bipush (-6), 2) := by decide +kernel
theorem dX5_init_13 : decode cX5_init 13 = .ok (.invokespecial 11, 3) := by decide +kernel
theorem dX5_init_16 : decode cX5_init 16 = .ok (.putfield 14, 3) := by decide +kernel
theorem dX5_init_19 : decode cX5_init 19 = .ok (.aload_n 0, 1) := by decide +kernel
theorem dX5_init_20 : decode cX5_init 20 = .ok (.new 9, 3) := by decide +kernel
theorem dX5_init_23 : decode cX5_init 23 = .ok (.dup, 1) := by decide +kernel
theorem dX5_init_24 : decode cX5_init 24 = .ok (.bipush 20, 2) := by decide +kernel
theorem dX5_init_26 : decode cX5_init 26 = .ok (.bipush (-6), 2) := by decide +kernel
theorem dX5_init_28 : decode cX5_init 28 = .ok (.invokespecial 11, 3) := by decide +kernel
theorem dX5_init_31 : decode cX5_init 31 = .ok (.putfield 20, 3) := by decide +kernel
theorem dX5_init_34 : decode cX5_init 34 = .ok (.return_, 1) := by decide +kernel
theorem dX5_copyFrom_0 : decode cX5_copyFrom 0 = .ok (.aload_n 0, 1) := by decide +kernel
theorem dX5_copyFrom_1 : decode cX5_copyFrom 1 = .ok (.getfield 14, 3) := by decide +kernel
theorem dX5_copyFrom_4 : decode cX5_copyFrom 4 = .ok (.aload_n 1, 1) := by decide +kernel
theorem dX5_copyFrom_5 : decode cX5_copyFrom 5 = .ok (.getfield 14, 3) := by decide +kernel
theorem dX5_copyFrom_8 : decode cX5_copyFrom 8 = .ok (.invokevirtual 23, 3) := by decide +kernel
theorem dX5_copyFrom_11 : decode cX5_copyFrom 11 = .ok (.aload_n 0, 1) := by decide +kernel
theorem dX5_copyFrom_12 : decode cX5_copyFrom 12 = .ok (.getfield 20, 3) := by decide +kernel
theorem dX5_copyFrom_15 : decode cX5_copyFrom 15 = .ok (.aload_n 1, 1) := by decide +kernel
theorem dX5_copyFrom_16 : decode cX5_copyFrom 16 = .ok (.getfield 20, 3) := by decide +kernel
theorem dX5_copyFrom_19 : decode cX5_copyFrom 19 = .ok (.invokevirtual 23, 3) := by decide +kernel
theorem dX5_copyFrom_22 : decode cX5_copyFrom 22 = .ok (.return_, 1) := by decide +kernel
theorem dX5_sortOf_0 : decode cX5_sortOf 0 = .ok (.iload_n 0, 1) := by decide +kernel
theorem dX5_sortOf_1 : decode cX5_sortOf 1 = .ok (.iconst 5, 1) := by decide +kernel
theorem dX5_sortOf_2 : decode cX5_sortOf 2 = .ok (.irem, 1) := by decide +kernel
theorem dX5_sortOf_3 : decode cX5_sortOf 3 = .ok (.ifCond .eq 5, 3) := by decide +kernel
theorem dX5_sortOf_6 : decode cX5_sortOf 6 = .ok (.iconst 1, 1) := by decide +kernel
theorem dX5_sortOf_7 : decode cX5_sortOf 7 = .ok (.ireturn, 1) := by decide +kernel
theorem dX5_sortOf_8 : decode cX5_sortOf 8 = .ok (.iload_n 0, 1) := by decide +kernel
theorem dX5_sortOf_9 : decode cX5_sortOf 9 = .ok (.bipush 10, 2) := by decide +kernel
theorem dX5_sortOf_11 : decode cX5_sortOf 11 = .ok (.irem, 1) := by decide +kernel
theorem dX5_sortOf_12 : decode cX5_sortOf 12 = .ok (.ifCond .ne 7, 3) := by decide +kernel
theorem dX5_sortOf_15 : decode cX5_sortOf 15 = .ok (.iconst 0, 1) := by decide +kernel
theorem dX5_sortOf_16 : decode cX5_sortOf 16 = .ok (.goto 4, 3) := by decide +kernel
theorem dX5_sortOf_19 : decode cX5_sortOf 19 = .ok (.iconst 2, 1) := by decide +kernel
theorem dX5_sortOf_20 : decode cX5_sortOf 20 = .ok (.ireturn, 1) := by decide +kernel
theorem dX5_firstOwner_0 : decode cX5_firstOwner 0 = .ok (.aload_n 0, 1) := by decide +kernel
theorem dX5_firstOwner_1 : decode cX5_firstOwner 1 = .ok (.getfield 14, 3) := by decide +kernel
theorem dX5_firstOwner_4 : decode cX5_firstOwner 4 = .ok (.iload_n 1, 1) := by decide +kernel
theorem dX5_firstOwner_5 : decode cX5_firstOwner 5 = .ok (.invokevirtual 27, 3) := by decide +kernel
theorem dX5_firstOwner_8 : decode cX5_firstOwner 8 = .ok (.ireturn, 1) := by decide +kernel
theorem dX5_secondOwner_0 : decode cX5_secondOwner 0 = .ok (.aload_n 0, 1) := by decide +kernel
theorem dX5_secondOwner_1 : decode cX5_secondOwner 1 = .ok (.getfield 20, 3) := by decide +kernel
theorem dX5_secondOwner_4 : decode cX5_secondOwner 4 = .ok (.iload_n 1, 1) := by decide +kernel
theorem dX5_secondOwner_5 : decode cX5_secondOwner 5 = .ok (.invokevirtual 27, 3) := by decide +kernel
theorem dX5_secondOwner_8 : decode cX5_secondOwner 8 = .ok (.ireturn, 1) := by decide +kernel
theorem dX5_isOwnedBy_0 : decode cX5_isOwnedBy 0 = .ok (.aload_n 0, 1) := by decide +kernel
theorem dX5_isOwnedBy_1 : decode cX5_isOwnedBy 1 = .ok (.getfield 14, 3) := by decide +kernel
theorem dX5_isOwnedBy_4 : decode cX5_isOwnedBy 4 = .ok (.iload_n 1, 1) := by decide +kernel
theorem dX5_isOwnedBy_5 : decode cX5_isOwnedBy 5 = .ok (.invokevirtual 27, 3) := by decide +kernel
theorem dX5_isOwnedBy_8 : decode cX5_isOwnedBy 8 = .ok (.iload_n 2, 1) := by decide +kernel
theorem dX5_isOwnedBy_9 : decode cX5_isOwnedBy 9 = .ok (.if_icmp .eq 15, 3) := by decide +kernel
theorem dX5_isOwnedBy_12 : decode cX5_isOwnedBy 12 = .ok (.aload_n 0, 1) := by decide +kernel
theorem dX5_isOwnedBy_13 : decode cX5_isOwnedBy 13 = .ok (.getfield 20, 3) := by decide +kernel
theorem dX5_isOwnedBy_16 : decode cX5_isOwnedBy 16 = .ok (.iload_n 1, 1) := by decide +kernel
theorem dX5_isOwnedBy_17 : decode cX5_isOwnedBy 17 = .ok (.invokevirtual 27, 3) := by decide +kernel
theorem dX5_isOwnedBy_20 : decode cX5_isOwnedBy 20 = .ok (.iload_n 2, 1) := by decide +kernel
theorem dX5_isOwnedBy_21 : decode cX5_isOwnedBy 21 = .ok (.if_icmp .ne 7, 3) := by decide +kernel
theorem dX5_isOwnedBy_24 : decode cX5_isOwnedBy 24 = .ok (.iconst 1, 1) := by decide +kernel
theorem dX5_isOwnedBy_25 : decode cX5_isOwnedBy 25 = .ok (.goto 4, 3) := by decide +kernel
theorem dX5_isOwnedBy_28 : decode cX5_isOwnedBy 28 = .ok (.iconst 0, 1) := by decide +kernel
theorem dX5_isOwnedBy_29 : decode cX5_isOwnedBy 29 = .ok (.ireturn, 1) := by decide +kernel
theorem dX5_hasFreePart_0 : decode cX5_hasFreePart 0 = .ok (.iload_n 1, 1) := by decide +kernel
theorem dX5_hasFreePart_1 : decode cX5_hasFreePart 1 = .ok (.invokestatic 31, 3) := by decide +kernel
theorem dX5_hasFreePart_4 : decode cX5_hasFreePart 4 = .ok (.istore_n 2, 1) := by decide +kernel
theorem dX5_hasFreePart_5 : decode cX5_hasFreePart 5 = .ok (.iload_n 2, 1) := by decide +kernel
theorem dX5_hasFreePart_6 : decode cX5_hasFreePart 6 = .ok (.iconst 1, 1) := by decide +kernel
theorem dX5_hasFreePart_7 : decode cX5_hasFreePart 7 = .ok (.if_icmp .ne 16, 3) := by decide +kernel
theorem dX5_hasFreePart_10 : decode cX5_hasFreePart 10 = .ok (.aload_n 0, 1) := by decide +kernel
theorem dX5_hasFreePart_11 : decode cX5_hasFreePart 11 = .ok (.getfield 14, 3) := by decide +kernel
theorem dX5_hasFreePart_14 : decode cX5_hasFreePart 14 = .ok (.iload_n 1, 1) := by decide +kernel
theorem dX5_hasFreePart_15 : decode cX5_hasFreePart 15 = .ok (.invokevirtual 27, 3) := by decide +kernel
theorem dX5_hasFreePart_18 : decode cX5_hasFreePart 18 = .ok (.bipush (-6), 2) := by decide +kernel
theorem dX5_hasFreePart_20 : decode cX5_hasFreePart 20 = .ok (.if_icmp .eq 21, 3) := by decide +kernel
theorem dX5_hasFreePart_23 : decode cX5_hasFreePart 23 = .ok (.iload_n 2, 1) := by decide +kernel
theorem dX5_hasFreePart_24 : decode cX5_hasFreePart 24 = .ok (.iconst 2, 1) := by decide +kernel
theorem dX5_hasFreePart_25 : decode cX5_hasFreePart 25 = .ok (.if_icmp .ne 20, 3) := by decide +kernel
theorem dX5_hasFreePart_28 : decode cX5_hasFreePart 28 = .ok (.aload_n 0, 1) := by decide +kernel
theorem dX5_hasFreePart_29 : decode cX5_hasFreePart 29 = .ok (.getfield 20, 3) := by decide +kernel
theorem dX5_hasFreePart_32 : decode cX5_hasFreePart 32 = .ok (.iload_n 1, 1) := by decide +kernel
theorem dX5_hasFreePart_33 : decode cX5_hasFreePart 33 = .ok (.invokevirtual 27, 3) := by decide +kernel
theorem dX5_hasFreePart_36 : decode cX5_hasFreePart 36 = .ok (.bipush (-6), 2) := by decide +kernel
theorem dX5_hasFreePart_38 : decode cX5_hasFreePart 38 = .ok (.if_icmp .ne 7, 3) := by decide +kernel
theorem dX5_hasFreePart_41 : decode cX5_hasFreePart 41 = .ok (.iconst 1, 1) := by decide +kernel
theorem dX5_hasFreePart_42 : decode cX5_hasFreePart 42 = .ok (.goto 4, 3) := by decide +kernel
theorem dX5_hasFreePart_45 : decode cX5_hasFreePart 45 = .ok (.iconst 0, 1) := by decide +kernel
theorem dX5_hasFreePart_46 : decode cX5_hasFreePart 46 = .ok (.ireturn, 1) := by decide +kernel
theorem dX5_giveFreePart_0 : decode cX5_giveFreePart 0 = .ok (.aload_n 0, 1) := by decide +kernel
theorem dX5_giveFreePart_1 : decode cX5_giveFreePart 1 = .ok (.getfield 14, 3) := by decide +kernel
theorem dX5_giveFreePart_4 : decode cX5_giveFreePart 4 = .ok (.iload_n 1, 1) := by decide +kernel
theorem dX5_giveFreePart_5 : decode cX5_giveFreePart 5 = .ok (.invokevirtual 27, 3) := by decide +kernel
theorem dX5_giveFreePart_8 : decode cX5_giveFreePart 8 = .ok (.bipush (-6), 2) := by decide +kernel
theorem dX5_giveFreePart_10 : decode cX5_giveFreePart 10 = .ok (.if_icmp .ne 15, 3) := by decide +kernel
theorem dX5_giveFreePart_13 : decode cX5_giveFreePart 13 = .ok (.aload_n 0, 1) := by decide +kernel
theorem dX5_giveFreePart_14 : decode cX5_giveFreePart 14 = .ok (.getfield 14, 3) := by decide +kernel
theorem dX5_giveFreePart_17 : decode cX5_giveFreePart 17 = .ok (.iload_n 1, 1) := by decide +kernel
theorem dX5_giveFreePart_18 : decode cX5_giveFreePart 18 = .ok (.iload_n 2, 1) := by decide +kernel
theorem dX5_giveFreePart_19 : decode cX5_giveFreePart 19 = .ok (.invokevirtual 34, 3) := by decide +kernel
theorem dX5_giveFreePart_22 : decode cX5_giveFreePart 22 = .ok (.goto 12, 3) := by decide +kernel
theorem dX5_giveFreePart_25 : decode cX5_giveFreePart 25 = .ok (.aload_n 0, 1) := by decide +kernel
theorem dX5_giveFreePart_26 : decode cX5_giveFreePart 26 = .ok (.getfield 20, 3) := by decide +kernel
theorem dX5_giveFreePart_29 : decode cX5_giveFreePart 29 = .ok (.iload_n 1, 1) := by decide +kernel
theorem dX5_giveFreePart_30 : decode cX5_giveFreePart 30 = .ok (.iload_n 2, 1) := by decide +kernel
theorem dX5_giveFreePart_31 : decode cX5_giveFreePart 31 = .ok (.invokevirtual 34, 3) := by decide +kernel
theorem dX5_giveFreePart_34 : decode cX5_giveFreePart 34 = .ok (.return_, 1) := by decide +kernel
theorem dX5_handOn_0 : decode cX5_handOn 0 = .ok (.aload_n 0, 1) := by decide +kernel
theorem dX5_handOn_1 : decode cX5_handOn 1 = .ok (.getfield 14, 3) := by decide +kernel
theorem dX5_handOn_4 : decode cX5_handOn 4 = .ok (.iload_n 1, 1) := by decide +kernel
theorem dX5_handOn_5 : decode cX5_handOn 5 = .ok (.invokevirtual 27, 3) := by decide +kernel
theorem dX5_handOn_8 : decode cX5_handOn 8 = .ok (.iload_n 2, 1) := by decide +kernel
theorem dX5_handOn_9 : decode cX5_handOn 9 = .ok (.if_icmp .ne 7, 3) := by decide +kernel
theorem dX5_handOn_12 : decode cX5_handOn 12 = .ok (.iconst 1, 1) := by decide +kernel
theorem dX5_handOn_13 : decode cX5_handOn 13 = .ok (.goto 4, 3) := by decide +kernel
theorem dX5_handOn_16 : decode cX5_handOn 16 = .ok (.iconst 0, 1) := by decide +kernel
theorem dX5_handOn_17 : decode cX5_handOn 17 = .ok (.istore 4, 2) := by decide +kernel
theorem dX5_handOn_19 : decode cX5_handOn 19 = .ok (.iload 4, 2) := by decide +kernel
theorem dX5_handOn_21 : decode cX5_handOn 21 = .ok (.ifCond .eq 14, 3) := by decide +kernel
theorem dX5_handOn_24 : decode cX5_handOn 24 = .ok (.aload_n 0, 1) := by decide +kernel
theorem dX5_handOn_25 : decode cX5_handOn 25 = .ok (.getfield 20, 3) := by decide +kernel
theorem dX5_handOn_28 : decode cX5_handOn 28 = .ok (.iload_n 1, 1) := by decide +kernel
theorem dX5_handOn_29 : decode cX5_handOn 29 = .ok (.invokevirtual 27, 3) := by decide +kernel
theorem dX5_handOn_32 : decode cX5_handOn 32 = .ok (.goto 11, 3) := by decide +kernel
theorem dX5_handOn_35 : decode cX5_handOn 35 = .ok (.aload_n 0, 1) := by decide +kernel
theorem dX5_handOn_36 : decode cX5_handOn 36 = .ok (.getfield 14, 3) := by decide +kernel
theorem dX5_handOn_39 : decode cX5_handOn 39 = .ok (.iload_n 1, 1) := by decide +kernel
theorem dX5_handOn_40 : decode cX5_handOn 40 = .ok (.invokevirtual 27, 3) := by decide +kernel
theorem dX5_handOn_43 : decode cX5_handOn 43 = .ok (.istore 5, 2) := by decide +kernel
theorem dX5_handOn_45 : decode cX5_handOn 45 = .ok (.iload 5, 2) := by decide +kernel
theorem dX5_handOn_47 : decode cX5_handOn 47 = .ok (.iload_n 3, 1) := by decide +kernel
theorem dX5_handOn_48 : decode cX5_handOn 48 = .ok (.if_icmp .ne 25, 3) := by decide +kernel
theorem dX5_handOn_51 : decode cX5_handOn 51 = .ok (.aload_n 0, 1) := by decide +kernel
theorem dX5_handOn_52 : decode cX5_handOn 52 = .ok (.getfield 14, 3) := by decide +kernel
theorem dX5_handOn_55 : decode cX5_handOn 55 = .ok (.iload_n 1, 1) := by decide +kernel
theorem dX5_handOn_56 : decode cX5_handOn 56 = .ok (.iload_n 3, 1) := by decide +kernel
theorem dX5_handOn_57 : decode cX5_handOn 57 = .ok (.invokevirtual 34, 3) := by decide +kernel
theorem dX5_handOn_60 : decode cX5_handOn 60 = .ok (.aload_n 0, 1) := by decide +kernel
theorem dX5_handOn_61 : decode cX5_handOn 61 = .ok (.getfield 20, 3) := by decide +kernel
theorem dX5_handOn_64 : decode cX5_handOn 64 = .ok (.iload_n 1, 1) := by decide +kernel
theorem dX5_handOn_65 : decode cX5_handOn 65 = .ok (.bipush (-6), 2) := by decide +kernel
theorem dX5_handOn_67 : decode cX5_handOn 67 = .ok (.invokevirtual 34, 3) := by decide +kernel
theorem dX5_handOn_70 : decode cX5_handOn 70 = .ok (.goto 29, 3) := by decide +kernel
theorem dX5_handOn_73 : decode cX5_handOn 73 = .ok (.iload 4, 2) := by decide +kernel
theorem dX5_handOn_75 : decode cX5_handOn 75 = .ok (.ifCond .eq 15, 3) := by decide +kernel
theorem dX5_handOn_78 : decode cX5_handOn 78 = .ok (.aload_n 0, 1) := by decide +kernel
theorem dX5_handOn_79 : decode cX5_handOn 79 = .ok (.getfield 14, 3) := by decide +kernel
theorem dX5_handOn_82 : decode cX5_handOn 82 = .ok (.iload_n 1, 1) := by decide +kernel
theorem dX5_handOn_83 : decode cX5_handOn 83 = .ok (.iload_n 3, 1) := by decide +kernel
theorem dX5_handOn_84 : decode cX5_handOn 84 = .ok (.invokevirtual 34, 3) := by decide +kernel
theorem dX5_handOn_87 : decode cX5_handOn 87 = .ok (.goto 12, 3) := by decide +kernel
theorem dX5_handOn_90 : decode cX5_handOn 90 = .ok (.aload_n 0, 1) := by decide +kernel
theorem dX5_handOn_91 : decode cX5_handOn 91 = .ok (.getfield 20, 3) := by decide +kernel
theorem dX5_handOn_94 : decode cX5_handOn 94 = .ok (.iload_n 1, 1) := by decide +kernel
theorem dX5_handOn_95 : decode cX5_handOn 95 = .ok (.iload_n 3, 1) := by decide +kernel
theorem dX5_handOn_96 : decode cX5_handOn 96 = .ok (.invokevirtual 34, 3) := by decide +kernel
theorem dX5_handOn_99 : decode cX5_handOn 99 = .ok (.return_, 1) := by decide +kernel
theorem dX5_lowestOf_0 : decode cX5_lowestOf 0 = .ok (.iconst 0, 1) := by decide +kernel
theorem dX5_lowestOf_1 : decode cX5_lowestOf 1 = .ok (.istore_n 2, 1) := by decide +kernel
theorem dX5_lowestOf_2 : decode cX5_lowestOf 2 = .ok (.iload_n 2, 1) := by decide +kernel
theorem dX5_lowestOf_3 : decode cX5_lowestOf 3 = .ok (.bipush 20, 2) := by decide +kernel
theorem dX5_lowestOf_5 : decode cX5_lowestOf 5 = .ok (.if_icmp .ge 35, 3) := by decide +kernel
theorem dX5_lowestOf_8 : decode cX5_lowestOf 8 = .ok (.aload_n 0, 1) := by decide +kernel
theorem dX5_lowestOf_9 : decode cX5_lowestOf 9 = .ok (.getfield 14, 3) := by decide +kernel
theorem dX5_lowestOf_12 : decode cX5_lowestOf 12 = .ok (.iload_n 2, 1) := by decide +kernel
theorem dX5_lowestOf_13 : decode cX5_lowestOf 13 = .ok (.invokevirtual 27, 3) := by decide +kernel
theorem dX5_lowestOf_16 : decode cX5_lowestOf 16 = .ok (.iload_n 1, 1) := by decide +kernel
theorem dX5_lowestOf_17 : decode cX5_lowestOf 17 = .ok (.if_icmp .eq 15, 3) := by decide +kernel
theorem dX5_lowestOf_20 : decode cX5_lowestOf 20 = .ok (.aload_n 0, 1) := by decide +kernel
theorem dX5_lowestOf_21 : decode cX5_lowestOf 21 = .ok (.getfield 20, 3) := by decide +kernel
theorem dX5_lowestOf_24 : decode cX5_lowestOf 24 = .ok (.iload_n 2, 1) := by decide +kernel
theorem dX5_lowestOf_25 : decode cX5_lowestOf 25 = .ok (.invokevirtual 27, 3) := by decide +kernel
theorem dX5_lowestOf_28 : decode cX5_lowestOf 28 = .ok (.iload_n 1, 1) := by decide +kernel
theorem dX5_lowestOf_29 : decode cX5_lowestOf 29 = .ok (.if_icmp .ne 5, 3) := by decide +kernel
theorem dX5_lowestOf_32 : decode cX5_lowestOf 32 = .ok (.iload_n 2, 1) := by decide +kernel
theorem dX5_lowestOf_33 : decode cX5_lowestOf 33 = .ok (.ireturn, 1) := by decide +kernel
theorem dX5_lowestOf_34 : decode cX5_lowestOf 34 = .ok (.iinc 2 1, 3) := by decide +kernel
theorem dX5_lowestOf_37 : decode cX5_lowestOf 37 = .ok (.goto (-35), 3) := by decide +kernel
theorem dX5_lowestOf_40 : decode cX5_lowestOf 40 = .ok (.bipush (-6), 2) := by decide +kernel
theorem dX5_lowestOf_42 : decode cX5_lowestOf 42 = .ok (.ireturn, 1) := by decide +kernel
theorem dX5_squaresOf_0 : decode cX5_squaresOf 0 = .ok (.iconst 0, 1) := by decide +kernel
theorem dX5_squaresOf_1 : decode cX5_squaresOf 1 = .ok (.istore_n 2, 1) := by decide +kernel
theorem dX5_squaresOf_2 : decode cX5_squaresOf 2 = .ok (.iconst 0, 1) := by decide +kernel
theorem dX5_squaresOf_3 : decode cX5_squaresOf 3 = .ok (.istore_n 3, 1) := by decide +kernel
theorem dX5_squaresOf_4 : decode cX5_squaresOf 4 = .ok (.iload_n 3, 1) := by decide +kernel
theorem dX5_squaresOf_5 : decode cX5_squaresOf 5 = .ok (.bipush 20, 2) := by decide +kernel
theorem dX5_squaresOf_7 : decode cX5_squaresOf 7 = .ok (.if_icmp .ge 39, 3) := by decide +kernel
theorem dX5_squaresOf_10 : decode cX5_squaresOf 10 = .ok (.aload_n 0, 1) := by decide +kernel
theorem dX5_squaresOf_11 : decode cX5_squaresOf 11 = .ok (.getfield 14, 3) := by decide +kernel
theorem dX5_squaresOf_14 : decode cX5_squaresOf 14 = .ok (.iload_n 3, 1) := by decide +kernel
theorem dX5_squaresOf_15 : decode cX5_squaresOf 15 = .ok (.invokevirtual 27, 3) := by decide +kernel
theorem dX5_squaresOf_18 : decode cX5_squaresOf 18 = .ok (.iload_n 1, 1) := by decide +kernel
theorem dX5_squaresOf_19 : decode cX5_squaresOf 19 = .ok (.if_icmp .eq 15, 3) := by decide +kernel
theorem dX5_squaresOf_22 : decode cX5_squaresOf 22 = .ok (.aload_n 0, 1) := by decide +kernel
theorem dX5_squaresOf_23 : decode cX5_squaresOf 23 = .ok (.getfield 20, 3) := by decide +kernel
theorem dX5_squaresOf_26 : decode cX5_squaresOf 26 = .ok (.iload_n 3, 1) := by decide +kernel
theorem dX5_squaresOf_27 : decode cX5_squaresOf 27 = .ok (.invokevirtual 27, 3) := by decide +kernel
theorem dX5_squaresOf_30 : decode cX5_squaresOf 30 = .ok (.iload_n 1, 1) := by decide +kernel
theorem dX5_squaresOf_31 : decode cX5_squaresOf 31 = .ok (.if_icmp .ne 9, 3) := by decide +kernel
theorem dX5_squaresOf_34 : decode cX5_squaresOf 34 = .ok (.iload_n 2, 1) := by decide +kernel
theorem dX5_squaresOf_35 : decode cX5_squaresOf 35 = .ok (.iconst 1, 1) := by decide +kernel
theorem dX5_squaresOf_36 : decode cX5_squaresOf 36 = .ok (.iload_n 3, 1) := by decide +kernel
theorem dX5_squaresOf_37 : decode cX5_squaresOf 37 = .ok (.ishl, 1) := by decide +kernel
theorem dX5_squaresOf_38 : decode cX5_squaresOf 38 = .ok (.ior, 1) := by decide +kernel
theorem dX5_squaresOf_39 : decode cX5_squaresOf 39 = .ok (.istore_n 2, 1) := by decide +kernel
theorem dX5_squaresOf_40 : decode cX5_squaresOf 40 = .ok (.iinc 3 1, 3) := by decide +kernel
theorem dX5_squaresOf_43 : decode cX5_squaresOf 43 = .ok (.goto (-39), 3) := by decide +kernel
theorem dX5_squaresOf_46 : decode cX5_squaresOf 46 = .ok (.iload_n 2, 1) := by decide +kernel
theorem dX5_squaresOf_47 : decode cX5_squaresOf 47 = .ok (.ireturn, 1) := by decide +kernel
theorem dX5_toll_0 : decode cX5_toll 0 = .ok (.aload_n 0, 1) := by decide +kernel
theorem dX5_toll_1 : decode cX5_toll 1 = .ok (.getfield 14, 3) := by decide +kernel
theorem dX5_toll_4 : decode cX5_toll 4 = .ok (.iload_n 1, 1) := by decide +kernel
theorem dX5_toll_5 : decode cX5_toll 5 = .ok (.invokevirtual 27, 3) := by decide +kernel
theorem dX5_toll_8 : decode cX5_toll 8 = .ok (.istore_n 3, 1) := by decide +kernel
theorem dX5_toll_9 : decode cX5_toll 9 = .ok (.iload_n 3, 1) := by decide +kernel
theorem dX5_toll_10 : decode cX5_toll 10 = .ok (.bipush (-6), 2) := by decide +kernel
theorem dX5_toll_12 : decode cX5_toll 12 = .ok (.if_icmp .ne 5, 3) := by decide +kernel
theorem dX5_toll_15 : decode cX5_toll 15 = .ok (.iconst 0, 1) := by decide +kernel
theorem dX5_toll_16 : decode cX5_toll 16 = .ok (.ireturn, 1) := by decide +kernel
theorem dX5_toll_17 : decode cX5_toll 17 = .ok (.iload_n 1, 1) := by decide +kernel
theorem dX5_toll_18 : decode cX5_toll 18 = .ok (.iconst 5, 1) := by decide +kernel
theorem dX5_toll_19 : decode cX5_toll 19 = .ok (.idiv, 1) := by decide +kernel
theorem dX5_toll_20 : decode cX5_toll 20 = .ok (.iconst 5, 1) := by decide +kernel
theorem dX5_toll_21 : decode cX5_toll 21 = .ok (.imul, 1) := by decide +kernel
theorem dX5_toll_22 : decode cX5_toll 22 = .ok (.istore 4, 2) := by decide +kernel
theorem dX5_toll_24 : decode cX5_toll 24 = .ok (.iconst 0, 1) := by decide +kernel
theorem dX5_toll_25 : decode cX5_toll 25 = .ok (.istore 5, 2) := by decide +kernel
theorem dX5_toll_27 : decode cX5_toll 27 = .ok (.iload 4, 2) := by decide +kernel
theorem dX5_toll_29 : decode cX5_toll 29 = .ok (.istore 6, 2) := by decide +kernel
theorem dX5_toll_31 : decode cX5_toll 31 = .ok (.iload 6, 2) := by decide +kernel
theorem dX5_toll_33 : decode cX5_toll 33 = .ok (.iload 4, 2) := by decide +kernel
theorem dX5_toll_35 : decode cX5_toll 35 = .ok (.iconst 5, 1) := by decide +kernel
theorem dX5_toll_36 : decode cX5_toll 36 = .ok (.iadd, 1) := by decide +kernel
theorem dX5_toll_37 : decode cX5_toll 37 = .ok (.if_icmp .ge 34, 3) := by decide +kernel
theorem dX5_toll_40 : decode cX5_toll 40 = .ok (.iload 6, 2) := by decide +kernel
theorem dX5_toll_42 : decode cX5_toll 42 = .ok (.invokestatic 31, 3) := by decide +kernel
theorem dX5_toll_45 : decode cX5_toll 45 = .ok (.iconst 1, 1) := by decide +kernel
theorem dX5_toll_46 : decode cX5_toll 46 = .ok (.if_icmp .ne 19, 3) := by decide +kernel
theorem dX5_toll_49 : decode cX5_toll 49 = .ok (.aload_n 0, 1) := by decide +kernel
theorem dX5_toll_50 : decode cX5_toll 50 = .ok (.getfield 14, 3) := by decide +kernel
theorem dX5_toll_53 : decode cX5_toll 53 = .ok (.iload 6, 2) := by decide +kernel
theorem dX5_toll_55 : decode cX5_toll 55 = .ok (.invokevirtual 27, 3) := by decide +kernel
theorem dX5_toll_58 : decode cX5_toll 58 = .ok (.iload_n 3, 1) := by decide +kernel
theorem dX5_toll_59 : decode cX5_toll 59 = .ok (.if_icmp .ne 6, 3) := by decide +kernel
theorem dX5_toll_62 : decode cX5_toll 62 = .ok (.iinc 5 1, 3) := by decide +kernel
theorem dX5_toll_65 : decode cX5_toll 65 = .ok (.iinc 6 1, 3) := by decide +kernel
theorem dX5_toll_68 : decode cX5_toll 68 = .ok (.goto (-37), 3) := by decide +kernel
theorem dX5_toll_71 : decode cX5_toll 71 = .ok (.iload_n 2, 1) := by decide +kernel
theorem dX5_toll_72 : decode cX5_toll 72 = .ok (.iconst 1, 1) := by decide +kernel
theorem dX5_toll_73 : decode cX5_toll 73 = .ok (.iload 5, 2) := by decide +kernel
theorem dX5_toll_75 : decode cX5_toll 75 = .ok (.iadd, 1) := by decide +kernel
theorem dX5_toll_76 : decode cX5_toll 76 = .ok (.imul, 1) := by decide +kernel
theorem dX5_toll_77 : decode cX5_toll 77 = .ok (.ireturn, 1) := by decide +kernel
theorem dX6_init_0 : decode cX6_init 0 = .ok (.aload_n 0, 1) := by decide +kernel
theorem dX6_init_1 : decode cX6_init 1 = .ok (.invokespecial 1, 3) := by decide +kernel
theorem dX6_init_4 : decode cX6_init 4 = .ok (.aload_n 0, 1) := by decide +kernel
theorem dX6_init_5 : decode cX6_init 5 = .ok (.iload_n 1, 1) := by decide +kernel
theorem dX6_init_6 : decode cX6_init 6 = .ok (.iconst 0, 1) := by decide +kernel
theorem dX6_init_7 : decode cX6_init 7 = .ok (.invokestatic 7, 3) := by decide +kernel
theorem dX6_init_10 : decode cX6_init 10 = .ok (.newarray .int, 2) := by decide +kernel
theorem dX6_init_12 : decode cX6_init 12 = .ok (.putfield 13, 3) := by decide +kernel
theorem dX6_init_15 : decode cX6_init 15 = .ok (.aload_n 0, 1) := by decide +kernel
theorem dX6_init_16 : decode cX6_init 16 = .ok (.iload_n 2, 1) := by decide +kernel
theorem dX6_init_17 : decode cX6_init 17 = .ok (.putfield 19, 3) := by decide +kernel
theorem dX6_init_20 : decode cX6_init 20 = .ok (.iconst 0, 1) := by decide +kernel
theorem dX6_init_21 : decode cX6_init 21 = .ok (.istore_n 3, 1) := by decide +kernel
theorem dX6_init_22 : decode cX6_init 22 = .ok (.iload_n 3, 1) := by decide +kernel
theorem dX6_init_23 : decode cX6_init 23 = .ok (.aload_n 0, 1) := by decide +kernel
theorem dX6_init_24 : decode cX6_init 24 = .ok (.getfield 13, 3) := by decide +kernel
theorem dX6_init_27 : decode cX6_init 27 = .ok (.arraylength, 1) := by decide +kernel
theorem dX6_init_28 : decode cX6_init 28 = .ok (.if_icmp .ge 16, 3) := by decide +kernel
theorem dX6_init_31 : decode cX6_init 31 = .ok (.aload_n 0, 1) := by decide +kernel
theorem dX6_init_32 : decode cX6_init 32 = .ok (.getfield 13, 3) := by decide +kernel
theorem dX6_init_35 : decode cX6_init 35 = .ok (.iload_n 3, 1) := by decide +kernel
theorem dX6_init_36 : decode cX6_init 36 = .ok (.iload_n 2, 1) := by decide +kernel
theorem dX6_init_37 : decode cX6_init 37 = .ok (.iastore, 1) := by decide +kernel
theorem dX6_init_38 : decode cX6_init 38 = .ok (.iinc 3 1, 3) := by decide +kernel
theorem dX6_init_41 : decode cX6_init 41 = .ok (.goto (-19), 3) := by decide +kernel
theorem dX6_init_44 : decode cX6_init 44 = .ok (.return_, 1) := by decide +kernel
theorem dX6_at_0 : decode cX6_at 0 = .ok (.iload_n 1, 1) := by decide +kernel
theorem dX6_at_1 : decode cX6_at 1 = .ok (.ifCond .lt 21, 3) := by decide +kernel
theorem dX6_at_4 : decode cX6_at 4 = .ok (.iload_n 1, 1) := by decide +kernel
theorem dX6_at_5 : decode cX6_at 5 = .ok (.aload_n 0, 1) := by decide +kernel
theorem dX6_at_6 : decode cX6_at 6 = .ok (.getfield 13, 3) := by decide +kernel
theorem dX6_at_9 : decode cX6_at 9 = .ok (.arraylength, 1) := by decide +kernel
theorem dX6_at_10 : decode cX6_at 10 = .ok (.if_icmp .ge 12, 3) := by decide +kernel
theorem dX6_at_13 : decode cX6_at 13 = .ok (.aload_n 0, 1) := by decide +kernel
theorem dX6_at_14 : decode cX6_at 14 = .ok (.getfield 13, 3) := by decide +kernel
theorem dX6_at_17 : decode cX6_at 17 = .ok (.iload_n 1, 1) := by decide +kernel
theorem dX6_at_18 : decode cX6_at 18 = .ok (.iaload, 1) := by decide +kernel
theorem dX6_at_19 : decode cX6_at 19 = .ok (.goto 7, 3) := by decide +kernel
theorem dX6_at_22 : decode cX6_at 22 = .ok (.aload_n 0, 1) := by decide +kernel
theorem dX6_at_23 : decode cX6_at 23 = .ok (.getfield 19, 3) := by decide +kernel
theorem dX6_at_26 : decode cX6_at 26 = .ok (.ireturn, 1) := by decide +kernel
theorem dX6_write_0 : decode cX6_write 0 = .ok (.iload_n 1, 1) := by decide +kernel
theorem dX6_write_1 : decode cX6_write 1 = .ok (.ifCond .lt 19, 3) := by decide +kernel
theorem dX6_write_4 : decode cX6_write 4 = .ok (.iload_n 1, 1) := by decide +kernel
theorem dX6_write_5 : decode cX6_write 5 = .ok (.aload_n 0, 1) := by decide +kernel
theorem dX6_write_6 : decode cX6_write 6 = .ok (.getfield 13, 3) := by decide +kernel
theorem dX6_write_9 : decode cX6_write 9 = .ok (.arraylength, 1) := by decide +kernel
theorem dX6_write_10 : decode cX6_write 10 = .ok (.if_icmp .ge 10, 3) := by decide +kernel
theorem dX6_write_13 : decode cX6_write 13 = .ok (.aload_n 0, 1) := by decide +kernel
theorem dX6_write_14 : decode cX6_write 14 = .ok (.getfield 13, 3) := by decide +kernel
theorem dX6_write_17 : decode cX6_write 17 = .ok (.iload_n 1, 1) := by decide +kernel
theorem dX6_write_18 : decode cX6_write 18 = .ok (.iload_n 2, 1) := by decide +kernel
theorem dX6_write_19 : decode cX6_write 19 = .ok (.iastore, 1) := by decide +kernel
theorem dX6_write_20 : decode cX6_write 20 = .ok (.return_, 1) := by decide +kernel
theorem dX6_add_0 : decode cX6_add 0 = .ok (.iload_n 1, 1) := by decide +kernel
theorem dX6_add_1 : decode cX6_add 1 = .ok (.ifCond .lt 22, 3) := by decide +kernel
theorem dX6_add_4 : decode cX6_add 4 = .ok (.iload_n 1, 1) := by decide +kernel
theorem dX6_add_5 : decode cX6_add 5 = .ok (.aload_n 0, 1) := by decide +kernel
theorem dX6_add_6 : decode cX6_add 6 = .ok (.getfield 13, 3) := by decide +kernel
theorem dX6_add_9 : decode cX6_add 9 = .ok (.arraylength, 1) := by decide +kernel
theorem dX6_add_10 : decode cX6_add 10 = .ok (.if_icmp .ge 13, 3) := by decide +kernel
theorem dX6_add_13 : decode cX6_add 13 = .ok (.aload_n 0, 1) := by decide +kernel
theorem dX6_add_14 : decode cX6_add 14 = .ok (.getfield 13, 3) := by decide +kernel
theorem dX6_add_17 : decode cX6_add 17 = .ok (.iload_n 1, 1) := by decide +kernel
theorem dX6_add_18 : decode cX6_add 18 = .ok (.dup2, 1) := by decide +kernel
theorem dX6_add_19 : decode cX6_add 19 = .ok (.iaload, 1) := by decide +kernel
theorem dX6_add_20 : decode cX6_add 20 = .ok (.iload_n 2, 1) := by decide +kernel
theorem dX6_add_21 : decode cX6_add 21 = .ok (.iadd, 1) := by decide +kernel
theorem dX6_add_22 : decode cX6_add 22 = .ok (.iastore, 1) := by decide +kernel
theorem dX6_add_23 : decode cX6_add 23 = .ok (.return_, 1) := by decide +kernel
theorem dX6_sum_0 : decode cX6_sum 0 = .ok (.iconst 0, 1) := by decide +kernel
theorem dX6_sum_1 : decode cX6_sum 1 = .ok (.istore_n 1, 1) := by decide +kernel
theorem dX6_sum_2 : decode cX6_sum 2 = .ok (.iconst 0, 1) := by decide +kernel
theorem dX6_sum_3 : decode cX6_sum 3 = .ok (.istore_n 2, 1) := by decide +kernel
theorem dX6_sum_4 : decode cX6_sum 4 = .ok (.iload_n 2, 1) := by decide +kernel
theorem dX6_sum_5 : decode cX6_sum 5 = .ok (.aload_n 0, 1) := by decide +kernel
theorem dX6_sum_6 : decode cX6_sum 6 = .ok (.getfield 13, 3) := by decide +kernel
theorem dX6_sum_9 : decode cX6_sum 9 = .ok (.arraylength, 1) := by decide +kernel
theorem dX6_sum_10 : decode cX6_sum 10 = .ok (.if_icmp .ge 18, 3) := by decide +kernel
theorem dX6_sum_13 : decode cX6_sum 13 = .ok (.iload_n 1, 1) := by decide +kernel
theorem dX6_sum_14 : decode cX6_sum 14 = .ok (.aload_n 0, 1) := by decide +kernel
theorem dX6_sum_15 : decode cX6_sum 15 = .ok (.getfield 13, 3) := by decide +kernel
theorem dX6_sum_18 : decode cX6_sum 18 = .ok (.iload_n 2, 1) := by decide +kernel
theorem dX6_sum_19 : decode cX6_sum 19 = .ok (.iaload, 1) := by decide +kernel
theorem dX6_sum_20 : decode cX6_sum 20 = .ok (.iadd, 1) := by decide +kernel
theorem dX6_sum_21 : decode cX6_sum 21 = .ok (.istore_n 1, 1) := by decide +kernel
theorem dX6_sum_22 : decode cX6_sum 22 = .ok (.iinc 2 1, 3) := by decide +kernel
theorem dX6_sum_25 : decode cX6_sum 25 = .ok (.goto (-21), 3) := by decide +kernel
theorem dX6_sum_28 : decode cX6_sum 28 = .ok (.iload_n 1, 1) := by decide +kernel
theorem dX6_sum_29 : decode cX6_sum 29 = .ok (.ireturn, 1) := by decide +kernel
theorem dX6_copyFrom_0 : decode cX6_copyFrom 0 = .ok (.iconst 0, 1) := by decide +kernel
theorem dX6_copyFrom_1 : decode cX6_copyFrom 1 = .ok (.istore_n 2, 1) := by decide +kernel
theorem dX6_copyFrom_2 : decode cX6_copyFrom 2 = .ok (.iload_n 2, 1) := by decide +kernel
theorem dX6_copyFrom_3 : decode cX6_copyFrom 3 = .ok (.aload_n 0, 1) := by decide +kernel
theorem dX6_copyFrom_4 : decode cX6_copyFrom 4 = .ok (.getfield 13, 3) := by decide +kernel
theorem dX6_copyFrom_7 : decode cX6_copyFrom 7 = .ok (.arraylength, 1) := by decide +kernel
theorem dX6_copyFrom_8 : decode cX6_copyFrom 8 = .ok (.if_icmp .ge 30, 3) := by decide +kernel
theorem dX6_copyFrom_11 : decode cX6_copyFrom 11 = .ok (.iload_n 2, 1) := by decide +kernel
theorem dX6_copyFrom_12 : decode cX6_copyFrom 12 = .ok (.aload_n 1, 1) := by decide +kernel
theorem dX6_copyFrom_13 : decode cX6_copyFrom 13 = .ok (.getfield 13, 3) := by decide +kernel
theorem dX6_copyFrom_16 : decode cX6_copyFrom 16 = .ok (.arraylength, 1) := by decide +kernel
theorem dX6_copyFrom_17 : decode cX6_copyFrom 17 = .ok (.if_icmp .ge 21, 3) := by decide +kernel
theorem dX6_copyFrom_20 : decode cX6_copyFrom 20 = .ok (.aload_n 0, 1) := by decide +kernel
theorem dX6_copyFrom_21 : decode cX6_copyFrom 21 = .ok (.getfield 13, 3) := by decide +kernel
theorem dX6_copyFrom_24 : decode cX6_copyFrom 24 = .ok (.iload_n 2, 1) := by decide +kernel
theorem dX6_copyFrom_25 : decode cX6_copyFrom 25 = .ok (.aload_n 1, 1) := by decide +kernel
theorem dX6_copyFrom_26 : decode cX6_copyFrom 26 = .ok (.getfield 13, 3) := by decide +kernel
theorem dX6_copyFrom_29 : decode cX6_copyFrom 29 = .ok (.iload_n 2, 1) := by decide +kernel
theorem dX6_copyFrom_30 : decode cX6_copyFrom 30 = .ok (.iaload, 1) := by decide +kernel
theorem dX6_copyFrom_31 : decode cX6_copyFrom 31 = .ok (.iastore, 1) := by decide +kernel
theorem dX6_copyFrom_32 : decode cX6_copyFrom 32 = .ok (.iinc 2 1, 3) := by decide +kernel
theorem dX6_copyFrom_35 : decode cX6_copyFrom 35 = .ok (.goto (-33), 3) := by decide +kernel
theorem dX6_copyFrom_38 : decode cX6_copyFrom 38 = .ok (.return_, 1) := by decide +kernel
theorem dX7_init_0 : decode cX7_init 0 = .ok (.aload_n 0, 1) := by decide +kernel
theorem dX7_init_1 : decode cX7_init 1 = .ok (.invokespecial 3, 3) := by decide +kernel
theorem dX7_init_4 : decode cX7_init 4 = .ok (.aload_n 0, 1) := by decide +kernel
theorem dX7_init_5 : decode cX7_init 5 = .ok (.new 9, 3) := by decide +kernel
theorem dX7_init_8 : decode cX7_init 8 = .ok (.dup, 1) := by decide +kernel
theorem dX7_init_9 : decode cX7_init 9 = .ok (.invokespecial 11, 3) := by decide +kernel
theorem dX7_init_12 : decode cX7_init 12 = .ok (.putfield 12, 3) := by decide +kernel
theorem dX7_init_15 : decode cX7_init 15 = .ok (.aload_n 0, 1) := by decide +kernel
theorem dX7_init_16 : decode cX7_init 16 = .ok (.new 9, 3) := by decide +kernel
theorem dX7_init_19 : decode cX7_init 19 = .ok (.dup, 1) := by decide +kernel
theorem dX7_init_20 : decode cX7_init 20 = .ok (.invokespecial 11, 3) := by decide +kernel
theorem dX7_init_23 : decode cX7_init 23 = .ok (.putfield 16, 3) := by decide +kernel
theorem dX7_init_26 : decode cX7_init 26 = .ok (.aload_n 0, 1) := by decide +kernel
theorem dX7_init_27 : decode cX7_init 27 = .ok (.new 19, 3) := by decide +kernel
theorem dX7_init_30 : decode cX7_init 30 = .ok (.dup, 1) := by decide +kernel
theorem dX7_init_31 : decode cX7_init 31 = .ok (.invokespecial 21, 3) := by decide +kernel
theorem dX7_init_34 : decode cX7_init 34 = .ok (.putfield 22, 3) := by decide +kernel
theorem dX7_init_37 : decode cX7_init 37 = .ok (.aload_n 0, 1) := by decide +kernel
theorem dX7_init_38 : decode cX7_init 38 = .ok (.iconst 2, 1) := by decide +kernel
theorem dX7_init_39 : decode cX7_init 39 = .ok (.anewarray 9, 3) := by decide +kernel
theorem dX7_init_42 : decode cX7_init 42 = .ok (.putfield 26, 3) := by decide +kernel
theorem dX7_init_45 : decode cX7_init 45 = .ok (.aload_n 0, 1) := by decide +kernel
theorem dX7_init_46 : decode cX7_init 46 = .ok (.new 30, 3) := by decide +kernel
theorem dX7_init_49 : decode cX7_init 49 = .ok (.dup, 1) := by decide +kernel
theorem dX7_init_50 : decode cX7_init 50 = .ok (.bipush 80, 2) := by decide +kernel
theorem dX7_init_52 : decode cX7_init 52 = .ok (.invokespecial 32, 3) := by decide +kernel
theorem dX7_init_55 : decode cX7_init 55 = .ok (.putfield 35, 3) := by decide +kernel
theorem dX7_init_58 : decode cX7_init 58 = .ok (.aload_n 0, 1) := by decide +kernel
theorem dX7_init_59 : decode cX7_init 59 = .ok (.new 30, 3) := by decide +kernel
theorem dX7_init_62 : decode cX7_init 62 = .ok (.dup, 1) := by decide +kernel
theorem dX7_init_63 : decode cX7_init 63 = .ok (.bipush 44, 2) := by decide +kernel
theorem dX7_init_65 : decode cX7_init 65 = .ok (.invokespecial 32, 3) := by decide +kernel
theorem dX7_init_68 : decode cX7_init 68 = .ok (.putfield 39, 3) := by decide +kernel
theorem dX7_init_71 : decode cX7_init 71 = .ok (.return_, 1) := by decide +kernel
theorem dX7_set_0 : decode cX7_set 0 = .ok (.aload_n 0, 1) := by decide +kernel
theorem dX7_set_1 : decode cX7_set 1 = .ok (.getfield 22, 3) := by decide +kernel
theorem dX7_set_4 : decode cX7_set 4 = .ok (.aload_n 0, 1) := by decide +kernel
theorem dX7_set_5 : decode cX7_set 5 = .ok (.getfield 12, 3) := by decide +kernel
theorem dX7_set_8 : decode cX7_set 8 = .ok (.invokevirtual 42, 3) := by decide +kernel
theorem dX7_set_11 : decode cX7_set 11 = .ok (.aload_n 0, 1) := by decide +kernel
theorem dX7_set_12 : decode cX7_set 12 = .ok (.aload_n 0, 1) := by decide +kernel
theorem dX7_set_13 : decode cX7_set 13 = .ok (.getfield 12, 3) := by decide +kernel
theorem dX7_set_16 : decode cX7_set 16 = .ok (.iload_n 1, 1) := by decide +kernel
theorem dX7_set_17 : decode cX7_set 17 = .ok (.iload_n 2, 1) := by decide +kernel
theorem dX7_set_18 : decode cX7_set 18 = .ok (.invokevirtual 46, 3) := by decide +kernel
theorem dX7_set_21 : decode cX7_set 21 = .ok (.invokevirtual 50, 3) := by decide +kernel
theorem dX7_set_24 : decode cX7_set 24 = .ok (.ireturn, 1) := by decide +kernel
theorem dX7_player_0 : decode cX7_player 0 = .ok (.aload_n 0, 1) := by decide +kernel
theorem dX7_player_1 : decode cX7_player 1 = .ok (.getfield 22, 3) := by decide +kernel
theorem dX7_player_4 : decode cX7_player 4 = .ok (.aload_n 0, 1) := by decide +kernel
theorem dX7_player_5 : decode cX7_player 5 = .ok (.getfield 12, 3) := by decide +kernel
theorem dX7_player_8 : decode cX7_player 8 = .ok (.invokevirtual 42, 3) := by decide +kernel
theorem dX7_player_11 : decode cX7_player 11 = .ok (.aload_n 0, 1) := by decide +kernel
theorem dX7_player_12 : decode cX7_player 12 = .ok (.aload_n 0, 1) := by decide +kernel
theorem dX7_player_13 : decode cX7_player 13 = .ok (.getfield 12, 3) := by decide +kernel
theorem dX7_player_16 : decode cX7_player 16 = .ok (.iload_n 1, 1) := by decide +kernel
theorem dX7_player_17 : decode cX7_player 17 = .ok (.invokevirtual 54, 3) := by decide +kernel
theorem dX7_player_20 : decode cX7_player 20 = .ok (.invokevirtual 50, 3) := by decide +kernel
theorem dX7_player_23 : decode cX7_player 23 = .ok (.ireturn, 1) := by decide +kernel
theorem dX7_seed_0 : decode cX7_seed 0 = .ok (.aload_n 0, 1) := by decide +kernel
theorem dX7_seed_1 : decode cX7_seed 1 = .ok (.getfield 22, 3) := by decide +kernel
theorem dX7_seed_4 : decode cX7_seed 4 = .ok (.aload_n 0, 1) := by decide +kernel
theorem dX7_seed_5 : decode cX7_seed 5 = .ok (.getfield 12, 3) := by decide +kernel
theorem dX7_seed_8 : decode cX7_seed 8 = .ok (.invokevirtual 42, 3) := by decide +kernel
theorem dX7_seed_11 : decode cX7_seed 11 = .ok (.aload_n 0, 1) := by decide +kernel
theorem dX7_seed_12 : decode cX7_seed 12 = .ok (.aload_n 0, 1) := by decide +kernel
theorem dX7_seed_13 : decode cX7_seed 13 = .ok (.getfield 12, 3) := by decide +kernel
theorem dX7_seed_16 : decode cX7_seed 16 = .ok (.iload_n 1, 1) := by decide +kernel
theorem dX7_seed_17 : decode cX7_seed 17 = .ok (.invokevirtual 57, 3) := by decide +kernel
theorem dX7_seed_20 : decode cX7_seed 20 = .ok (.invokevirtual 50, 3) := by decide +kernel
theorem dX7_seed_23 : decode cX7_seed 23 = .ok (.ireturn, 1) := by decide +kernel
theorem dX7_go_0 : decode cX7_go 0 = .ok (.aload_n 0, 1) := by decide +kernel
theorem dX7_go_1 : decode cX7_go 1 = .ok (.getfield 22, 3) := by decide +kernel
theorem dX7_go_4 : decode cX7_go 4 = .ok (.aload_n 0, 1) := by decide +kernel
theorem dX7_go_5 : decode cX7_go 5 = .ok (.getfield 12, 3) := by decide +kernel
theorem dX7_go_8 : decode cX7_go 8 = .ok (.invokevirtual 42, 3) := by decide +kernel
theorem dX7_go_11 : decode cX7_go 11 = .ok (.aload_n 0, 1) := by decide +kernel
theorem dX7_go_12 : decode cX7_go 12 = .ok (.aload_n 0, 1) := by decide +kernel
theorem dX7_go_13 : decode cX7_go 13 = .ok (.getfield 12, 3) := by decide +kernel
theorem dX7_go_16 : decode cX7_go 16 = .ok (.iload_n 1, 1) := by decide +kernel
theorem dX7_go_17 : decode cX7_go 17 = .ok (.invokevirtual 60, 3) := by decide +kernel
theorem dX7_go_20 : decode cX7_go 20 = .ok (.invokevirtual 50, 3) := by decide +kernel
theorem dX7_go_23 : decode cX7_go 23 = .ok (.ireturn, 1) := by decide +kernel
theorem dX7_clear_0 : decode cX7_clear 0 = .ok (.aload_n 0, 1) := by decide +kernel
theorem dX7_clear_1 : decode cX7_clear 1 = .ok (.getfield 22, 3) := by decide +kernel
theorem dX7_clear_4 : decode cX7_clear 4 = .ok (.aload_n 0, 1) := by decide +kernel
theorem dX7_clear_5 : decode cX7_clear 5 = .ok (.getfield 12, 3) := by decide +kernel
theorem dX7_clear_8 : decode cX7_clear 8 = .ok (.invokevirtual 42, 3) := by decide +kernel
theorem dX7_clear_11 : decode cX7_clear 11 = .ok (.aload_n 0, 1) := by decide +kernel
theorem dX7_clear_12 : decode cX7_clear 12 = .ok (.aload_n 0, 1) := by decide +kernel
theorem dX7_clear_13 : decode cX7_clear 13 = .ok (.getfield 12, 3) := by decide +kernel
theorem dX7_clear_16 : decode cX7_clear 16 = .ok (.iload_n 1, 1) := by decide +kernel
theorem dX7_clear_17 : decode cX7_clear 17 = .ok (.invokevirtual 63, 3) := by decide +kernel
theorem dX7_clear_20 : decode cX7_clear 20 = .ok (.invokevirtual 50, 3) := by decide +kernel
theorem dX7_clear_23 : decode cX7_clear 23 = .ok (.ireturn, 1) := by decide +kernel
theorem dX7_changed_0 : decode cX7_changed 0 = .ok (.iload_n 1, 1) := by decide +kernel
theorem dX7_changed_1 : decode cX7_changed 1 = .ok (.ifCond .lt 10, 3) := by decide +kernel
theorem dX7_changed_4 : decode cX7_changed 4 = .ok (.aload_n 0, 1) := by decide +kernel
theorem dX7_changed_5 : decode cX7_changed 5 = .ok (.getfield 22, 3) := by decide +kernel
theorem dX7_changed_8 : decode cX7_changed 8 = .ok (.invokevirtual 66, 3) := by decide +kernel
theorem dX7_changed_11 : decode cX7_changed 11 = .ok (.iload_n 1, 1) := by decide +kernel
theorem dX7_changed_12 : decode cX7_changed 12 = .ok (.ireturn, 1) := by decide +kernel
theorem dX7_of_0 : decode cX7_of 0 = .ok (.aload_n 0, 1) := by decide +kernel
theorem dX7_of_1 : decode cX7_of 1 = .ok (.getfield 12, 3) := by decide +kernel
theorem dX7_of_4 : decode cX7_of 4 = .ok (.iload_n 1, 1) := by decide +kernel
theorem dX7_of_5 : decode cX7_of 5 = .ok (.invokevirtual 69, 3) := by decide +kernel
theorem dX7_of_8 : decode cX7_of 8 = .ok (.ifCond .eq 15, 3) := by decide +kernel
theorem dX7_of_11 : decode cX7_of 11 = .ok (.aload_n 0, 1) := by decide +kernel
theorem dX7_of_12 : decode cX7_of 12 = .ok (.getfield 12, 3) := by decide +kernel
theorem dX7_of_15 : decode cX7_of 15 = .ok (.iload_n 1, 1) := by decide +kernel
theorem dX7_of_16 : decode cX7_of 16 = .ok (.iload_n 2, 1) := by decide +kernel
theorem dX7_of_17 : decode cX7_of 17 = .ok (.invokevirtual 73, 3) := by decide +kernel
theorem dX7_of_20 : decode cX7_of 20 = .ok (.goto 4, 3) := by decide +kernel
theorem dX7_of_23 : decode cX7_of 23 = .ok (.iconst (-1), 1) := by decide +kernel
theorem dX7_of_24 : decode cX7_of 24 = .ok (.ireturn, 1) := by decide +kernel
theorem dX7_ofSquare_0 : decode cX7_ofSquare 0 = .ok (.iload_n 1, 1) := by decide +kernel
theorem dX7_ofSquare_1 : decode cX7_ofSquare 1 = .ok (.ifCond .lt 21, 3) := by decide +kernel
theorem dX7_ofSquare_4 : decode cX7_ofSquare 4 = .ok (.iload_n 1, 1) := by decide +kernel
theorem dX7_ofSquare_5 : decode cX7_ofSquare 5 = .ok (.bipush 20, 2) := by decide +kernel
theorem dX7_ofSquare_7 : decode cX7_ofSquare 7 = .ok (.if_icmp .ge 15, 3) := by decide +kernel
theorem dX7_ofSquare_10 : decode cX7_ofSquare 10 = .ok (.aload_n 0, 1) := by decide +kernel
theorem dX7_ofSquare_11 : decode cX7_ofSquare 11 = .ok (.getfield 12, 3) := by decide +kernel
theorem dX7_ofSquare_14 : decode cX7_ofSquare 14 = .ok (.iload_n 1, 1) := by decide +kernel
theorem dX7_ofSquare_15 : decode cX7_ofSquare 15 = .ok (.iload_n 2, 1) := by decide +kernel
theorem dX7_ofSquare_16 : decode cX7_ofSquare 16 = .ok (.invokevirtual 76, 3) := by decide +kernel
theorem dX7_ofSquare_19 : decode cX7_ofSquare 19 = .ok (.goto 4, 3) := by decide +kernel
theorem dX7_ofSquare_22 : decode cX7_ofSquare 22 = .ok (.iconst (-1), 1) := by decide +kernel
theorem dX7_ofSquare_23 : decode cX7_ofSquare 23 = .ok (.ireturn, 1) := by decide +kernel
theorem dX7_owes_0 : decode cX7_owes 0 = .ok (.aload_n 0, 1) := by decide +kernel
theorem dX7_owes_1 : decode cX7_owes 1 = .ok (.getfield 12, 3) := by decide +kernel
theorem dX7_owes_4 : decode cX7_owes 4 = .ok (.iload_n 1, 1) := by decide +kernel
theorem dX7_owes_5 : decode cX7_owes 5 = .ok (.invokevirtual 69, 3) := by decide +kernel
theorem dX7_owes_8 : decode cX7_owes 8 = .ok (.ifCond .eq 14, 3) := by decide +kernel
theorem dX7_owes_11 : decode cX7_owes 11 = .ok (.aload_n 0, 1) := by decide +kernel
theorem dX7_owes_12 : decode cX7_owes 12 = .ok (.getfield 12, 3) := by decide +kernel
theorem dX7_owes_15 : decode cX7_owes 15 = .ok (.iload_n 2, 1) := by decide +kernel
theorem dX7_owes_16 : decode cX7_owes 16 = .ok (.invokevirtual 69, 3) := by decide +kernel
theorem dX7_owes_19 : decode cX7_owes 19 = .ok (.ifCond .ne 5, 3) := by decide +kernel
theorem dX7_owes_22 : decode cX7_owes 22 = .ok (.iconst (-1), 1) := by decide +kernel
theorem dX7_owes_23 : decode cX7_owes 23 = .ok (.ireturn, 1) := by decide +kernel
theorem dX7_owes_24 : decode cX7_owes 24 = .ok (.iload_n 3, 1) := by decide +kernel
theorem dX7_owes_25 : decode cX7_owes 25 = .ok (.ifCond .lt 13, 3) := by decide +kernel
theorem dX7_owes_28 : decode cX7_owes 28 = .ok (.iload_n 3, 1) := by decide +kernel
theorem dX7_owes_29 : decode cX7_owes 29 = .ok (.iconst 1, 1) := by decide +kernel
theorem dX7_owes_30 : decode cX7_owes 30 = .ok (.if_icmp .gt 8, 3) := by decide +kernel
theorem dX7_owes_33 : decode cX7_owes 33 = .ok (.iload_n 1, 1) := by decide +kernel
theorem dX7_owes_34 : decode cX7_owes 34 = .ok (.iload_n 2, 1) := by decide +kernel
