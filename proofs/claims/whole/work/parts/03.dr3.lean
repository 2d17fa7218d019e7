theorem dX6_sum_0 : decode cX6_sum 0 = .ok (.iconst 0, 1) := by decide +kernel
theorem dX6_sum_1 : decode cX6_sum 1 = .ok (.istore_n 1, 1) := by decide +kernel
theorem dX6_sum_2 : decode cX6_sum 2 = .ok (.iconst 0, 1) := by decide +kernel
theorem dX6_sum_3 : decode cX6_sum 3 = .ok (.istore_n 2, 1) := by decide +kernel
theorem dX6_sum_4 : decode cX6_sum 4 = .ok (.iload_n 2, 1) := by decide +kernel
theorem dX6_sum_5 : decode cX6_sum 5 = .ok (.aload_n 0, 1) := by decide +kernel
theorem dX6_sum_6 : decode cX6_sum 6 = .ok (.getfield 13, 3) := by decide +kernel
theorem dX6_sum_9 : decode cX6_sum 9 = .ok (.arraylength, 1) := by decide +kernel
theorem dX6_sum_10 : decode cX6_sum 10 = .ok (.if_icmp .ge 18, 3) := by decide +kernel
theorem dX6_sum_13 : decode cX6_sum 13 = .ok (.iload_n 1, 1) := by decide +kernel
theorem dX6_sum_14 : decode cX6_sum 14 = .ok (.aload_n 0, 1) := by decide +kernel
theorem dX6_sum_15 : decode cX6_sum 15 = .ok (.getfield 13, 3) := by decide +kernel
theorem dX6_sum_18 : decode cX6_sum 18 = .ok (.iload_n 2, 1) := by decide +kernel
theorem dX6_sum_19 : decode cX6_sum 19 = .ok (.iaload, 1) := by decide +kernel
theorem dX6_sum_20 : decode cX6_sum 20 = .ok (.iadd, 1) := by decide +kernel
theorem dX6_sum_21 : decode cX6_sum 21 = .ok (.istore_n 1, 1) := by decide +kernel
theorem dX6_sum_22 : decode cX6_sum 22 = .ok (.iinc 2 1, 3) := by decide +kernel
theorem dX6_sum_25 : decode cX6_sum 25 = .ok (.goto (-21), 3) := by decide +kernel
theorem dX6_sum_28 : decode cX6_sum 28 = .ok (.iload_n 1, 1) := by decide +kernel
theorem dX6_sum_29 : decode cX6_sum 29 = .ok (.ireturn, 1) := by decide +kernel
theorem dX6_copyFrom_0 : decode cX6_copyFrom 0 = .ok (.iconst 0, 1) := by decide +kernel
theorem dX6_copyFrom_1 : decode cX6_copyFrom 1 = .ok (.istore_n 2, 1) := by decide +kernel
theorem dX6_copyFrom_2 : decode cX6_copyFrom 2 = .ok (.iload_n 2, 1) := by decide +kernel
theorem dX6_copyFrom_3 : decode cX6_copyFrom 3 = .ok (.aload_n 0, 1) := by decide +kernel
theorem dX6_copyFrom_4 : decode cX6_copyFrom 4 = .ok (.getfield 13, 3) := by decide +kernel
theorem dX6_copyFrom_7 : decode cX6_copyFrom 7 = .ok (.arraylength, 1) := by decide +kernel
theorem dX6_copyFrom_8 : decode cX6_copyFrom 8 = .ok (.if_icmp .ge 30, 3) := by decide +kernel
theorem dX6_copyFrom_11 : decode cX6_copyFrom 11 = .ok (.iload_n 2, 1) := by decide +kernel
theorem dX6_copyFrom_12 : decode cX6_copyFrom 12 = .ok (.aload_n 1, 1) := by decide +kernel
theorem dX6_copyFrom_13 : decode cX6_copyFrom 13 = .ok (.getfield 13, 3) := by decide +kernel
theorem dX6_copyFrom_16 : decode cX6_copyFrom 16 = .ok (.arraylength, 1) := by decide +kernel
theorem dX6_copyFrom_17 : decode cX6_copyFrom 17 = .ok (.if_icmp .ge 21, 3) := by decide +kernel
theorem dX6_copyFrom_20 : decode cX6_copyFrom 20 = .ok (.aload_n 0, 1) := by decide +kernel
theorem dX6_copyFrom_21 : decode cX6_copyFrom 21 = .ok (.getfield 13, 3) := by decide +kernel
theorem dX6_copyFrom_24 : decode cX6_copyFrom 24 = .ok (.iload_n 2, 1) := by decide +kernel
theorem dX6_copyFrom_25 : decode cX6_copyFrom 25 = .ok (.aload_n 1, 1) := by decide +kernel
theorem dX6_copyFrom_26 : decode cX6_copyFrom 26 = .ok (.getfield 13, 3) := by decide +kernel
theorem dX6_copyFrom_29 : decode cX6_copyFrom 29 = .ok (.iload_n 2, 1) := by decide +kernel
theorem dX6_copyFrom_30 : decode cX6_copyFrom 30 = .ok (.iaload, 1) := by decide +kernel
theorem dX6_copyFrom_31 : decode cX6_copyFrom 31 = .ok (.iastore, 1) := by decide +kernel
theorem dX6_copyFrom_32 : decode cX6_copyFrom 32 = .ok (.iinc 2 1, 3) := by decide +kernel
theorem dX6_copyFrom_35 : decode cX6_copyFrom 35 = .ok (.goto (-33), 3) := by decide +kernel
theorem dX6_copyFrom_38 : decode cX6_copyFrom 38 = .ok (.return_, 1) := by decide +kernel
theorem dX7_init_0 : decode cX7_init 0 = .ok (.aload_n 0, 1) := by decide +kernel
theorem dX7_init_1 : decode cX7_init 1 = .ok (.invokespecial 3, 3) := by decide +kernel
theorem dX7_init_4 : decode cX7_init 4 = .ok (.aload_n 0, 1) := by decide +kernel
theorem dX7_init_5 : decode cX7_init 5 = .ok (.new 9, 3) := by decide +kernel
theorem dX7_init_8 : decode cX7_init 8 = .ok (.dup, 1) := by decide +kernel
theorem dX7_init_9 : decode cX7_init 9 = .ok (.invokespecial 11, 3) := by decide +kernel
theorem dX7_init_12 : decode cX7_init 12 = .ok (.putfield 12, 3) := by decide +kernel
theorem dX7_init_15 : decode cX7_init 15 = .ok (.aload_n 0, 1) := by decide +kernel
theorem dX7_init_16 : decode cX7_init 16 = .ok (.new 9, 3) := by decide +kernel
theorem dX7_init_19 : decode cX7_init 19 = .ok (.dup, 1) := by decide +kernel
theorem dX7_init_20 : decode cX7_init 20 = .ok (.invokespecial 11, 3) := by decide +kernel
theorem dX7_init_23 : decode cX7_init 23 = .ok (.putfield 16, 3) := by decide +kernel
theorem dX7_init_26 : decode cX7_init 26 = .ok (.aload_n 0, 1) := by decide +kernel
theorem dX7_init_27 : decode cX7_init 27 = .ok (.new 19, 3) := by decide +kernel
theorem dX7_init_30 : decode cX7_init 30 = .ok (.dup, 1) := by decide +kernel
theorem dX7_init_31 : decode cX7_init 31 = .ok (.invokespecial 21, 3) := by decide +kernel
theorem dX7_init_34 : decode cX7_init 34 = .ok (.putfield 22, 3) := by decide +kernel
theorem dX7_init_37 : decode cX7_init 37 = .ok (.aload_n 0, 1) := by decide +kernel
theorem dX7_init_38 : decode cX7_init 38 = .ok (.iconst 2, 1) := by decide +kernel
theorem dX7_init_39 : decode cX7_init 39 = .ok (.anewarray 9, 3) := by decide +kernel
theorem dX7_init_42 : decode cX7_init 42 = .ok (.putfield 26, 3) := by decide +kernel
theorem dX7_init_45 : decode cX7_init 45 = .ok (.aload_n 0, 1) := by decide +kernel
theorem dX7_init_46 : decode cX7_init 46 = .ok (.new 30, 3) := by decide +kernel
theorem dX7_init_49 : decode cX7_init 49 = .ok (.dup, 1) := by decide +kernel
theorem dX7_init_50 : decode cX7_init 50 = .ok (.bipush 80, 2) := by decide +kernel
theorem dX7_init_52 : decode cX7_init 52 = .ok (.invokespecial 32, 3) := by decide +kernel
theorem dX7_init_55 : decode cX7_init 55 = .ok (.putfield 35, 3) := by decide +kernel
theorem dX7_init_58 : decode cX7_init 58 = .ok (.aload_n 0, 1) := by decide +kernel
theorem dX7_init_59 : decode cX7_init 59 = .ok (.new 30, 3) := by decide +kernel
theorem dX7_init_62 : decode cX7_init 62 = .ok (.dup, 1) := by decide +kernel
theorem dX7_init_63 : decode cX7_init 63 = .ok (.bipush 44, 2) := by decide +kernel
theorem dX7_init_65 : decode cX7_init 65 = .ok (.invokespecial 32, 3) := by decide +kernel
theorem dX7_init_68 : decode cX7_init 68 = .ok (.putfield 39, 3) := by decide +kernel
theorem dX7_init_71 : decode cX7_init 71 = .ok (.return_, 1) := by decide +kernel
theorem dX7_set_0 : decode cX7_set 0 = .ok (.aload_n 0, 1) := by decide +kernel
theorem dX7_set_1 : decode cX7_set 1 = .ok (.getfield 22, 3) := by decide +kernel
theorem dX7_set_4 : decode cX7_set 4 = .ok (.aload_n 0, 1) := by decide +kernel
theorem dX7_set_5 : decode cX7_set 5 = .ok (.getfield 12, 3) := by decide +kernel
theorem dX7_set_8 : decode cX7_set 8 = .ok (.invokevirtual 42, 3) := by decide +kernel
theorem dX7_set_11 : decode cX7_set 11 = .ok (.aload_n 0, 1) := by decide +kernel
theorem dX7_set_12 : decode cX7_set 12 = .ok (.aload_n 0, 1) := by decide +kernel
theorem dX7_set_13 : decode cX7_set 13 = .ok (.getfield 12, 3) := by decide +kernel
theorem dX7_set_16 : decode cX7_set 16 = .ok (.iload_n 1, 1) := by decide +kernel
theorem dX7_set_17 : decode cX7_set 17 = .ok (.iload_n 2, 1) := by decide +kernel
theorem dX7_set_18 : decode cX7_set 18 = .ok (.invokevirtual 46, 3) := by decide +kernel
theorem dX7_set_21 : decode cX7_set 21 = .ok (.invokevirtual 50, 3) := by decide +kernel
theorem dX7_set_24 : decode cX7_set 24 = .ok (.ireturn, 1) := by decide +kernel
theorem dX7_player_0 : decode cX7_player 0 = .ok (.aload_n 0, 1) := by decide +kernel
theorem dX7_player_1 : decode cX7_player 1 = .ok (.getfield 22, 3) := by decide +kernel
theorem dX7_player_4 : decode cX7_player 4 = .ok (.aload_n 0, 1) := by decide +kernel
theorem dX7_player_5 : decode cX7_player 5 = .ok (.getfield 12, 3) := by decide +kernel
theorem dX7_player_8 : decode cX7_player 8 = .ok (.invokevirtual 42, 3) := by decide +kernel
theorem dX7_player_11 : decode cX7_player 11 = .ok (.aload_n 0, 1) := by decide +kernel
theorem dX7_player_12 : decode cX7_player 12 = .ok (.aload_n 0, 1) := by decide +kernel
theorem dX7_player_13 : decode cX7_player 13 = .ok (.getfield 12, 3) := by decide +kernel
theorem dX7_player_16 : decode cX7_player 16 = .ok (.iload_n 1, 1) := by decide +kernel
theorem dX7_player_17 : decode cX7_player 17 = .ok (.invokevirtual 54, 3) := by decide +kernel
theorem dX7_player_20 : decode cX7_player 20 = .ok (.invokevirtual 50, 3) := by decide +kernel
theorem dX7_player_23 : decode cX7_player 23 = .ok (.ireturn, 1) := by decide +kernel
theorem dX7_seed_0 : decode cX7_seed 0 = .ok (.aload_n 0, 1) := by decide +kernel
theorem dX7_seed_1 : decode cX7_seed 1 = .ok (.getfield 22, 3) := by decide +kernel
theorem dX7_seed_4 : decode cX7_seed 4 = .ok (.aload_n 0, 1) := by decide +kernel
theorem dX7_seed_5 : decode cX7_seed 5 = .ok (.getfield 12, 3) := by decide +kernel
theorem dX7_seed_8 : decode cX7_seed 8 = .ok (.invokevirtual 42, 3) := by decide +kernel
theorem dX7_seed_11 : decode cX7_seed 11 = .ok (.aload_n 0, 1) := by decide +kernel
theorem dX7_seed_12 : decode cX7_seed 12 = .ok (.aload_n 0, 1) := by decide +kernel
theorem dX7_seed_13 : decode cX7_seed 13 = .ok (.getfield 12, 3) := by decide +kernel
theorem dX7_seed_16 : decode cX7_seed 16 = .ok (.iload_n 1, 1) := by decide +kernel
theorem dX7_seed_17 : decode cX7_seed 17 = .ok (.invokevirtual 57, 3) := by decide +kernel
theorem dX7_seed_20 : decode cX7_seed 20 = .ok (.invokevirtual 50, 3) := by decide +kernel
theorem dX7_seed_23 : decode cX7_seed 23 = .ok (.ireturn, 1) := by decide +kernel
theorem dX7_go_0 : decode cX7_go 0 = .ok (.aload_n 0, 1) := by decide +kernel
theorem dX7_go_1 : decode cX7_go 1 = .ok (.getfield 22, 3) := by decide +kernel
theorem dX7_go_4 : decode cX7_go 4 = .ok (.aload_n 0, 1) := by decide +kernel
theorem dX7_go_5 : decode cX7_go 5 = .ok (.getfield 12, 3) := by decide +kernel
theorem dX7_go_8 : decode cX7_go 8 = .ok (.invokevirtual 42, 3) := by decide +kernel
theorem dX7_go_11 : decode cX7_go 11 = .ok (.aload_n 0, 1) := by decide +kernel
theorem dX7_go_12 : decode cX7_go 12 = .ok (.aload_n 0, 1) := by decide +kernel
theorem dX7_go_13 : decode cX7_go 13 = .ok (.getfield 12, 3) := by decide +kernel
theorem dX7_go_16 : decode cX7_go 16 = .ok (.iload_n 1, 1) := by decide +kernel
theorem dX7_go_17 : decode cX7_go 17 = .ok (.invokevirtual 60, 3) := by decide +kernel
theorem dX7_go_20 : decode cX7_go 20 = .ok (.invokevirtual 50, 3) := by decide +kernel
theorem dX7_go_23 : decode cX7_go 23 = .ok (.ireturn, 1) := by decide +kernel
theorem dX7_clear_0 : decode cX7_clear 0 = .ok (.aload_n 0, 1) := by decide +kernel
theorem dX7_clear_1 : decode cX7_clear 1 = .ok (.getfield 22, 3) := by decide +kernel
theorem dX7_clear_4 : decode cX7_clear 4 = .ok (.aload_n 0, 1) := by decide +kernel
theorem dX7_clear_5 : decode cX7_clear 5 = .ok (.getfield 12, 3) := by decide +kernel
theorem dX7_clear_8 : decode cX7_clear 8 = .ok (.invokevirtual 42, 3) := by decide +kernel
theorem dX7_clear_11 : decode cX7_clear 11 = .ok (.aload_n 0, 1) := by decide +kernel
theorem dX7_clear_12 : decode cX7_clear 12 = .ok (.aload_n 0, 1) := by decide +kernel
theorem dX7_clear_13 : decode cX7_clear 13 = .ok (.getfield 12, 3) := by decide +kernel
theorem dX7_clear_16 : decode cX7_clear 16 = .ok (.iload_n 1, 1) := by decide +kernel
theorem dX7_clear_17 : decode cX7_clear 17 = .ok (.invokevirtual 63, 3) := by decide +kernel
theorem dX7_clear_20 : decode cX7_clear 20 = .ok (.invokevirtual 50, 3) := by decide +kernel
theorem dX7_clear_23 : decode cX7_clear 23 = .ok (.ireturn, 1) := by decide +kernel
theorem dX7_changed_0 : decode cX7_changed 0 = .ok (.iload_n 1, 1) := by decide +kernel
theorem dX7_changed_1 : decode cX7_changed 1 = .ok (.ifCond .lt 10, 3) := by decide +kernel
theorem dX7_changed_4 : decode cX7_changed 4 = .ok (.aload_n 0, 1) := by decide +kernel
theorem dX7_changed_5 : decode cX7_changed 5 = .ok (.getfield 22, 3) := by decide +kernel
theorem dX7_changed_8 : decode cX7_changed 8 = .ok (.invokevirtual 66, 3) := by decide +kernel
theorem dX7_changed_11 : decode cX7_changed 11 = .ok (.iload_n 1, 1) := by decide +kernel
theorem dX7_changed_12 : decode cX7_changed 12 = .ok (.ireturn, 1) := by decide +kernel
theorem dX7_of_0 : decode cX7_of 0 = .ok (.aload_n 0, 1) := by decide +kernel
theorem dX7_of_1 : decode cX7_of 1 = .ok (.getfield 12, 3) := by decide +kernel
theorem dX7_of_4 : decode cX7_of 4 = .ok (.iload_n 1, 1) := by decide +kernel
theorem dX7_of_5 : decode cX7_of 5 = .ok (.invokevirtual 69, 3) := by decide +kernel
theorem dX7_of_8 : decode cX7_of 8 = .ok (.ifCond .eq 15, 3) := by decide +kernel
theorem dX7_of_11 : decode cX7_of 11 = .ok (.aload_n 0, 1) := by decide +kernel
theorem dX7_of_12 : decode cX7_of 12 = .ok (.getfield 12, 3) := by decide +kernel
theorem dX7_of_15 : decode cX7_of 15 = .ok (.iload_n 1, 1) := by decide +kernel
theorem dX7_of_16 : decode cX7_of 16 = .ok (.iload_n 2, 1) := by decide +kernel
theorem dX7_of_17 : decode cX7_of 17 = .ok (.invokevirtual 73, 3) := by decide +kernel
theorem dX7_of_20 : decode cX7_of 20 = .ok (.goto 4, 3) := by decide +kernel
theorem dX7_of_23 : decode cX7_of 23 = .ok (.iconst (-1), 1) := by decide +kernel
theorem dX7_of_24 : decode cX7_of 24 = .ok (.ireturn, 1) := by decide +kernel
theorem dX7_ofSquare_0 : decode cX7_ofSquare 0 = .ok (.iload_n 1, 1) := by decide +kernel
theorem dX7_ofSquare_1 : decode cX7_ofSquare 1 = .ok (.ifCond .lt 21, 3) := by decide +kernel
theorem dX7_ofSquare_4 : decode cX7_ofSquare 4 = .ok (.iload_n 1, 1) := by decide +kernel
theorem dX7_ofSquare_5 : decode cX7_ofSquare 5 = .ok (.bipush 20, 2) := by decide +kernel
theorem dX7_ofSquare_7 : decode cX7_ofSquare 7 = .ok (.if_icmp .ge 15, 3) := by decide +kernel
theorem dX7_ofSquare_10 : decode cX7_ofSquare 10 = .ok (.aload_n 0, 1) := by decide +kernel
theorem dX7_ofSquare_11 : decode cX7_ofSquare 11 = .ok (.getfield 12, 3) := by decide +kernel
theorem dX7_ofSquare_14 : decode cX7_ofSquare 14 = .ok (.iload_n 1, 1) := by decide +kernel
theorem dX7_ofSquare_15 : decode cX7_ofSquare 15 = .ok (.iload_n 2, 1) := by decide +kernel
theorem dX7_ofSquare_16 : decode cX7_ofSquare 16 = .ok (.invokevirtual 76, 3) := by decide +kernel
theorem dX7_ofSquare_19 : decode cX7_ofSquare 19 = .ok (.goto 4, 3) := by decide +kernel
theorem dX7_ofSquare_22 : decode cX7_ofSquare 22 = .ok (.iconst (-1), 1) := by decide +kernel
theorem dX7_ofSquare_23 : decode cX7_ofSquare 23 = .ok (.ireturn, 1) := by decide +kernel
theorem dX7_owes_0 : decode cX7_owes 0 = .ok (.aload_n 0, 1) := by decide +kernel
theorem dX7_owes_1 : decode cX7_owes 1 = .ok (.getfield 12, 3) := by decide +kernel
theorem dX7_owes_4 : decode cX7_owes 4 = .ok (.iload_n 1, 1) := by decide +kernel
theorem dX7_owes_5 : decode cX7_owes 5 = .ok (.invokevirtual 69, 3) := by decide +kernel
theorem dX7_owes_8 : decode cX7_owes 8 = .ok (.ifCond .eq 14, 3) := by decide +kernel
theorem dX7_owes_11 : decode cX7_owes 11 = .ok (.aload_n 0, 1) := by decide +kernel
theorem dX7_owes_12 : decode cX7_owes 12 = .ok (.getfield 12, 3) := by decide +kernel
theorem dX7_owes_15 : decode cX7_owes 15 = .ok (.iload_n 2, 1) := by decide +kernel
theorem dX7_owes_16 : decode cX7_owes 16 = .ok (.invokevirtual 69, 3) := by decide +kernel
theorem dX7_owes_19 : decode cX7_owes 19 = .ok (.ifCond .ne 5, 3) := by decide +kernel
theorem dX7_owes_22 : decode cX7_owes 22 = .ok (.iconst (-1), 1) := by decide +kernel
theorem dX7_owes_23 : decode cX7_owes 23 = .ok (.ireturn, 1) := by decide +kernel
theorem dX7_owes_24 : decode cX7_owes 24 = .ok (.iload_n 3, 1) := by decide +kernel
theorem dX7_owes_25 : decode cX7_owes 25 = .ok (.ifCond .lt 13, 3) := by decide +kernel
theorem dX7_owes_28 : decode cX7_owes 28 = .ok (.iload_n 3, 1) := by decide +kernel
theorem dX7_owes_29 : decode cX7_owes 29 = .ok (.iconst 1, 1) := by decide +kernel
theorem dX7_owes_30 : decode cX7_owes 30 = .ok (.if_icmp .gt 8, 3) := by decide +kernel
theorem dX7_owes_33 : decode cX7_owes 33 = .ok (.iload_n 1, 1) := by decide +kernel
theorem dX7_owes_34 : decode cX7_owes 34 = .ok (.iload_n 2, 1) := by decide +kernel
theorem dX7_owes_35 : decode cX7_owes 35 = .ok (.if_icmp .ne 6, 3) := by decide +kernel
theorem dX7_owes_38 : decode cX7_owes 38 = .ok (.bipush (-2), 2) := by decide +kernel
theorem dX7_owes_40 : decode cX7_owes 40 = .ok (.ireturn, 1) := by decide +kernel
theorem dX7_owes_41 : decode cX7_owes 41 = .ok (.iload_n 3, 1) := by decide +kernel
theorem dX7_owes_42 : decode cX7_owes 42 = .ok (.ifCond .ne 18, 3) := by decide +kernel
theorem dX7_owes_45 : decode cX7_owes 45 = .ok (.aload_n 0, 1) := by decide +kernel
theorem dX7_owes_46 : decode cX7_owes 46 = .ok (.getfield 12, 3) := by decide +kernel
theorem dX7_owes_49 : decode cX7_owes 49 = .ok (.getfield 79, 3) := by decide +kernel
theorem dX7_owes_52 : decode cX7_owes 52 = .ok (.iload_n 1, 1) := by decide +kernel
theorem dX7_owes_53 : decode cX7_owes 53 = .ok (.iload_n 2, 1) := by decide +kernel
theorem dX7_owes_54 : decode cX7_owes 54 = .ok (.invokevirtual 83, 3) := by decide +kernel
theorem dX7_owes_57 : decode cX7_owes 57 = .ok (.goto 15, 3) := by decide +kernel
theorem dX7_owes_60 : decode cX7_owes 60 = .ok (.aload_n 0, 1) := by decide +kernel
theorem dX7_owes_61 : decode cX7_owes 61 = .ok (.getfield 12, 3) := by decide +kernel
theorem dX7_owes_64 : decode cX7_owes 64 = .ok (.getfield 79, 3) := by decide +kernel
theorem dX7_owes_67 : decode cX7_owes 67 = .ok (.iload_n 1, 1) := by decide +kernel
theorem dX7_owes_68 : decode cX7_owes 68 = .ok (.iload_n 2, 1) := by decide +kernel
theorem dX7_owes_69 : decode cX7_owes 69 = .ok (.invokevirtual 88, 3) := by decide +kernel
theorem dX7_owes_72 : decode cX7_owes 72 = .ok (.ireturn, 1) := by decide +kernel
theorem dX7_count_0 : decode cX7_count 0 = .ok (.iload_n 1, 1) := by decide +kernel
theorem dX7_count_1 : decode cX7_count 1 = .ok (.tableswitch 62 14 16 #[27, 46, 54], 27) := by decide +kernel
theorem dX7_count_28 : decode cX7_count 28 = .ok (.aload_n 0, 1) := by decide +kernel
theorem dX7_count_29 : decode cX7_count 29 = .ok (.getfield 12, 3) := by decide +kernel
theorem dX7_count_32 : decode cX7_count 32 = .ok (.aload_n 0, 1) := by decide +kernel
theorem dX7_count_33 : decode cX7_count 33 = .ok (.getfield 39, 3) := by decide +kernel
theorem dX7_count_36 : decode cX7_count 36 = .ok (.invokevirtual 91, 3) := by decide +kernel
theorem dX7_count_39 : decode cX7_count 39 = .ok (.aload_n 0, 1) := by decide +kernel
theorem dX7_count_40 : decode cX7_count 40 = .ok (.getfield 39, 3) := by decide +kernel
theorem dX7_count_43 : decode cX7_count 43 = .ok (.invokevirtual 95, 3) := by decide +kernel
theorem dX7_count_46 : decode cX7_count 46 = .ok (.ireturn, 1) := by decide +kernel
theorem dX7_count_47 : decode cX7_count 47 = .ok (.aload_n 0, 1) := by decide +kernel
theorem dX7_count_48 : decode cX7_count 48 = .ok (.getfield 35, 3) := by decide +kernel
theorem dX7_count_51 : decode cX7_count 51 = .ok (.invokevirtual 95, 3) := by decide +kernel
theorem dX7_count_54 : decode cX7_count 54 = .ok (.ireturn, 1) := by decide +kernel
theorem dX7_count_55 : decode cX7_count 55 = .ok (.aload_n 0, 1) := by decide +kernel
theorem dX7_count_56 : decode cX7_count 56 = .ok (.getfield 22, 3) := by decide +kernel
theorem dX7_count_59 : decode cX7_count 59 = .ok (.invokevirtual 99, 3) := by decide +kernel
theorem dX7_count_62 : decode cX7_count 62 = .ok (.ireturn, 1) := by decide +kernel
theorem dX7_count_63 : decode cX7_count 63 = .ok (.aload_n 0, 1) := by decide +kernel
theorem dX7_count_64 : decode cX7_count 64 = .ok (.getfield 12, 3) := by decide +kernel
theorem dX7_count_67 : decode cX7_count 67 = .ok (.iload_n 1, 1) := by decide +kernel
theorem dX7_count_68 : decode cX7_count 68 = .ok (.invokevirtual 102, 3) := by decide +kernel
theorem dX7_count_71 : decode cX7_count 71 = .ok (.ireturn, 1) := by decide +kernel
theorem dX7_sign_0 : decode cX7_sign 0 = .ok (.aload_n 0, 1) := by decide +kernel
theorem dX7_sign_1 : decode cX7_sign 1 = .ok (.getfield 12, 3) := by decide +kernel
theorem dX7_sign_4 : decode cX7_sign 4 = .ok (.aload_n 0, 1) := by decide +kernel
theorem dX7_sign_5 : decode cX7_sign 5 = .ok (.getfield 39, 3) := by decide +kernel
theorem dX7_sign_8 : decode cX7_sign 8 = .ok (.invokevirtual 91, 3) := by decide +kernel
theorem dX7_sign_11 : decode cX7_sign 11 = .ok (.aload_n 0, 1) := by decide +kernel
theorem dX7_sign_12 : decode cX7_sign 12 = .ok (.getfield 39, 3) := by decide +kernel
theorem dX7_sign_15 : decode cX7_sign 15 = .ok (.iload_n 1, 1) := by decide +kernel
theorem dX7_sign_16 : decode cX7_sign 16 = .ok (.invokevirtual 105, 3) := by decide +kernel
theorem dX7_sign_19 : decode cX7_sign 19 = .ok (.ireturn, 1) := by decide +kernel
theorem dX7_chain_0 : decode cX7_chain 0 = .ok (.aload_n 0, 1) := by decide +kernel
theorem dX7_chain_1 : decode cX7_chain 1 = .ok (.getfield 12, 3) := by decide +kernel
theorem dX7_chain_4 : decode cX7_chain 4 = .ok (.iload_n 1, 1) := by decide +kernel
theorem dX7_chain_5 : decode cX7_chain 5 = .ok (.invokevirtual 69, 3) := by decide +kernel
theorem dX7_chain_8 : decode cX7_chain 8 = .ok (.ifCond .eq 14, 3) := by decide +kernel
theorem dX7_chain_11 : decode cX7_chain 11 = .ok (.aload_n 0, 1) := by decide +kernel
theorem dX7_chain_12 : decode cX7_chain 12 = .ok (.getfield 12, 3) := by decide +kernel
theorem dX7_chain_15 : decode cX7_chain 15 = .ok (.iload_n 2, 1) := by decide +kernel
theorem dX7_chain_16 : decode cX7_chain 16 = .ok (.invokevirtual 69, 3) := by decide +kernel
theorem dX7_chain_19 : decode cX7_chain 19 = .ok (.ifCond .ne 5, 3) := by decide +kernel
theorem dX7_chain_22 : decode cX7_chain 22 = .ok (.iconst (-1), 1) := by decide +kernel
theorem dX7_chain_23 : decode cX7_chain 23 = .ok (.ireturn, 1) := by decide +kernel
theorem dX7_chain_24 : decode cX7_chain 24 = .ok (.aload_n 0, 1) := by decide +kernel
theorem dX7_chain_25 : decode cX7_chain 25 = .ok (.getfield 12, 3) := by decide +kernel
theorem dX7_chain_28 : decode cX7_chain 28 = .ok (.getfield 79, 3) := by decide +kernel
theorem dX7_chain_31 : decode cX7_chain 31 = .ok (.iload_n 1, 1) := by decide +kernel
theorem dX7_chain_32 : decode cX7_chain 32 = .ok (.iload_n 2, 1) := by decide +kernel
theorem dX7_chain_33 : decode cX7_chain 33 = .ok (.invokevirtual 108, 3) := by decide +kernel
theorem dX7_chain_36 : decode cX7_chain 36 = .ok (.ireturn, 1) := by decide +kernel
theorem dX7_emptyIn_0 : decode cX7_emptyIn 0 = .ok (.aload_n 0, 1) := by decide +kernel
theorem dX7_emptyIn_1 : decode cX7_emptyIn 1 = .ok (.getfield 12, 3) := by decide +kernel
theorem dX7_emptyIn_4 : decode cX7_emptyIn 4 = .ok (.iload_n 1, 1) := by decide +kernel
theorem dX7_emptyIn_5 : decode cX7_emptyIn 5 = .ok (.invokevirtual 69, 3) := by decide +kernel
theorem dX7_emptyIn_8 : decode cX7_emptyIn 8 = .ok (.ifCond .ne 5, 3) := by decide +kernel
theorem dX7_emptyIn_11 : decode cX7_emptyIn 11 = .ok (.iconst (-1), 1) := by decide +kernel
theorem dX7_emptyIn_12 : decode cX7_emptyIn 12 = .ok (.ireturn, 1) := by decide +kernel
theorem dX7_emptyIn_13 : decode cX7_emptyIn 13 = .ok (.aload_n 0, 1) := by decide +kernel
theorem dX7_emptyIn_14 : decode cX7_emptyIn 14 = .ok (.getfield 16, 3) := by decide +kernel
theorem dX7_emptyIn_17 : decode cX7_emptyIn 17 = .ok (.aload_n 0, 1) := by decide +kernel
theorem dX7_emptyIn_18 : decode cX7_emptyIn 18 = .ok (.getfield 12, 3) := by decide +kernel
theorem dX7_emptyIn_21 : decode cX7_emptyIn 21 = .ok (.invokevirtual 111, 3) := by decide +kernel
theorem dX7_emptyIn_24 : decode cX7_emptyIn 24 = .ok (.iconst 0, 1) := by decide +kernel
theorem dX7_emptyIn_25 : decode cX7_emptyIn 25 = .ok (.istore_n 2, 1) := by decide +kernel
theorem dX7_emptyIn_26 : decode cX7_emptyIn 26 = .ok (.iload_n 2, 1) := by decide +kernel
theorem dX7_emptyIn_27 : decode cX7_emptyIn 27 = .ok (.sipush 400, 3) := by decide +kernel
theorem dX7_emptyIn_30 : decode cX7_emptyIn 30 = .ok (.if_icmp .gt 29, 3) := by decide +kernel
theorem dX7_emptyIn_33 : decode cX7_emptyIn 33 = .ok (.aload_n 0, 1) := by decide +kernel
theorem dX7_emptyIn_34 : decode cX7_emptyIn 34 = .ok (.getfield 16, 3) := by decide +kernel
theorem dX7_emptyIn_37 : decode cX7_emptyIn 37 = .ok (.iload_n 1, 1) := by decide +kernel
theorem dX7_emptyIn_38 : decode cX7_emptyIn 38 = .ok (.invokevirtual 114, 3) := by decide +kernel
theorem dX7_emptyIn_41 : decode cX7_emptyIn 41 = .ok (.ifCond .ne 5, 3) := by decide +kernel
theorem dX7_emptyIn_44 : decode cX7_emptyIn 44 = .ok (.iload_n 2, 1) := by decide +kernel
theorem dX7_emptyIn_45 : decode cX7_emptyIn 45 = .ok (.ireturn, 1) := by decide +kernel
theorem dX7_emptyIn_46 : decode cX7_emptyIn 46 = .ok (.aload_n 0, 1) := by decide +kernel
theorem dX7_emptyIn_47 : decode cX7_emptyIn 47 = .ok (.getfield 16, 3) := by decide +kernel
theorem dX7_emptyIn_50 : decode cX7_emptyIn 50 = .ok (.invokevirtual 117, 3) := by decide +kernel
theorem dX7_emptyIn_53 : decode cX7_emptyIn 53 = .ok (.iinc 2 1, 3) := by decide +kernel
theorem dX7_emptyIn_56 : decode cX7_emptyIn 56 = .ok (.goto (-30), 3) := by decide +kernel
theorem dX7_emptyIn_59 : decode cX7_emptyIn 59 = .ok (.bipush (-6), 2) := by decide +kernel
theorem dX7_emptyIn_61 : decode cX7_emptyIn 61 = .ok (.ireturn, 1) := by decide +kernel
theorem dX7_purseIn_0 : decode cX7_purseIn 0 = .ok (.aload_n 0, 1) := by decide +kernel
theorem dX7_purseIn_1 : decode cX7_purseIn 1 = .ok (.getfield 12, 3) := by decide +kernel
theorem dX7_purseIn_4 : decode cX7_purseIn 4 = .ok (.iload_n 1, 1) := by decide +kernel
theorem dX7_purseIn_5 : decode cX7_purseIn 5 = .ok (.invokevirtual 69, 3) := by decide +kernel
theorem dX7_purseIn_8 : decode cX7_purseIn 8 = .ok (.ifCond .ne 5, 3) := by decide +kernel
theorem dX7_purseIn_11 : decode cX7_purseIn 11 = .ok (.iconst (-1), 1) := by decide +kernel
theorem dX7_purseIn_12 : decode cX7_purseIn 12 = .ok (.ireturn, 1) := by decide +kernel
theorem dX7_purseIn_13 : decode cX7_purseIn 13 = .ok (.iload_n 2, 1) := by decide +kernel
theorem dX7_purseIn_14 : decode cX7_purseIn 14 = .ok (.iconst 1, 1) := by decide +kernel
theorem dX7_purseIn_15 : decode cX7_purseIn 15 = .ok (.if_icmp .lt 9, 3) := by decide +kernel
theorem dX7_purseIn_18 : decode cX7_purseIn 18 = .ok (.iload_n 2, 1) := by decide +kernel
theorem dX7_purseIn_19 : decode cX7_purseIn 19 = .ok (.bipush 99, 2) := by decide +kernel
theorem dX7_purseIn_21 : decode cX7_purseIn 21 = .ok (.if_icmp .le 6, 3) := by decide +kernel
theorem dX7_purseIn_24 : decode cX7_purseIn 24 = .ok (.bipush (-2), 2) := by decide +kernel
theorem dX7_purseIn_26 : decode cX7_purseIn 26 = .ok (.ireturn, 1) := by decide +kernel
theorem dX7_purseIn_27 : decode cX7_purseIn 27 = .ok (.aload_n 0, 1) := by decide +kernel
theorem dX7_purseIn_28 : decode cX7_purseIn 28 = .ok (.getfield 16, 3) := by decide +kernel
theorem dX7_purseIn_31 : decode cX7_purseIn 31 = .ok (.aload_n 0, 1) := by decide +kernel
theorem dX7_purseIn_32 : decode cX7_purseIn 32 = .ok (.getfield 12, 3) := by decide +kernel
theorem dX7_purseIn_35 : decode cX7_purseIn 35 = .ok (.invokevirtual 111, 3) := by decide +kernel
theorem dX7_purseIn_38 : decode cX7_purseIn 38 = .ok (.aload_n 0, 1) := by decide +kernel
theorem dX7_purseIn_39 : decode cX7_purseIn 39 = .ok (.getfield 16, 3) := by decide +kernel
theorem dX7_purseIn_42 : decode cX7_purseIn 42 = .ok (.iload_n 2, 1) := by decide +kernel
theorem dX7_purseIn_43 : decode cX7_purseIn 43 = .ok (.invokevirtual 120, 3) := by decide +kernel
theorem dX7_purseIn_46 : decode cX7_purseIn 46 = .ok (.aload_n 0, 1) := by decide +kernel
theorem dX7_purseIn_47 : decode cX7_purseIn 47 = .ok (.getfield 16, 3) := by decide +kernel
theorem dX7_purseIn_50 : decode cX7_purseIn 50 = .ok (.iload_n 1, 1) := by decide +kernel
theorem dX7_purseIn_51 : decode cX7_purseIn 51 = .ok (.invokevirtual 114, 3) := by decide +kernel
theorem dX7_purseIn_54 : decode cX7_purseIn 54 = .ok (.ireturn, 1) := by decide +kernel
theorem dX7_bestSeed_0 : decode cX7_bestSeed 0 = .ok (.aload_n 0, 1) := by decide +kernel
theorem dX7_bestSeed_1 : decode cX7_bestSeed 1 = .ok (.getfield 12, 3) := by decide +kernel
theorem dX7_bestSeed_4 : decode cX7_bestSeed 4 = .ok (.iload_n 1, 1) := by decide +kernel
theorem dX7_bestSeed_5 : decode cX7_bestSeed 5 = .ok (.invokevirtual 69, 3) := by decide +kernel
theorem dX7_bestSeed_8 : decode cX7_bestSeed 8 = .ok (.ifCond .ne 5, 3) := by decide +kernel
theorem dX7_bestSeed_11 : decode cX7_bestSeed 11 = .ok (.iconst (-1), 1) := by decide +kernel
theorem dX7_bestSeed_12 : decode cX7_bestSeed 12 = .ok (.ireturn, 1) := by decide +kernel
theorem dX7_bestSeed_13 : decode cX7_bestSeed 13 = .ok (.iload_n 2, 1) := by decide +kernel
theorem dX7_bestSeed_14 : decode cX7_bestSeed 14 = .ok (.iconst 1, 1) := by decide +kernel
theorem dX7_bestSeed_15 : decode cX7_bestSeed 15 = .ok (.if_icmp .lt 9, 3) := by decide +kernel
theorem dX7_bestSeed_18 : decode cX7_bestSeed 18 = .ok (.iload_n 2, 1) := by decide +kernel
theorem dX7_bestSeed_19 : decode cX7_bestSeed 19 = .ok (.bipush 60, 2) := by decide +kernel
theorem dX7_bestSeed_21 : decode cX7_bestSeed 21 = .ok (.if_icmp .le 6, 3) := by decide +kernel
theorem dX7_bestSeed_24 : decode cX7_bestSeed 24 = .ok (.bipush (-2), 2) := by decide +kernel
theorem dX7_bestSeed_26 : decode cX7_bestSeed 26 = .ok (.ireturn, 1) := by decide +kernel
theorem dX7_bestSeed_27 : decode cX7_bestSeed 27 = .ok (.iconst 0, 1) := by decide +kernel
theorem dX7_bestSeed_28 : decode cX7_bestSeed 28 = .ok (.istore_n 3, 1) := by decide +kernel
theorem dX7_bestSeed_29 : decode cX7_bestSeed 29 = .ok (.iconst 0, 1) := by decide +kernel
theorem dX7_bestSeed_30 : decode cX7_bestSeed 30 = .ok (.istore 4, 2) := by decide +kernel
theorem dX7_bestSeed_32 : decode cX7_bestSeed 32 = .ok (.iconst 0, 1) := by decide +kernel
theorem dX7_bestSeed_33 : decode cX7_bestSeed 33 = .ok (.istore 5, 2) := by decide +kernel
theorem dX7_bestSeed_35 : decode cX7_bestSeed 35 = .ok (.iload 5, 2) := by decide +kernel
theorem dX7_bestSeed_37 : decode cX7_bestSeed 37 = .ok (.bipush 50, 2) := by decide +kernel
theorem dX7_bestSeed_39 : decode cX7_bestSeed 39 = .ok (.if_icmp .ge 67, 3) := by decide +kernel
theorem dX7_bestSeed_42 : decode cX7_bestSeed 42 = .ok (.aload_n 0, 1) := by decide +kernel
theorem dX7_bestSeed_43 : decode cX7_bestSeed 43 = .ok (.getfield 16, 3) := by decide +kernel
theorem dX7_bestSeed_46 : decode cX7_bestSeed 46 = .ok (.aload_n 0, 1) := by decide +kernel
theorem dX7_bestSeed_47 : decode cX7_bestSeed 47 = .ok (.getfield 12, 3) := by decide +kernel
theorem dX7_bestSeed_50 : decode cX7_bestSeed 50 = .ok (.invokevirtual 111, 3) := by decide +kernel
theorem dX7_bestSeed_53 : decode cX7_bestSeed 53 = .ok (.aload_n 0, 1) := by decide +kernel
theorem dX7_bestSeed_54 : decode cX7_bestSeed 54 = .ok (.getfield 16, 3) := by decide +kernel
theorem dX7_bestSeed_57 : decode cX7_bestSeed 57 = .ok (.iload 5, 2) := by decide +kernel
theorem dX7_bestSeed_59 : decode cX7_bestSeed 59 = .ok (.invokevirtual 57, 3) := by decide +kernel
theorem dX7_bestSeed_62 : decode cX7_bestSeed 62 = .ok (.pop, 1) := by decide +kernel
theorem dX7_bestSeed_63 : decode cX7_bestSeed 63 = .ok (.aload_n 0, 1) := by decide +kernel
theorem dX7_bestSeed_64 : decode cX7_bestSeed 64 = .ok (.getfield 16, 3) := by decide +kernel
theorem dX7_bestSeed_67 : decode cX7_bestSeed 67 = .ok (.iload_n 2, 1) := by decide +kernel
theorem dX7_bestSeed_68 : decode cX7_bestSeed 68 = .ok (.invokevirtual 120, 3) := by decide +kernel
theorem dX7_bestSeed_71 : decode cX7_bestSeed 71 = .ok (.aload_n 0, 1) := by decide +kernel
theorem dX7_bestSeed_72 : decode cX7_bestSeed 72 = .ok (.getfield 16, 3) := by decide +kernel
theorem dX7_bestSeed_75 : decode cX7_bestSeed 75 = .ok (.iload_n 1, 1) := by decide +kernel
theorem dX7_bestSeed_76 : decode cX7_bestSeed 76 = .ok (.invokevirtual 123, 3) := by decide +kernel
theorem dX7_bestSeed_79 : decode cX7_bestSeed 79 = .ok (.istore 6, 2) := by decide +kernel
theorem dX7_bestSeed_81 : decode cX7_bestSeed 81 = .ok (.iload 5, 2) := by decide +kernel
theorem dX7_bestSeed_83 : decode cX7_bestSeed 83 = .ok (.ifCond .eq 10, 3) := by decide +kernel
theorem dX7_bestSeed_86 : decode cX7_bestSeed 86 = .ok (.iload 6, 2) := by decide +kernel
theorem dX7_bestSeed_88 : decode cX7_bestSeed 88 = .ok (.iload 4, 2) := by decide +kernel
theorem dX7_bestSeed_90 : decode cX7_bestSeed 90 = .ok (.if_icmp .le 10, 3) := by decide +kernel
theorem dX7_bestSeed_93 : decode cX7_bestSeed 93 = .ok (.iload 5, 2) := by decide +kernel
theorem dX7_bestSeed_95 : decode cX7_bestSeed 95 = .ok (.istore_n 3, 1) := by decide +kernel
theorem dX7_bestSeed_96 : decode cX7_bestSeed 96 = .ok (.iload 6, 2) := by decide +kernel
theorem dX7_bestSeed_98 : decode cX7_bestSeed 98 = .ok (.istore 4, 2) := by decide +kernel
theorem dX7_bestSeed_100 : decode cX7_bestSeed 100 = .ok (.iinc 5 1, 3) := by decide +kernel
theorem dX7_bestSeed_103 : decode cX7_bestSeed 103 = .ok (.goto (-68), 3) := by decide +kernel
theorem dX7_bestSeed_106 : decode cX7_bestSeed 106 = .ok (.iload_n 3, 1) := by decide +kernel
theorem dX7_bestSeed_107 : decode cX7_bestSeed 107 = .ok (.ireturn, 1) := by decide +kernel
theorem dX7_put_0 : decode cX7_put 0 = .ok (.lload_n 1, 1) := by decide +kernel
theorem dX7_put_1 : decode cX7_put 1 = .ok (.invokestatic 126, 3) := by decide +kernel
theorem dX7_put_4 : decode cX7_put 4 = .ok (.istore_n 3, 1) := by decide +kernel
theorem dX7_put_5 : decode cX7_put 5 = .ok (.iload_n 3, 1) := by decide +kernel
theorem dX7_put_6 : decode cX7_put 6 = .ok (.ifCond .ne 6, 3) := by decide +kernel
theorem dX7_put_9 : decode cX7_put 9 = .ok (.bipush (-2), 2) := by decide +kernel
theorem dX7_put_11 : decode cX7_put 11 = .ok (.ireturn, 1) := by decide +kernel
theorem dX7_put_12 : decode cX7_put 12 = .ok (.aload_n 0, 1) := by decide +kernel
theorem dX7_put_13 : decode cX7_put 13 = .ok (.getfield 35, 3) := by decide +kernel
theorem dX7_put_16 : decode cX7_put 16 = .ok (.invokevirtual 95, 3) := by decide +kernel
theorem dX7_put_19 : decode cX7_put 19 = .ok (.iload_n 3, 1) := by decide +kernel
theorem dX7_put_20 : decode cX7_put 20 = .ok (.iadd, 1) := by decide +kernel
theorem dX7_put_21 : decode cX7_put 21 = .ok (.bipush 80, 2) := by decide +kernel
theorem dX7_put_23 : decode cX7_put 23 = .ok (.if_icmp .le 6, 3) := by decide +kernel
theorem dX7_put_26 : decode cX7_put 26 = .ok (.bipush (-4), 2) := by decide +kernel
theorem dX7_put_28 : decode cX7_put 28 = .ok (.ireturn, 1) := by decide +kernel
theorem dX7_put_29 : decode cX7_put 29 = .ok (.iload_n 3, 1) := by decide +kernel
theorem dX7_put_30 : decode cX7_put 30 = .ok (.iconst 1, 1) := by decide +kernel
theorem dX7_put_31 : decode cX7_put 31 = .ok (.isub, 1) := by decide +kernel
theorem dX7_put_32 : decode cX7_put 32 = .ok (.istore 4, 2) := by decide +kernel
theorem dX7_put_34 : decode cX7_put 34 = .ok (.iload 4, 2) := by decide +kernel
theorem dX7_put_36 : decode cX7_put 36 = .ok (.ifCond .lt 22, 3) := by decide +kernel
theorem dX7_put_39 : decode cX7_put 39 = .ok (.aload_n 0, 1) := by decide +kernel
theorem dX7_put_40 : decode cX7_put 40 = .ok (.getfield 35, 3) := by decide +kernel
theorem dX7_put_43 : decode cX7_put 43 = .ok (.lload_n 1, 1) := by decide +kernel
theorem dX7_put_44 : decode cX7_put 44 = .ok (.iload 4, 2) := by decide +kernel
theorem dX7_put_46 : decode cX7_put 46 = .ok (.invokestatic 132, 3) := by decide +kernel
theorem dX7_put_49 : decode cX7_put 49 = .ok (.invokevirtual 136, 3) := by decide +kernel
theorem dX7_put_52 : decode cX7_put 52 = .ok (.iinc 4 (-1), 3) := by decide +kernel
theorem dX7_put_55 : decode cX7_put 55 = .ok (.goto (-21), 3) := by decide +kernel
theorem dX7_put_58 : decode cX7_put 58 = .ok (.aload_n 0, 1) := by decide +kernel
theorem dX7_put_59 : decode cX7_put 59 = .ok (.getfield 35, 3) := by decide +kernel
theorem dX7_put_62 : decode cX7_put 62 = .ok (.invokevirtual 95, 3) := by decide +kernel
theorem dX7_put_65 : decode cX7_put 65 = .ok (.ireturn, 1) := by decide +kernel
theorem dX7_wipe_0 : decode cX7_wipe 0 = .ok (.aload_n 0, 1) := by decide +kernel
theorem dX7_wipe_1 : decode cX7_wipe 1 = .ok (.getfield 35, 3) := by decide +kernel
theorem dX7_wipe_4 : decode cX7_wipe 4 = .ok (.invokevirtual 95, 3) := by decide +kernel
theorem dX7_wipe_7 : decode cX7_wipe 7 = .ok (.istore_n 1, 1) := by decide +kernel
theorem dX7_wipe_8 : decode cX7_wipe 8 = .ok (.aload_n 0, 1) := by decide +kernel
theorem dX7_wipe_9 : decode cX7_wipe 9 = .ok (.getfield 35, 3) := by decide +kernel
theorem dX7_wipe_12 : decode cX7_wipe 12 = .ok (.invokevirtual 139, 3) := by decide +kernel
theorem dX7_wipe_15 : decode cX7_wipe 15 = .ok (.iload_n 1, 1) := by decide +kernel
theorem dX7_wipe_16 : decode cX7_wipe 16 = .ok (.ireturn, 1) := by decide +kernel
theorem dX7_fault_0 : decode cX7_fault 0 = .ok (.aload_n 0, 1) := by decide +kernel
theorem dX7_fault_1 : decode cX7_fault 1 = .ok (.getfield 35, 3) := by decide +kernel
theorem dX7_fault_4 : decode cX7_fault 4 = .ok (.invokestatic 142, 3) := by decide +kernel
theorem dX7_fault_7 : decode cX7_fault 7 = .ok (.ireturn, 1) := by decide +kernel
theorem dX7_carryOut_0 : decode cX7_carryOut 0 = .ok (.aload_n 0, 1) := by decide +kernel
theorem dX7_carryOut_1 : decode cX7_carryOut 1 = .ok (.getfield 35, 3) := by decide +kernel
theorem dX7_carryOut_4 : decode cX7_carryOut 4 = .ok (.invokestatic 142, 3) := by decide +kernel
theorem dX7_carryOut_7 : decode cX7_carryOut 7 = .ok (.bipush (-6), 2) := by decide +kernel
theorem dX7_carryOut_9 : decode cX7_carryOut 9 = .ok (.if_icmp .eq 6, 3) := by decide +kernel
theorem dX7_carryOut_12 : decode cX7_carryOut 12 = .ok (.bipush (-3), 2) := by decide +kernel
theorem dX7_carryOut_14 : decode cX7_carryOut 14 = .ok (.ireturn, 1) := by decide +kernel
theorem dX7_carryOut_15 : decode cX7_carryOut 15 = .ok (.aload_n 0, 1) := by decide +kernel
theorem dX7_carryOut_16 : decode cX7_carryOut 16 = .ok (.getfield 22, 3) := by decide +kernel
theorem dX7_carryOut_19 : decode cX7_carryOut 19 = .ok (.aload_n 0, 1) := by decide +kernel
theorem dX7_carryOut_20 : decode cX7_carryOut 20 = .ok (.getfield 12, 3) := by decide +kernel
theorem dX7_carryOut_23 : decode cX7_carryOut 23 = .ok (.invokevirtual 42, 3) := by decide +kernel
theorem dX7_carryOut_26 : decode cX7_carryOut 26 = .ok (.iconst 0, 1) := by decide +kernel
theorem dX7_carryOut_27 : decode cX7_carryOut 27 = .ok (.istore_n 1, 1) := by decide +kernel
theorem dX7_carryOut_28 : decode cX7_carryOut 28 = .ok (.iconst 0, 1) := by decide +kernel
theorem dX7_carryOut_29 : decode cX7_carryOut 29 = .ok (.istore_n 2, 1) := by decide +kernel
theorem dX7_carryOut_30 : decode cX7_carryOut 30 = .ok (.iconst 0, 1) := by decide +kernel
theorem dX7_carryOut_31 : decode cX7_carryOut 31 = .ok (.istore_n 3, 1) := by decide +kernel
theorem dX7_carryOut_32 : decode cX7_carryOut 32 = .ok (.iconst 1, 1) := by decide +kernel
theorem dX7_carryOut_33 : decode cX7_carryOut 33 = .ok (.istore 4, 2) := by decide +kernel
theorem dX7_carryOut_35 : decode cX7_carryOut 35 = .ok (.iconst 0, 1) := by decide +kernel
theorem dX7_carryOut_36 : decode cX7_carryOut 36 = .ok (.istore 5, 2) := by decide +kernel
theorem dX7_carryOut_38 : decode cX7_carryOut 38 = .ok (.iload 5, 2) := by decide +kernel
theorem dX7_carryOut_40 : decode cX7_carryOut 40 = .ok (.aload_n 0, 1) := by decide +kernel
theorem dX7_carryOut_41 : decode cX7_carryOut 41 = .ok (.getfield 35, 3) := by decide +kernel
theorem dX7_carryOut_44 : decode cX7_carryOut 44 = .ok (.invokevirtual 95, 3) := by decide +kernel
theorem dX7_carryOut_47 : decode cX7_carryOut 47 = .ok (.if_icmp .gt 108, 3) := by decide +kernel
theorem dX7_carryOut_50 : decode cX7_carryOut 50 = .ok (.iload 4, 2) := by decide +kernel
theorem dX7_carryOut_52 : decode cX7_carryOut 52 = .ok (.ifCond .eq 103, 3) := by decide +kernel
theorem dX7_carryOut_55 : decode cX7_carryOut 55 = .ok (.iload 5, 2) := by decide +kernel
theorem dX7_carryOut_57 : decode cX7_carryOut 57 = .ok (.aload_n 0, 1) := by decide +kernel
theorem dX7_carryOut_58 : decode cX7_carryOut 58 = .ok (.getfield 35, 3) := by decide +kernel
theorem dX7_carryOut_61 : decode cX7_carryOut 61 = .ok (.invokevirtual 95, 3) := by decide +kernel
theorem dX7_carryOut_64 : decode cX7_carryOut 64 = .ok (.if_icmp .ge 15, 3) := by decide +kernel
theorem dX7_carryOut_67 : decode cX7_carryOut 67 = .ok (.aload_n 0, 1) := by decide +kernel
theorem dX7_carryOut_68 : decode cX7_carryOut 68 = .ok (.getfield 35, 3) := by decide +kernel
theorem dX7_carryOut_71 : decode cX7_carryOut 71 = .ok (.iload 5, 2) := by decide +kernel
theorem dX7_carryOut_73 : decode cX7_carryOut 73 = .ok (.invokevirtual 105, 3) := by decide +kernel
theorem dX7_carryOut_76 : decode cX7_carryOut 76 = .ok (.goto 5, 3) := by decide +kernel
theorem dX7_carryOut_79 : decode cX7_carryOut 79 = .ok (.bipush 59, 2) := by decide +kernel
theorem dX7_carryOut_81 : decode cX7_carryOut 81 = .ok (.istore 6, 2) := by decide +kernel
theorem dX7_carryOut_83 : decode cX7_carryOut 83 = .ok (.iload 6, 2) := by decide +kernel
theorem dX7_carryOut_85 : decode cX7_carryOut 85 = .ok (.bipush 59, 2) := by decide +kernel
theorem dX7_carryOut_87 : decode cX7_carryOut 87 = .ok (.if_icmp .ne 37, 3) := by decide +kernel
theorem dX7_carryOut_90 : decode cX7_carryOut 90 = .ok (.aload_n 0, 1) := by decide +kernel
theorem dX7_carryOut_91 : decode cX7_carryOut 91 = .ok (.iload_n 2, 1) := by decide +kernel
theorem dX7_carryOut_92 : decode cX7_carryOut 92 = .ok (.iload_n 3, 1) := by decide +kernel
theorem dX7_carryOut_93 : decode cX7_carryOut 93 = .ok (.invokevirtual 146, 3) := by decide +kernel
theorem dX7_carryOut_96 : decode cX7_carryOut 96 = .ok (.ifCond .lt 7, 3) := by decide +kernel
theorem dX7_carryOut_99 : decode cX7_carryOut 99 = .ok (.iconst 1, 1) := by decide +kernel
theorem dX7_carryOut_100 : decode cX7_carryOut 100 = .ok (.goto 4, 3) := by decide +kernel
theorem dX7_carryOut_103 : decode cX7_carryOut 103 = .ok (.iconst 0, 1) := by decide +kernel
theorem dX7_carryOut_104 : decode cX7_carryOut 104 = .ok (.istore 4, 2) := by decide +kernel
theorem dX7_carryOut_106 : decode cX7_carryOut 106 = .ok (.iload_n 1, 1) := by decide +kernel
theorem dX7_carryOut_107 : decode cX7_carryOut 107 = .ok (.iload 4, 2) := by decide +kernel
theorem dX7_carryOut_109 : decode cX7_carryOut 109 = .ok (.ifCond .eq 7, 3) := by decide +kernel
theorem dX7_carryOut_112 : decode cX7_carryOut 112 = .ok (.iconst 1, 1) := by decide +kernel
theorem dX7_carryOut_113 : decode cX7_carryOut 113 = .ok (.goto 4, 3) := by decide +kernel
theorem dX7_carryOut_116 : decode cX7_carryOut 116 = .ok (.iconst 0, 1) := by decide +kernel
theorem dX7_carryOut_117 : decode cX7_carryOut 117 = .ok (.iadd, 1) := by decide +kernel
theorem dX7_carryOut_118 : decode cX7_carryOut 118 = .ok (.istore_n 1, 1) := by decide +kernel
theorem dX7_carryOut_119 : decode cX7_carryOut 119 = .ok (.iconst 0, 1) := by decide +kernel
theorem dX7_carryOut_120 : decode cX7_carryOut 120 = .ok (.istore_n 3, 1) := by decide +kernel
theorem dX7_carryOut_121 : decode cX7_carryOut 121 = .ok (.goto 28, 3) := by decide +kernel
theorem dX7_carryOut_124 : decode cX7_carryOut 124 = .ok (.iload 6, 2) := by decide +kernel
theorem dX7_carryOut_126 : decode cX7_carryOut 126 = .ok (.invokestatic 149, 3) := by decide +kernel
theorem dX7_carryOut_129 : decode cX7_carryOut 129 = .ok (.ifCond .eq 17, 3) := by decide +kernel
theorem dX7_carryOut_132 : decode cX7_carryOut 132 = .ok (.bipush 10, 2) := by decide +kernel
theorem dX7_carryOut_134 : decode cX7_carryOut 134 = .ok (.iload_n 3, 1) := by decide +kernel
theorem dX7_carryOut_135 : decode cX7_carryOut 135 = .ok (.imul, 1) := by decide +kernel
theorem dX7_carryOut_136 : decode cX7_carryOut 136 = .ok (.iload 6, 2) := by decide +kernel
theorem dX7_carryOut_138 : decode cX7_carryOut 138 = .ok (.iadd, 1) := by decide +kernel
theorem dX7_carryOut_139 : decode cX7_carryOut 139 = .ok (.bipush 48, 2) := by decide +kernel
theorem dX7_carryOut_141 : decode cX7_carryOut 141 = .ok (.isub, 1) := by decide +kernel
theorem dX7_carryOut_142 : decode cX7_carryOut 142 = .ok (.istore_n 3, 1) := by decide +kernel
theorem dX7_carryOut_143 : decode cX7_carryOut 143 = .ok (.goto 6, 3) := by decide +kernel
theorem dX7_carryOut_146 : decode cX7_carryOut 146 = .ok (.iload 6, 2) := by decide +kernel
theorem dX7_carryOut_148 : decode cX7_carryOut 148 = .ok (.istore_n 2, 1) := by decide +kernel
theorem dX7_carryOut_149 : decode cX7_carryOut 149 = .ok (.iinc 5 1, 3) := by decide +kernel
theorem dX7_carryOut_152 : decode cX7_carryOut 152 = .ok (.goto (-114), 3) := by decide +kernel
theorem dX7_carryOut_155 : decode cX7_carryOut 155 = .ok (.aload_n 0, 1) := by decide +kernel
theorem dX7_carryOut_156 : decode cX7_carryOut 156 = .ok (.getfield 22, 3) := by decide +kernel
theorem dX7_carryOut_159 : decode cX7_carryOut 159 = .ok (.invokevirtual 66, 3) := by decide +kernel
theorem dX7_carryOut_162 : decode cX7_carryOut 162 = .ok (.aload_n 0, 1) := by decide +kernel
theorem dX7_carryOut_163 : decode cX7_carryOut 163 = .ok (.getfield 35, 3) := by decide +kernel
theorem dX7_carryOut_166 : decode cX7_carryOut 166 = .ok (.invokevirtual 139, 3) := by decide +kernel
theorem dX7_carryOut_169 : decode cX7_carryOut 169 = .ok (.iload_n 1, 1) := by decide +kernel
theorem dX7_carryOut_170 : decode cX7_carryOut 170 = .ok (.ireturn, 1) := by decide +kernel
theorem dX7_obey_0 : decode cX7_obey 0 = .ok (.iload_n 1, 1) := by decide +kernel
theorem dX7_obey_1 : decode cX7_obey 1 = .ok (.lookupswitch 79 #[(99, 70), (112, 43), (116, 52), (120, 61)], 43) := by decide +kernel
theorem dX7_obey_44 : decode cX7_obey 44 = .ok (.aload_n 0, 1) := by decide +kernel
theorem dX7_obey_45 : decode cX7_obey 45 = .ok (.getfield 12, 3) := by decide +kernel
theorem dX7_obey_48 : decode cX7_obey 48 = .ok (.iload_n 2, 1) := by decide +kernel
theorem dX7_obey_49 : decode cX7_obey 49 = .ok (.invokevirtual 54, 3) := by decide +kernel
theorem dX7_obey_52 : decode cX7_obey 52 = .ok (.ireturn, 1) := by decide +kernel
theorem dX7_obey_53 : decode cX7_obey 53 = .ok (.aload_n 0, 1) := by decide +kernel
theorem dX7_obey_54 : decode cX7_obey 54 = .ok (.getfield 12, 3) := by decide +kernel
theorem dX7_obey_57 : decode cX7_obey 57 = .ok (.iload_n 2, 1) := by decide +kernel
theorem dX7_obey_58 : decode cX7_obey 58 = .ok (.invokevirtual 60, 3) := by decide +kernel
theorem dX7_obey_61 : decode cX7_obey 61 = .ok (.ireturn, 1) := by decide +kernel
theorem dX7_obey_62 : decode cX7_obey 62 = .ok (.aload_n 0, 1) := by decide +kernel
theorem dX7_obey_63 : decode cX7_obey 63 = .ok (.getfield 12, 3) := by decide +kernel
theorem dX7_obey_66 : decode cX7_obey 66 = .ok (.iload_n 2, 1) := by decide +kernel
theorem dX7_obey_67 : decode cX7_obey 67 = .ok (.invokevirtual 57, 3) := by decide +kernel
theorem dX7_obey_70 : decode cX7_obey 70 = .ok (.ireturn, 1) := by decide +kernel
theorem dX7_obey_71 : decode cX7_obey 71 = .ok (.aload_n 0, 1) := by decide +kernel
theorem dX7_obey_72 : decode cX7_obey 72 = .ok (.getfield 12, 3) := by decide +kernel
theorem dX7_obey_75 : decode cX7_obey 75 = .ok (.iload_n 2, 1) := by decide +kernel
theorem dX7_obey_76 : decode cX7_obey 76 = .ok (.invokevirtual 63, 3) := by decide +kernel
theorem dX7_obey_79 : decode cX7_obey 79 = .ok (.ireturn, 1) := by decide +kernel
theorem dX7_obey_80 : decode cX7_obey 80 = .ok (.bipush (-3), 2) := by decide +kernel
theorem dX7_obey_82 : decode cX7_obey 82 = .ok (.ireturn, 1) := by decide +kernel
theorem dX7_undo_0 : decode cX7_undo 0 = .ok (.aload_n 0, 1) := by decide +kernel
theorem dX7_undo_1 : decode cX7_undo 1 = .ok (.getfield 22, 3) := by decide +kernel
theorem dX7_undo_4 : decode cX7_undo 4 = .ok (.aload_n 0, 1) := by decide +kernel
theorem dX7_undo_5 : decode cX7_undo 5 = .ok (.getfield 12, 3) := by decide +kernel
theorem dX7_undo_8 : decode cX7_undo 8 = .ok (.invokevirtual 152, 3) := by decide +kernel
theorem dX7_undo_11 : decode cX7_undo 11 = .ok (.ireturn, 1) := by decide +kernel
theorem dX7_save_0 : decode cX7_save 0 = .ok (.iload_n 1, 1) := by decide +kernel
theorem dX7_save_1 : decode cX7_save 1 = .ok (.ifCond .lt 12, 3) := by decide +kernel
theorem dX7_save_4 : decode cX7_save 4 = .ok (.iload_n 1, 1) := by decide +kernel
theorem dX7_save_5 : decode cX7_save 5 = .ok (.aload_n 0, 1) := by decide +kernel
theorem dX7_save_6 : decode cX7_save 6 = .ok (.getfield 26, 3) := by decide +kernel
theorem dX7_save_9 : decode cX7_save 9 = .ok (.arraylength, 1) := by decide +kernel
theorem dX7_save_10 : decode cX7_save 10 = .ok (.if_icmp .lt 6, 3) := by decide +kernel
theorem dX7_save_13 : decode cX7_save 13 = .ok (.bipush (-2), 2) := by decide +kernel
theorem dX7_save_15 : decode cX7_save 15 = .ok (.ireturn, 1) := by decide +kernel
theorem dX7_save_16 : decode cX7_save 16 = .ok (.aload_n 0, 1) := by decide +kernel
theorem dX7_save_17 : decode cX7_save 17 = .ok (.getfield 26, 3) := by decide +kernel
theorem dX7_save_20 : decode cX7_save 20 = .ok (.iload_n 1, 1) := by decide +kernel
theorem dX7_save_21 : decode cX7_save 21 = .ok (.aaload, 1) := by decide +kernel
theorem dX7_save_22 : decode cX7_save 22 = .ok (.astore_n 2, 1) := by decide +kernel
theorem dX7_save_23 : decode cX7_save 23 = .ok (.aload_n 2, 1) := by decide +kernel
theorem dX7_save_24 : decode cX7_save 24 = .ok (.ifnonnull 18, 3) := by decide +kernel
theorem dX7_save_27 : decode cX7_save 27 = .ok (.new 9, 3) := by decide +kernel
theorem dX7_save_30 : decode cX7_save 30 = .ok (.dup, 1) := by decide +kernel
theorem dX7_save_31 : decode cX7_save 31 = .ok (.invokespecial 11, 3) := by decide +kernel
theorem dX7_save_34 : decode cX7_save 34 = .ok (.astore_n 2, 1) := by decide +kernel
theorem dX7_save_35 : decode cX7_save 35 = .ok (.aload_n 0, 1) := by decide +kernel
theorem dX7_save_36 : decode cX7_save 36 = .ok (.getfield 26, 3) := by decide +kernel
theorem dX7_save_39 : decode cX7_save 39 = .ok (.iload_n 1, 1) := by decide +kernel
theorem dX7_save_40 : decode cX7_save 40 = .ok (.aload_n 2, 1) := by decide +kernel
theorem dX7_save_41 : decode cX7_save 41 = .ok (.aastore, 1) := by decide +kernel
theorem dX7_save_42 : decode cX7_save 42 = .ok (.aload_n 2, 1) := by decide +kernel
theorem dX7_save_43 : decode cX7_save 43 = .ok (.aload_n 0, 1) := by decide +kernel
theorem dX7_save_44 : decode cX7_save 44 = .ok (.getfield 12, 3) := by decide +kernel
theorem dX7_save_47 : decode cX7_save 47 = .ok (.invokevirtual 111, 3) := by decide +kernel
theorem dX7_save_50 : decode cX7_save 50 = .ok (.aload_n 0, 1) := by decide +kernel
theorem dX7_save_51 : decode cX7_save 51 = .ok (.getfield 12, 3) := by decide +kernel
theorem dX7_save_54 : decode cX7_save 54 = .ok (.invokevirtual 156, 3) := by decide +kernel
theorem dX7_save_57 : decode cX7_save 57 = .ok (.ireturn, 1) := by decide +kernel
theorem dX7_restore_0 : decode cX7_restore 0 = .ok (.iload_n 1, 1) := by decide +kernel
theorem dX7_restore_1 : decode cX7_restore 1 = .ok (.ifCond .lt 12, 3) := by decide +kernel
theorem dX7_restore_4 : decode cX7_restore 4 = .ok (.iload_n 1, 1) := by decide +kernel
theorem dX7_restore_5 : decode cX7_restore 5 = .ok (.aload_n 0, 1) := by decide +kernel
theorem dX7_restore_6 : decode cX7_restore 6 = .ok (.getfield 26, 3) := by decide +kernel
theorem dX7_restore_9 : decode cX7_restore 9 = .ok (.arraylength, 1) := by decide +kernel
theorem dX7_restore_10 : decode cX7_restore 10 = .ok (.if_icmp .lt 6, 3) := by decide +kernel
theorem dX7_restore_13 : decode cX7_restore 13 = .ok (.bipush (-2), 2) := by decide +kernel
theorem dX7_restore_15 : decode cX7_restore 15 = .ok (.ireturn, 1) := by decide +kernel
theorem dX7_restore_16 : decode cX7_restore 16 = .ok (.aload_n 0, 1) := by decide +kernel
theorem dX7_restore_17 : decode cX7_restore 17 = .ok (.getfield 26, 3) := by decide +kernel
theorem dX7_restore_20 : decode cX7_restore 20 = .ok (.iload_n 1, 1) := by decide +kernel
theorem dX7_restore_21 : decode cX7_restore 21 = .ok (.aaload, 1) := by decide +kernel
theorem dX7_restore_22 : decode cX7_restore 22 = .ok (.astore_n 2, 1) := by decide +kernel
theorem dX7_restore_23 : decode cX7_restore 23 = .ok (.aload_n 2, 1) := by decide +kernel
theorem dX7_restore_24 : decode cX7_restore 24 = .ok (.ifnonnull 6, 3) := by decide +kernel
theorem dX7_restore_27 : decode cX7_restore 27 = .ok (.bipush (-5), 2) := by decide +kernel
theorem dX7_restore_29 : decode cX7_restore 29 = .ok (.ireturn, 1) := by decide +kernel
theorem dX7_restore_30 : decode cX7_restore 30 = .ok (.aload_n 0, 1) := by decide +kernel
theorem dX7_restore_31 : decode cX7_restore 31 = .ok (.getfield 22, 3) := by decide +kernel
theorem dX7_restore_34 : decode cX7_restore 34 = .ok (.aload_n 0, 1) := by decide +kernel
theorem dX7_restore_35 : decode cX7_restore 35 = .ok (.getfield 12, 3) := by decide +kernel
theorem dX7_restore_38 : decode cX7_restore 38 = .ok (.invokevirtual 42, 3) := by decide +kernel
theorem dX7_restore_41 : decode cX7_restore 41 = .ok (.aload_n 0, 1) := by decide +kernel
theorem dX7_restore_42 : decode cX7_restore 42 = .ok (.getfield 12, 3) := by decide +kernel
theorem dX7_restore_45 : decode cX7_restore 45 = .ok (.aload_n 2, 1) := by decide +kernel
theorem dX7_restore_46 : decode cX7_restore 46 = .ok (.invokevirtual 111, 3) := by decide +kernel
theorem dX7_restore_49 : decode cX7_restore 49 = .ok (.aload_n 0, 1) := by decide +kernel
theorem dX7_restore_50 : decode cX7_restore 50 = .ok (.aload_n 0, 1) := by decide +kernel
theorem dX7_restore_51 : decode cX7_restore 51 = .ok (.getfield 12, 3) := by decide +kernel
theorem dX7_restore_54 : decode cX7_restore 54 = .ok (.invokevirtual 156, 3) := by decide +kernel
theorem dX7_restore_57 : decode cX7_restore 57 = .ok (.invokevirtual 50, 3) := by decide +kernel
theorem dX7_restore_60 : decode cX7_restore 60 = .ok (.ireturn, 1) := by decide +kernel
theorem dL_law_0 : decode cL_law 0 = .ok (.new 7, 3) := by decide +kernel
theorem dL_law_3 : decode cL_law 3 = .ok (.dup, 1) := by decide +kernel
theorem dL_law_4 : decode cL_law 4 = .ok (.invokespecial 9, 3) := by decide +kernel
theorem dL_law_7 : decode cL_law 7 = .ok (.astore_n 1, 1) := by decide +kernel
theorem dL_law_8 : decode cL_law 8 = .ok (.new 10, 3) := by decide +kernel
theorem dL_law_11 : decode cL_law 11 = .ok (.dup, 1) := by decide +kernel
theorem dL_law_12 : decode cL_law 12 = .ok (.invokespecial 12, 3) := by decide +kernel
theorem dL_law_15 : decode cL_law 15 = .ok (.astore_n 2, 1) := by decide +kernel
theorem dL_law_16 : decode cL_law 16 = .ok (.iconst 0, 1) := by decide +kernel
theorem dL_law_17 : decode cL_law 17 = .ok (.istore_n 3, 1) := by decide +kernel
theorem dL_law_18 : decode cL_law 18 = .ok (.iload_n 3, 1) := by decide +kernel
theorem dL_law_19 : decode cL_law 19 = .ok (.aload_n 0, 1) := by decide +kernel
theorem dL_law_20 : decode cL_law 20 = .ok (.arraylength, 1) := by decide +kernel
theorem dL_law_21 : decode cL_law 21 = .ok (.iconst 4, 1) := by decide +kernel
theorem dL_law_22 : decode cL_law 22 = .ok (.isub, 1) := by decide +kernel
theorem dL_law_23 : decode cL_law 23 = .ok (.if_icmp .gt 668, 3) := by decide +kernel
theorem dL_law_26 : decode cL_law 26 = .ok (.aload_n 0, 1) := by decide +kernel
theorem dL_law_27 : decode cL_law 27 = .ok (.iload_n 3, 1) := by decide +kernel
theorem dL_law_28 : decode cL_law 28 = .ok (.iaload, 1) := by decide +kernel
theorem dL_law_29 : decode cL_law 29 = .ok (.bipush 31, 2) := by decide +kernel
theorem dL_law_31 : decode cL_law 31 = .ok (.iand, 1) := by decide +kernel
theorem dL_law_32 : decode cL_law 32 = .ok (.tableswitch 653 0 20 #[100, 133, 156, 179, 202, 225, 258, 291, 334, 357, 380, 413, 436, 469, 502, 555, 568, 581, 594, 607, 630], 100) := by decide +kernel
theorem dL_law_132 : decode cL_law 132 = .ok (.aload_n 1, 1) := by decide +kernel
theorem dL_law_133 : decode cL_law 133 = .ok (.aload_n 0, 1) := by decide +kernel
theorem dL_law_134 : decode cL_law 134 = .ok (.iload_n 3, 1) := by decide +kernel
theorem dL_law_135 : decode cL_law 135 = .ok (.iconst 1, 1) := by decide +kernel
theorem dL_law_136 : decode cL_law 136 = .ok (.iadd, 1) := by decide +kernel
theorem dL_law_137 : decode cL_law 137 = .ok (.iaload, 1) := by decide +kernel
theorem dL_law_138 : decode cL_law 138 = .ok (.aload_n 0, 1) := by decide +kernel
theorem dL_law_139 : decode cL_law 139 = .ok (.iload_n 3, 1) := by decide +kernel
theorem dL_law_140 : decode cL_law 140 = .ok (.iconst 2, 1) := by decide +kernel
theorem dL_law_141 : decode cL_law 141 = .ok (.iadd, 1) := by decide +kernel
theorem dL_law_142 : decode cL_law 142 = .ok (.iaload, 1) := by decide +kernel
theorem dL_law_143 : decode cL_law 143 = .ok (.invokevirtual 13, 3) := by decide +kernel
theorem dL_law_146 : decode cL_law 146 = .ok (.aload_n 2, 1) := by decide +kernel
theorem dL_law_147 : decode cL_law 147 = .ok (.aload_n 0, 1) := by decide +kernel
theorem dL_law_148 : decode cL_law 148 = .ok (.iload_n 3, 1) := by decide +kernel
theorem dL_law_149 : decode cL_law 149 = .ok (.iconst 1, 1) := by decide +kernel
theorem dL_law_150 : decode cL_law 150 = .ok (.iadd, 1) := by decide +kernel
theorem dL_law_151 : decode cL_law 151 = .ok (.iaload, 1) := by decide +kernel
theorem dL_law_152 : decode cL_law 152 = .ok (.aload_n 0, 1) := by decide +kernel
theorem dL_law_153 : decode cL_law 153 = .ok (.iload_n 3, 1) := by decide +kernel
theorem dL_law_154 : decode cL_law 154 = .ok (.iconst 2, 1) := by decide +kernel
theorem dL_law_155 : decode cL_law 155 = .ok (.iadd, 1) := by decide +kernel
theorem dL_law_156 : decode cL_law 156 = .ok (.iaload, 1) := by decide +kernel
theorem dL_law_157 : decode cL_law 157 = .ok (.invokevirtual 17, 3) := by decide +kernel
theorem dL_law_160 : decode cL_law 160 = .ok (.if_icmp .eq 525, 3) := by decide +kernel
theorem dL_law_163 : decode cL_law 163 = .ok (.iconst 0, 1) := by decide +kernel
theorem dL_law_164 : decode cL_law 164 = .ok (.ireturn, 1) := by decide +kernel
theorem dL_law_165 : decode cL_law 165 = .ok (.aload_n 1, 1) := by decide +kernel
theorem dL_law_166 : decode cL_law 166 = .ok (.aload_n 0, 1) := by decide +kernel
theorem dL_law_167 : decode cL_law 167 = .ok (.iload_n 3, 1) := by decide +kernel
theorem dL_law_168 : decode cL_law 168 = .ok (.iconst 1, 1) := by decide +kernel
theorem dL_law_169 : decode cL_law 169 = .ok (.iadd, 1) := by decide +kernel
theorem dL_law_170 : decode cL_law 170 = .ok (.iaload, 1) := by decide +kernel
theorem dL_law_171 : decode cL_law 171 = .ok (.invokevirtual 18, 3) := by decide +kernel
theorem dL_law_174 : decode cL_law 174 = .ok (.aload_n 2, 1) := by decide +kernel
theorem dL_law_175 : decode cL_law 175 = .ok (.aload_n 0, 1) := by decide +kernel
theorem dL_law_176 : decode cL_law 176 = .ok (.iload_n 3, 1) := by decide +kernel
theorem dL_law_177 : decode cL_law 177 = .ok (.iconst 1, 1) := by decide +kernel
theorem dL_law_178 : decode cL_law 178 = .ok (.iadd, 1) := by decide +kernel
theorem dL_law_179 : decode cL_law 179 = .ok (.iaload, 1) := by decide +kernel
theorem dL_law_180 : decode cL_law 180 = .ok (.invokevirtual 22, 3) := by decide +kernel
theorem dL_law_183 : decode cL_law 183 = .ok (.if_icmp .eq 502, 3) := by decide +kernel
theorem dL_law_186 : decode cL_law 186 = .ok (.iconst 0, 1) := by decide +kernel
theorem dL_law_187 : decode cL_law 187 = .ok (.ireturn, 1) := by decide +kernel
theorem dL_law_188 : decode cL_law 188 = .ok (.aload_n 1, 1) := by decide +kernel
theorem dL_law_189 : decode cL_law 189 = .ok (.aload_n 0, 1) := by decide +kernel
theorem dL_law_190 : decode cL_law 190 = .ok (.iload_n 3, 1) := by decide +kernel
theorem dL_law_191 : decode cL_law 191 = .ok (.iconst 1, 1) := by decide +kernel
theorem dL_law_192 : decode cL_law 192 = .ok (.iadd, 1) := by decide +kernel
theorem dL_law_193 : decode cL_law 193 = .ok (.iaload, 1) := by decide +kernel
theorem dL_law_194 : decode cL_law 194 = .ok (.invokevirtual 23, 3) := by decide +kernel
theorem dL_law_197 : decode cL_law 197 = .ok (.aload_n 2, 1) := by decide +kernel
theorem dL_law_198 : decode cL_law 198 = .ok (.aload_n 0, 1) := by decide +kernel
theorem dL_law_199 : decode cL_law 199 = .ok (.iload_n 3, 1) := by decide +kernel
theorem dL_law_200 : decode cL_law 200 = .ok (.iconst 1, 1) := by decide +kernel
theorem dL_law_201 : decode cL_law 201 = .ok (.iadd, 1) := by decide +kernel
theorem dL_law_202 : decode cL_law 202 = .ok (.iaload, 1) := by decide +kernel
theorem dL_law_203 : decode cL_law 203 = .ok (.invokevirtual 26, 3) := by decide +kernel
theorem dL_law_206 : decode cL_law 206 = .ok (.if_icmp .eq 479, 3) := by decide +kernel
theorem dL_law_209 : decode cL_law 209 = .ok (.iconst 0, 1) := by decide +kernel
theorem dL_law_210 : decode cL_law 210 = .ok (.ireturn, 1) := by decide +kernel
theorem dL_law_211 : decode cL_law 211 = .ok (.aload_n 1, 1) := by decide +kernel
theorem dL_law_212 : decode cL_law 212 = .ok (.aload_n 0, 1) := by decide +kernel
theorem dL_law_213 : decode cL_law 213 = .ok (.iload_n 3, 1) := by decide +kernel
theorem dL_law_214 : decode cL_law 214 = .ok (.iconst 1, 1) := by decide +kernel
theorem dL_law_215 : decode cL_law 215 = .ok (.iadd, 1) := by decide +kernel
theorem dL_law_216 : decode cL_law 216 = .ok (.iaload, 1) := by decide +kernel
theorem dL_law_217 : decode cL_law 217 = .ok (.invokevirtual 27, 3) := by decide +kernel
theorem dL_law_220 : decode cL_law 220 = .ok (.aload_n 2, 1) := by decide +kernel
theorem dL_law_221 : decode cL_law 221 = .ok (.aload_n 0, 1) := by decide +kernel
theorem dL_law_222 : decode cL_law 222 = .ok (.iload_n 3, 1) := by decide +kernel
theorem dL_law_223 : decode cL_law 223 = .ok (.iconst 1, 1) := by decide +kernel
theorem dL_law_224 : decode cL_law 224 = .ok (.iadd, 1) := by decide +kernel
theorem dL_law_225 : decode cL_law 225 = .ok (.iaload, 1) := by decide +kernel
theorem dL_law_226 : decode cL_law 226 = .ok (.invokevirtual 30, 3) := by decide +kernel
theorem dL_law_229 : decode cL_law 229 = .ok (.if_icmp .eq 456, 3) := by decide +kernel
theorem dL_law_232 : decode cL_law 232 = .ok (.iconst 0, 1) := by decide +kernel
theorem dL_law_233 : decode cL_law 233 = .ok (.ireturn, 1) := by decide +kernel
theorem dL_law_234 : decode cL_law 234 = .ok (.aload_n 1, 1) := by decide +kernel
theorem dL_law_235 : decode cL_law 235 = .ok (.aload_n 0, 1) := by decide +kernel
theorem dL_law_236 : decode cL_law 236 = .ok (.iload_n 3, 1) := by decide +kernel
theorem dL_law_237 : decode cL_law 237 = .ok (.iconst 1, 1) := by decide +kernel
theorem dL_law_238 : decode cL_law 238 = .ok (.iadd, 1) := by decide +kernel
theorem dL_law_239 : decode cL_law 239 = .ok (.iaload, 1) := by decide +kernel
theorem dL_law_240 : decode cL_law 240 = .ok (.invokevirtual 31, 3) := by decide +kernel
theorem dL_law_243 : decode cL_law 243 = .ok (.aload_n 2, 1) := by decide +kernel
theorem dL_law_244 : decode cL_law 244 = .ok (.aload_n 0, 1) := by decide +kernel
theorem dL_law_245 : decode cL_law 245 = .ok (.iload_n 3, 1) := by decide +kernel
theorem dL_law_246 : decode cL_law 246 = .ok (.iconst 1, 1) := by decide +kernel
theorem dL_law_247 : decode cL_law 247 = .ok (.iadd, 1) := by decide +kernel
theorem dL_law_248 : decode cL_law 248 = .ok (.iaload, 1) := by decide +kernel
theorem dL_law_249 : decode cL_law 249 = .ok (.invokevirtual 34, 3) := by decide +kernel
theorem dL_law_252 : decode cL_law 252 = .ok (.if_icmp .eq 433, 3) := by decide +kernel
theorem dL_law_255 : decode cL_law 255 = .ok (.iconst 0, 1) := by decide +kernel
theorem dL_law_256 : decode cL_law 256 = .ok (.ireturn, 1) := by decide +kernel
theorem dL_law_257 : decode cL_law 257 = .ok (.aload_n 1, 1) := by decide +kernel
theorem dL_law_258 : decode cL_law 258 = .ok (.aload_n 0, 1) := by decide +kernel
theorem dL_law_259 : decode cL_law 259 = .ok (.iload_n 3, 1) := by decide +kernel
theorem dL_law_260 : decode cL_law 260 = .ok (.iconst 1, 1) := by decide +kernel
theorem dL_law_261 : decode cL_law 261 = .ok (.iadd, 1) := by decide +kernel
theorem dL_law_262 : decode cL_law 262 = .ok (.iaload, 1) := by decide +kernel
theorem dL_law_263 : decode cL_law 263 = .ok (.aload_n 0, 1) := by decide +kernel
theorem dL_law_264 : decode cL_law 264 = .ok (.iload_n 3, 1) := by decide +kernel
theorem dL_law_265 : decode cL_law 265 = .ok (.iconst 2, 1) := by decide +kernel
theorem dL_law_266 : decode cL_law 266 = .ok (.iadd, 1) := by decide +kernel
theorem dL_law_267 : decode cL_law 267 = .ok (.iaload, 1) := by decide +kernel
theorem dL_law_268 : decode cL_law 268 = .ok (.invokevirtual 35, 3) := by decide +kernel
theorem dL_law_271 : decode cL_law 271 = .ok (.aload_n 2, 1) := by decide +kernel
theorem dL_law_272 : decode cL_law 272 = .ok (.aload_n 0, 1) := by decide +kernel
theorem dL_law_273 : decode cL_law 273 = .ok (.iload_n 3, 1) := by decide +kernel
theorem dL_law_274 : decode cL_law 274 = .ok (.iconst 1, 1) := by decide +kernel
theorem dL_law_275 : decode cL_law 275 = .ok (.iadd, 1) := by decide +kernel
theorem dL_law_276 : decode cL_law 276 = .ok (.iaload, 1) := by decide +kernel
theorem dL_law_277 : decode cL_law 277 = .ok (.aload_n 0, 1) := by decide +kernel
theorem dL_law_278 : decode cL_law 278 = .ok (.iload_n 3, 1) := by decide +kernel
theorem dL_law_279 : decode cL_law 279 = .ok (.iconst 2, 1) := by decide +kernel
theorem dL_law_280 : decode cL_law 280 = .ok (.iadd, 1) := by decide +kernel
theorem dL_law_281 : decode cL_law 281 = .ok (.iaload, 1) := by decide +kernel
theorem dL_law_282 : decode cL_law 282 = .ok (.invokevirtual 38, 3) := by decide +kernel
theorem dL_law_285 : decode cL_law 285 = .ok (.if_icmp .eq 400, 3) := by decide +kernel
theorem dL_law_288 : decode cL_law 288 = .ok (.iconst 0, 1) := by decide +kernel
theorem dL_law_289 : decode cL_law 289 = .ok (.ireturn, 1) := by decide +kernel
theorem dL_law_290 : decode cL_law 290 = .ok (.aload_n 1, 1) := by decide +kernel
theorem dL_law_291 : decode cL_law 291 = .ok (.aload_n 0, 1) := by decide +kernel
theorem dL_law_292 : decode cL_law 292 = .ok (.iload_n 3, 1) := by decide +kernel
theorem dL_law_293 : decode cL_law 293 = .ok (.iconst 1, 1) := by decide +kernel
theorem dL_law_294 : decode cL_law 294 = .ok (.iadd, 1) := by decide +kernel
theorem dL_law_295 : decode cL_law 295 = .ok (.iaload, 1) := by decide +kernel
theorem dL_law_296 : decode cL_law 296 = .ok (.aload_n 0, 1) := by decide +kernel
theorem dL_law_297 : decode cL_law 297 = .ok (.iload_n 3, 1) := by decide +kernel
theorem dL_law_298 : decode cL_law 298 = .ok (.iconst 2, 1) := by decide +kernel
theorem dL_law_299 : decode cL_law 299 = .ok (.iadd, 1) := by decide +kernel
theorem dL_law_300 : decode cL_law 300 = .ok (.iaload, 1) := by decide +kernel
theorem dL_law_301 : decode cL_law 301 = .ok (.invokevirtual 39, 3) := by decide +kernel
theorem dL_law_304 : decode cL_law 304 = .ok (.aload_n 2, 1) := by decide +kernel
theorem dL_law_305 : decode cL_law 305 = .ok (.aload_n 0, 1) := by decide +kernel
theorem dL_law_306 : decode cL_law 306 = .ok (.iload_n 3, 1) := by decide +kernel
theorem dL_law_307 : decode cL_law 307 = .ok (.iconst 1, 1) := by decide +kernel
theorem dL_law_308 : decode cL_law 308 = .ok (.iadd, 1) := by decide +kernel
theorem dL_law_309 : decode cL_law 309 = .ok (.iaload, 1) := by decide +kernel
theorem dL_law_310 : decode cL_law 310 = .ok (.aload_n 0, 1) := by decide +kernel
theorem dL_law_311 : decode cL_law 311 = .ok (.iload_n 3, 1) := by decide +kernel
theorem dL_law_312 : decode cL_law 312 = .ok (.iconst 2, 1) := by decide +kernel
theorem dL_law_313 : decode cL_law 313 = .ok (.iadd, 1) := by decide +kernel
theorem dL_law_314 : decode cL_law 314 = .ok (.iaload, 1) := by decide +kernel
theorem dL_law_315 : decode cL_law 315 = .ok (.invokevirtual 42, 3) := by decide +kernel
theorem dL_law_318 : decode cL_law 318 = .ok (.if_icmp .eq 367, 3) := by decide +kernel
theorem dL_law_321 : decode cL_law 321 = .ok (.iconst 0, 1) := by decide +kernel
theorem dL_law_322 : decode cL_law 322 = .ok (.ireturn, 1) := by decide +kernel
theorem dL_law_323 : decode cL_law 323 = .ok (.aload_n 1, 1) := by decide +kernel
theorem dL_law_324 : decode cL_law 324 = .ok (.aload_n 0, 1) := by decide +kernel
theorem dL_law_325 : decode cL_law 325 = .ok (.iload_n 3, 1) := by decide +kernel
theorem dL_law_326 : decode cL_law 326 = .ok (.iconst 1, 1) := by decide +kernel
theorem dL_law_327 : decode cL_law 327 = .ok (.iadd, 1) := by decide +kernel
theorem dL_law_328 : decode cL_law 328 = .ok (.iaload, 1) := by decide +kernel
theorem dL_law_329 : decode cL_law 329 = .ok (.aload_n 0, 1) := by decide +kernel
theorem dL_law_330 : decode cL_law 330 = .ok (.iload_n 3, 1) := by decide +kernel
theorem dL_law_331 : decode cL_law 331 = .ok (.iconst 2, 1) := by decide +kernel
theorem dL_law_332 : decode cL_law 332 = .ok (.iadd, 1) := by decide +kernel
theorem dL_law_333 : decode cL_law 333 = .ok (.iaload, 1) := by decide +kernel
theorem dL_law_334 : decode cL_law 334 = .ok (.aload_n 0, 1) := by decide +kernel
theorem dL_law_335 : decode cL_law 335 = .ok (.iload_n 3, 1) := by decide +kernel
theorem dL_law_336 : decode cL_law 336 = .ok (.iconst 3, 1) := by decide +kernel
theorem dL_law_337 : decode cL_law 337 = .ok (.iadd, 1) := by decide +kernel
theorem dL_law_338 : decode cL_law 338 = .ok (.iaload, 1) := by decide +kernel
theorem dL_law_339 : decode cL_law 339 = .ok (.invokevirtual 43, 3) := by decide +kernel
theorem dL_law_342 : decode cL_law 342 = .ok (.aload_n 2, 1) := by decide +kernel
theorem dL_law_343 : decode cL_law 343 = .ok (.aload_n 0, 1) := by decide +kernel
theorem dL_law_344 : decode cL_law 344 = .ok (.iload_n 3, 1) := by decide +kernel
theorem dL_law_345 : decode cL_law 345 = .ok (.iconst 1, 1) := by decide +kernel
theorem dL_law_346 : decode cL_law 346 = .ok (.iadd, 1) := by decide +kernel
theorem dL_law_347 : decode cL_law 347 = .ok (.iaload, 1) := by decide +kernel
theorem dL_law_348 : decode cL_law 348 = .ok (.aload_n 0, 1) := by decide +kernel
theorem dL_law_349 : decode cL_law 349 = .ok (.iload_n 3, 1) := by decide +kernel
theorem dL_law_350 : decode cL_law 350 = .ok (.iconst 2, 1) := by decide +kernel
theorem dL_law_351 : decode cL_law 351 = .ok (.iadd, 1) := by decide +kernel
theorem dL_law_352 : decode cL_law 352 = .ok (.iaload, 1) := by decide +kernel
theorem dL_law_353 : decode cL_law 353 = .ok (.aload_n 0, 1) := by decide +kernel
theorem dL_law_354 : decode cL_law 354 = .ok (.iload_n 3, 1) := by decide +kernel
theorem dL_law_355 : decode cL_law 355 = .ok (.iconst 3, 1) := by decide +kernel
theorem dL_law_356 : decode cL_law 356 = .ok (.iadd, 1) := by decide +kernel
theorem dL_law_357 : decode cL_law 357 = .ok (.iaload, 1) := by decide +kernel
theorem dL_law_358 : decode cL_law 358 = .ok (.invokevirtual 47, 3) := by decide +kernel
theorem dL_law_361 : decode cL_law 361 = .ok (.if_icmp .eq 324, 3) := by decide +kernel
theorem dL_law_364 : decode cL_law 364 = .ok (.iconst 0, 1) := by decide +kernel
theorem dL_law_365 : decode cL_law 365 = .ok (.ireturn, 1) := by decide +kernel
theorem dL_law_366 : decode cL_law 366 = .ok (.aload_n 1, 1) := by decide +kernel
theorem dL_law_367 : decode cL_law 367 = .ok (.aload_n 0, 1) := by decide +kernel
theorem dL_law_368 : decode cL_law 368 = .ok (.iload_n 3, 1) := by decide +kernel
theorem dL_law_369 : decode cL_law 369 = .ok (.iconst 1, 1) := by decide +kernel
theorem dL_law_370 : decode cL_law 370 = .ok (.iadd, 1) := by decide +kernel
theorem dL_law_371 : decode cL_law 371 = .ok (.iaload, 1) := by decide +kernel
theorem dL_law_372 : decode cL_law 372 = .ok (.invokevirtual 48, 3) := by decide +kernel
theorem dL_law_375 : decode cL_law 375 = .ok (.aload_n 2, 1) := by decide +kernel
theorem dL_law_376 : decode cL_law 376 = .ok (.aload_n 0, 1) := by decide +kernel
theorem dL_law_377 : decode cL_law 377 = .ok (.iload_n 3, 1) := by decide +kernel
theorem dL_law_378 : decode cL_law 378 = .ok (.iconst 1, 1) := by decide +kernel
theorem dL_law_379 : decode cL_law 379 = .ok (.iadd, 1) := by decide +kernel
theorem dL_law_380 : decode cL_law 380 = .ok (.iaload, 1) := by decide +kernel
theorem dL_law_381 : decode cL_law 381 = .ok (.invokevirtual 51, 3) := by decide +kernel
theorem dL_law_384 : decode cL_law 384 = .ok (.if_icmp .eq 301, 3) := by decide +kernel
theorem dL_law_387 : decode cL_law 387 = .ok (.iconst 0, 1) := by decide +kernel
theorem dL_law_388 : decode cL_law 388 = .ok (.ireturn, 1) := by decide +kernel
theorem dL_law_389 : decode cL_law 389 = .ok (.aload_n 1, 1) := by decide +kernel
theorem dL_law_390 : decode cL_law 390 = .ok (.aload_n 0, 1) := by decide +kernel
theorem dL_law_391 : decode cL_law 391 = .ok (.iload_n 3, 1) := by decide +kernel
theorem dL_law_392 : decode cL_law 392 = .ok (.iconst 1, 1) := by decide +kernel
theorem dL_law_393 : decode cL_law 393 = .ok (.iadd, 1) := by decide +kernel
theorem dL_law_394 : decode cL_law 394 = .ok (.iaload, 1) := by decide +kernel
theorem dL_law_395 : decode cL_law 395 = .ok (.invokevirtual 52, 3) := by decide +kernel
theorem dL_law_398 : decode cL_law 398 = .ok (.aload_n 2, 1) := by decide +kernel
theorem dL_law_399 : decode cL_law 399 = .ok (.aload_n 0, 1) := by decide +kernel
theorem dL_law_400 : decode cL_law 400 = .ok (.iload_n 3, 1) := by decide +kernel
theorem dL_law_401 : decode cL_law 401 = .ok (.iconst 1, 1) := by decide +kernel
theorem dL_law_402 : decode cL_law 402 = .ok (.iadd, 1) := by decide +kernel
theorem dL_law_403 : decode cL_law 403 = .ok (.iaload, 1) := by decide +kernel
theorem dL_law_404 : decode cL_law 404 = .ok (.invokevirtual 55, 3) := by decide +kernel
theorem dL_law_407 : decode cL_law 407 = .ok (.if_icmp .eq 278, 3) := by decide +kernel
theorem dL_law_410 : decode cL_law 410 = .ok (.iconst 0, 1) := by decide +kernel
theorem dL_law_411 : decode cL_law 411 = .ok (.ireturn, 1) := by decide +kernel
theorem dL_law_412 : decode cL_law 412 = .ok (.aload_n 1, 1) := by decide +kernel
theorem dL_law_413 : decode cL_law 413 = .ok (.aload_n 0, 1) := by decide +kernel
theorem dL_law_414 : decode cL_law 414 = .ok (.iload_n 3, 1) := by decide +kernel
theorem dL_law_415 : decode cL_law 415 = .ok (.iconst 1, 1) := by decide +kernel
theorem dL_law_416 : decode cL_law 416 = .ok (.iadd, 1) := by decide +kernel
theorem dL_law_417 : decode cL_law 417 = .ok (.iaload, 1) := by decide +kernel
theorem dL_law_418 : decode cL_law 418 = .ok (.aload_n 0, 1) := by decide +kernel
theorem dL_law_419 : decode cL_law 419 = .ok (.iload_n 3, 1) := by decide +kernel
theorem dL_law_420 : decode cL_law 420 = .ok (.iconst 2, 1) := by decide +kernel
theorem dL_law_421 : decode cL_law 421 = .ok (.iadd, 1) := by decide +kernel
theorem dL_law_422 : decode cL_law 422 = .ok (.iaload, 1) := by decide +kernel
theorem dL_law_423 : decode cL_law 423 = .ok (.invokevirtual 56, 3) := by decide +kernel
theorem dL_law_426 : decode cL_law 426 = .ok (.aload_n 2, 1) := by decide +kernel
theorem dL_law_427 : decode cL_law 427 = .ok (.aload_n 0, 1) := by decide +kernel
theorem dL_law_428 : decode cL_law 428 = .ok (.iload_n 3, 1) := by decide +kernel
theorem dL_law_429 : decode cL_law 429 = .ok (.iconst 1, 1) := by decide +kernel
theorem dL_law_430 : decode cL_law 430 = .ok (.iadd, 1) := by decide +kernel
theorem dL_law_431 : decode cL_law 431 = .ok (.iaload, 1) := by decide +kernel
theorem dL_law_432 : decode cL_law 432 = .ok (.aload_n 0, 1) := by decide +kernel
theorem dL_law_433 : decode cL_law 433 = .ok (.iload_n 3, 1) := by decide +kernel
theorem dL_law_434 : decode cL_law 434 = .ok (.iconst 2, 1) := by decide +kernel
theorem dL_law_435 : decode cL_law 435 = .ok (.iadd, 1) := by decide +kernel
theorem dL_law_436 : decode cL_law 436 = .ok (.iaload, 1) := by decide +kernel
theorem dL_law_437 : decode cL_law 437 = .ok (.invokevirtual 59, 3) := by decide +kernel
theorem dL_law_440 : decode cL_law 440 = .ok (.if_icmp .eq 245, 3) := by decide +kernel
theorem dL_law_443 : decode cL_law 443 = .ok (.iconst 0, 1) := by decide +kernel
theorem dL_law_444 : decode cL_law 444 = .ok (.ireturn, 1) := by decide +kernel
theorem dL_law_445 : decode cL_law 445 = .ok (.aload_n 1, 1) := by decide +kernel
theorem dL_law_446 : decode cL_law 446 = .ok (.aload_n 0, 1) := by decide +kernel
theorem dL_law_447 : decode cL_law 447 = .ok (.iload_n 3, 1) := by decide +kernel
theorem dL_law_448 : decode cL_law 448 = .ok (.iconst 1, 1) := by decide +kernel
theorem dL_law_449 : decode cL_law 449 = .ok (.iadd, 1) := by decide +kernel
theorem dL_law_450 : decode cL_law 450 = .ok (.iaload, 1) := by decide +kernel
theorem dL_law_451 : decode cL_law 451 = .ok (.invokevirtual 60, 3) := by decide +kernel
theorem dL_law_454 : decode cL_law 454 = .ok (.aload_n 2, 1) := by decide +kernel
theorem dL_law_455 : decode cL_law 455 = .ok (.aload_n 0, 1) := by decide +kernel
theorem dL_law_456 : decode cL_law 456 = .ok (.iload_n 3, 1) := by decide +kernel
theorem dL_law_457 : decode cL_law 457 = .ok (.iconst 1, 1) := by decide +kernel
theorem dL_law_458 : decode cL_law 458 = .ok (.iadd, 1) := by decide +kernel
theorem dL_law_459 : decode cL_law 459 = .ok (.iaload, 1) := by decide +kernel
theorem dL_law_460 : decode cL_law 460 = .ok (.invokevirtual 63, 3) := by decide +kernel
theorem dL_law_463 : decode cL_law 463 = .ok (.if_icmp .eq 222, 3) := by decide +kernel
theorem dL_law_466 : decode cL_law 466 = .ok (.iconst 0, 1) := by decide +kernel
theorem dL_law_467 : decode cL_law 467 = .ok (.ireturn, 1) := by decide +kernel
theorem dL_law_468 : decode cL_law 468 = .ok (.aload_n 1, 1) := by decide +kernel
theorem dL_law_469 : decode cL_law 469 = .ok (.aload_n 0, 1) := by decide +kernel
theorem dL_law_470 : decode cL_law 470 = .ok (.iload_n 3, 1) := by decide +kernel
theorem dL_law_471 : decode cL_law 471 = .ok (.iconst 1, 1) := by decide +kernel
theorem dL_law_472 : decode cL_law 472 = .ok (.iadd, 1) := by decide +kernel
theorem dL_law_473 : decode cL_law 473 = .ok (.iaload, 1) := by decide +kernel
theorem dL_law_474 : decode cL_law 474 = .ok (.aload_n 0, 1) := by decide +kernel
theorem dL_law_475 : decode cL_law 475 = .ok (.iload_n 3, 1) := by decide +kernel
theorem dL_law_476 : decode cL_law 476 = .ok (.iconst 2, 1) := by decide +kernel
theorem dL_law_477 : decode cL_law 477 = .ok (.iadd, 1) := by decide +kernel
theorem dL_law_478 : decode cL_law 478 = .ok (.iaload, 1) := by decide +kernel
theorem dL_law_479 : decode cL_law 479 = .ok (.invokevirtual 64, 3) := by decide +kernel
theorem dL_law_482 : decode cL_law 482 = .ok (.aload_n 2, 1) := by decide +kernel
theorem dL_law_483 : decode cL_law 483 = .ok (.aload_n 0, 1) := by decide +kernel
theorem dL_law_484 : decode cL_law 484 = .ok (.iload_n 3, 1) := by decide +kernel
theorem dL_law_485 : decode cL_law 485 = .ok (.iconst 1, 1) := by decide +kernel
theorem dL_law_486 : decode cL_law 486 = .ok (.iadd, 1) := by decide +kernel
theorem dL_law_487 : decode cL_law 487 = .ok (.iaload, 1) := by decide +kernel
theorem dL_law_488 : decode cL_law 488 = .ok (.aload_n 0, 1) := by decide +kernel
theorem dL_law_489 : decode cL_law 489 = .ok (.iload_n 3, 1) := by decide +kernel
theorem dL_law_490 : decode cL_law 490 = .ok (.iconst 2, 1) := by decide +kernel
theorem dL_law_491 : decode cL_law 491 = .ok (.iadd, 1) := by decide +kernel
theorem dL_law_492 : decode cL_law 492 = .ok (.iaload, 1) := by decide +kernel
theorem dL_law_493 : decode cL_law 493 = .ok (.invokevirtual 67, 3) := by decide +kernel
theorem dL_law_496 : decode cL_law 496 = .ok (.if_icmp .eq 189, 3) := by decide +kernel
theorem dL_law_499 : decode cL_law 499 = .ok (.iconst 0, 1) := by decide +kernel
theorem dL_law_500 : decode cL_law 500 = .ok (.ireturn, 1) := by decide +kernel
theorem dL_law_501 : decode cL_law 501 = .ok (.aload_n 1, 1) := by decide +kernel
theorem dL_law_502 : decode cL_law 502 = .ok (.aload_n 0, 1) := by decide +kernel
theorem dL_law_503 : decode cL_law 503 = .ok (.iload_n 3, 1) := by decide +kernel
theorem dL_law_504 : decode cL_law 504 = .ok (.iconst 1, 1) := by decide +kernel
theorem dL_law_505 : decode cL_law 505 = .ok (.iadd, 1) := by decide +kernel
theorem dL_law_506 : decode cL_law 506 = .ok (.iaload, 1) := by decide +kernel
theorem dL_law_507 : decode cL_law 507 = .ok (.aload_n 0, 1) := by decide +kernel
theorem dL_law_508 : decode cL_law 508 = .ok (.iload_n 3, 1) := by decide +kernel
theorem dL_law_509 : decode cL_law 509 = .ok (.iconst 2, 1) := by decide +kernel
theorem dL_law_510 : decode cL_law 510 = .ok (.iadd, 1) := by decide +kernel
theorem dL_law_511 : decode cL_law 511 = .ok (.iaload, 1) := by decide +kernel
theorem dL_law_512 : decode cL_law 512 = .ok (.invokevirtual 68, 3) := by decide +kernel
theorem dL_law_515 : decode cL_law 515 = .ok (.aload_n 2, 1) := by decide +kernel
theorem dL_law_516 : decode cL_law 516 = .ok (.aload_n 0, 1) := by decide +kernel
theorem dL_law_517 : decode cL_law 517 = .ok (.iload_n 3, 1) := by decide +kernel
theorem dL_law_518 : decode cL_law 518 = .ok (.iconst 1, 1) := by decide +kernel
theorem dL_law_519 : decode cL_law 519 = .ok (.iadd, 1) := by decide +kernel
theorem dL_law_520 : decode cL_law 520 = .ok (.iaload, 1) := by decide +kernel
theorem dL_law_521 : decode cL_law 521 = .ok (.aload_n 0, 1) := by decide +kernel
theorem dL_law_522 : decode cL_law 522 = .ok (.iload_n 3, 1) := by decide +kernel
theorem dL_law_523 : decode cL_law 523 = .ok (.iconst 2, 1) := by decide +kernel
theorem dL_law_524 : decode cL_law 524 = .ok (.iadd, 1) := by decide +kernel
theorem dL_law_525 : decode cL_law 525 = .ok (.iaload, 1) := by decide +kernel
theorem dL_law_526 : decode cL_law 526 = .ok (.invokevirtual 71, 3) := by decide +kernel
theorem dL_law_529 : decode cL_law 529 = .ok (.if_icmp .eq 156, 3) := by decide +kernel
theorem dL_law_532 : decode cL_law 532 = .ok (.iconst 0, 1) := by decide +kernel
theorem dL_law_533 : decode cL_law 533 = .ok (.ireturn, 1) := by decide +kernel
theorem dL_law_534 : decode cL_law 534 = .ok (.aload_n 1, 1) := by decide +kernel
theorem dL_law_535 : decode cL_law 535 = .ok (.aload_n 0, 1) := by decide +kernel
theorem dL_law_536 : decode cL_law 536 = .ok (.iload_n 3, 1) := by decide +kernel
theorem dL_law_537 : decode cL_law 537 = .ok (.iconst 1, 1) := by decide +kernel
theorem dL_law_538 : decode cL_law 538 = .ok (.iadd, 1) := by decide +kernel
theorem dL_law_539 : decode cL_law 539 = .ok (.iaload, 1) := by decide +kernel
theorem dL_law_540 : decode cL_law 540 = .ok (.i2l, 1) := by decide +kernel
theorem dL_law_541 : decode cL_law 541 = .ok (.bipush 32, 2) := by decide +kernel
theorem dL_law_543 : decode cL_law 543 = .ok (.lshl, 1) := by decide +kernel
theorem dL_law_544 : decode cL_law 544 = .ok (.aload_n 0, 1) := by decide +kernel
theorem dL_law_545 : decode cL_law 545 = .ok (.iload_n 3, 1) := by decide +kernel
theorem dL_law_546 : decode cL_law 546 = .ok (.iconst 2, 1) := by decide +kernel
theorem dL_law_547 : decode cL_law 547 = .ok (.iadd, 1) := by decide +kernel
theorem dL_law_548 : decode cL_law 548 = .ok (.iaload, 1) := by decide +kernel
theorem dL_law_549 : decode cL_law 549 = .ok (.i2l, 1) := by decide +kernel
theorem dL_law_550 : decode cL_law 550 = .ok (.ldc2_w 72, 3) := by decide +kernel
theorem dL_law_553 : decode cL_law 553 = .ok (.land, 1) := by decide +kernel
theorem dL_law_554 : decode cL_law 554 = .ok (.lor, 1) := by decide +kernel
theorem dL_law_555 : decode cL_law 555 = .ok (.invokevirtual 74, 3) := by decide +kernel
theorem dL_law_558 : decode cL_law 558 = .ok (.aload_n 2, 1) := by decide +kernel
theorem dL_law_559 : decode cL_law 559 = .ok (.aload_n 0, 1) := by decide +kernel
theorem dL_law_560 : decode cL_law 560 = .ok (.iload_n 3, 1) := by decide +kernel
theorem dL_law_561 : decode cL_law 561 = .ok (.iconst 1, 1) := by decide +kernel
theorem dL_law_562 : decode cL_law 562 = .ok (.iadd, 1) := by decide +kernel
theorem dL_law_563 : decode cL_law 563 = .ok (.iaload, 1) := by decide +kernel
theorem dL_law_564 : decode cL_law 564 = .ok (.i2l, 1) := by decide +kernel
theorem dL_law_565 : decode cL_law 565 = .ok (.bipush 32, 2) := by decide +kernel
theorem dL_law_567 : decode cL_law 567 = .ok (.lshl, 1) := by decide +kernel
theorem dL_law_568 : decode cL_law 568 = .ok (.aload_n 0, 1) := by decide +kernel
theorem dL_law_569 : decode cL_law 569 = .ok (.iload_n 3, 1) := by decide +kernel
theorem dL_law_570 : decode cL_law 570 = .ok (.iconst 2, 1) := by decide +kernel
theorem dL_law_571 : decode cL_law 571 = .ok (.iadd, 1) := by decide +kernel
theorem dL_law_572 : decode cL_law 572 = .ok (.iaload, 1) := by decide +kernel
theorem dL_law_573 : decode cL_law 573 = .ok (.i2l, 1) := by decide +kernel
theorem dL_law_574 : decode cL_law 574 = .ok (.ldc2_w 72, 3) := by decide +kernel
theorem dL_law_577 : decode cL_law 577 = .ok (.land, 1) := by decide +kernel
theorem dL_law_578 : decode cL_law 578 = .ok (.lor, 1) := by decide +kernel
theorem dL_law_579 : decode cL_law 579 = .ok (.invokevirtual 78, 3) := by decide +kernel
theorem dL_law_582 : decode cL_law 582 = .ok (.if_icmp .eq 103, 3) := by decide +kernel
theorem dL_law_585 : decode cL_law 585 = .ok (.iconst 0, 1) := by decide +kernel
theorem dL_law_586 : decode cL_law 586 = .ok (.ireturn, 1) := by decide +kernel
theorem dL_law_587 : decode cL_law 587 = .ok (.aload_n 1, 1) := by decide +kernel
theorem dL_law_588 : decode cL_law 588 = .ok (.invokevirtual 79, 3) := by decide +kernel
theorem dL_law_591 : decode cL_law 591 = .ok (.aload_n 2, 1) := by decide +kernel
theorem dL_law_592 : decode cL_law 592 = .ok (.invokevirtual 83, 3) := by decide +kernel
theorem dL_law_595 : decode cL_law 595 = .ok (.if_icmp .eq 90, 3) := by decide +kernel
theorem dL_law_598 : decode cL_law 598 = .ok (.iconst 0, 1) := by decide +kernel
theorem dL_law_599 : decode cL_law 599 = .ok (.ireturn, 1) := by decide +kernel
theorem dL_law_600 : decode cL_law 600 = .ok (.aload_n 1, 1) := by decide +kernel
theorem dL_law_601 : decode cL_law 601 = .ok (.invokevirtual 84, 3) := by decide +kernel
theorem dL_law_604 : decode cL_law 604 = .ok (.aload_n 2, 1) := by decide +kernel
