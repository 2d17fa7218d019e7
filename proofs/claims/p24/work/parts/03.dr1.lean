theorem dX0_init_0 : decode cX0_init 0 = .ok (.aload_n 0, 1) := by decide +kernel
theorem dX0_init_1 : decode cX0_init 1 = .ok (.invokespecial 3, 3) := by decide +kernel
theorem dX0_init_4 : decode cX0_init 4 = .ok (.aload_n 0, 1) := by decide +kernel
theorem dX0_init_5 : decode cX0_init 5 = .ok (.new 9, 3) := by decide +kernel
theorem dX0_init_8 : decode cX0_init 8 = .ok (.dup, 1) := by decide +kernel
theorem dX0_init_9 : decode cX0_init 9 = .ok (.invokespecial 11, 3) := by decide +kernel
theorem dX0_init_12 : decode cX0_init 12 = .ok (.putfield 12, 3) := by decide +kernel
theorem dX0_init_15 : decode cX0_init 15 = .ok (.aload_n 0, 1) := by decide +kernel
theorem dX0_init_16 : decode cX0_init 16 = .ok (.new 18, 3) := by decide +kernel
theorem dX0_init_19 : decode cX0_init 19 = .ok (.dup, 1) := by decide +kernel
theorem dX0_init_20 : decode cX0_init 20 = .ok (.invokespecial 20, 3) := by decide +kernel
theorem dX0_init_23 : decode cX0_init 23 = .ok (.putfield 21, 3) := by decide +kernel
theorem dX0_init_26 : decode cX0_init 26 = .ok (.aload_n 0, 1) := by decide +kernel
theorem dX0_init_27 : decode cX0_init 27 = .ok (.new 25, 3) := by decide +kernel
theorem dX0_init_30 : decode cX0_init 30 = .ok (.dup, 1) := by decide +kernel
theorem dX0_init_31 : decode cX0_init 31 = .ok (.iconst 5, 1) := by decide +kernel
theorem dX0_init_32 : decode cX0_init 32 = .ok (.iconst 0, 1) := by decide +kernel
theorem dX0_init_33 : decode cX0_init 33 = .ok (.invokespecial 27, 3) := by decide +kernel
theorem dX0_init_36 : decode cX0_init 36 = .ok (.putfield 30, 3) := by decide +kernel
theorem dX0_init_39 : decode cX0_init 39 = .ok (.aload_n 0, 1) := by decide +kernel
theorem dX0_init_40 : decode cX0_init 40 = .ok (.new 25, 3) := by decide +kernel
theorem dX0_init_43 : decode cX0_init 43 = .ok (.dup, 1) := by decide +kernel
theorem dX0_init_44 : decode cX0_init 44 = .ok (.iconst 4, 1) := by decide +kernel
theorem dX0_init_45 : decode cX0_init 45 = .ok (.iconst 0, 1) := by decide +kernel
theorem dX0_init_46 : decode cX0_init 46 = .ok (.invokespecial 27, 3) := by decide +kernel
theorem dX0_init_49 : decode cX0_init 49 = .ok (.putfield 34, 3) := by decide +kernel
theorem dX0_init_52 : decode cX0_init 52 = .ok (.aload_n 0, 1) := by decide +kernel
theorem dX0_init_53 : decode cX0_init 53 = .ok (.new 25, 3) := by decide +kernel
theorem dX0_init_56 : decode cX0_init 56 = .ok (.dup, 1) := by decide +kernel
theorem dX0_init_57 : decode cX0_init 57 = .ok (.iconst 4, 1) := by decide +kernel
theorem dX0_init_58 : decode cX0_init 58 = .ok (.iconst 0, 1) := by decide +kernel
theorem dX0_init_59 : decode cX0_init 59 = .ok (.invokespecial 27, 3) := by decide +kernel
theorem dX0_init_62 : decode cX0_init 62 = .ok (.putfield 37, 3) := by decide +kernel
theorem dX0_init_65 : decode cX0_init 65 = .ok (.aload_n 0, 1) := by decide +kernel
theorem dX0_init_66 : decode cX0_init 66 = .ok (.new 25, 3) := by decide +kernel
theorem dX0_init_69 : decode cX0_init 69 = .ok (.dup, 1) := by decide +kernel
theorem dX0_init_70 : decode cX0_init 70 = .ok (.iconst 4, 1) := by decide +kernel
theorem dX0_init_71 : decode cX0_init 71 = .ok (.iconst 0, 1) := by decide +kernel
theorem dX0_init_72 : decode cX0_init 72 = .ok (.invokespecial 27, 3) := by decide +kernel
theorem dX0_init_75 : decode cX0_init 75 = .ok (.putfield 40, 3) := by decide +kernel
theorem dX0_init_78 : decode cX0_init 78 = .ok (.aload_n 0, 1) := by decide +kernel
theorem dX0_init_79 : decode cX0_init 79 = .ok (.new 25, 3) := by decide +kernel
theorem dX0_init_82 : decode cX0_init 82 = .ok (.dup, 1) := by decide +kernel
theorem dX0_init_83 : decode cX0_init 83 = .ok (.iconst 4, 1) := by decide +kernel
theorem dX0_init_84 : decode cX0_init 84 = .ok (.iconst 0, 1) := by decide +kernel
theorem dX0_init_85 : decode cX0_init 85 = .ok (.invokespecial 27, 3) := by decide +kernel
theorem dX0_init_88 : decode cX0_init 88 = .ok (.putfield 43, 3) := by decide +kernel
theorem dX0_init_91 : decode cX0_init 91 = .ok (.aload_n 0, 1) := by decide +kernel
theorem dX0_init_92 : decode cX0_init 92 = .ok (.new 25, 3) := by decide +kernel
theorem dX0_init_95 : decode cX0_init 95 = .ok (.dup, 1) := by decide +kernel
theorem dX0_init_96 : decode cX0_init 96 = .ok (.iconst 4, 1) := by decide +kernel
theorem dX0_init_97 : decode cX0_init 97 = .ok (.iconst 0, 1) := by decide +kernel
theorem dX0_init_98 : decode cX0_init 98 = .ok (.invokespecial 27, 3) := by decide +kernel
theorem dX0_init_101 : decode cX0_init 101 = .ok (.putfield 46, 3) := by decide +kernel
theorem dX0_init_104 : decode cX0_init 104 = .ok (.aload_n 0, 1) := by decide +kernel
theorem dX0_init_105 : decode cX0_init 105 = .ok (.new 25, 3) := by decide +kernel
theorem dX0_init_108 : decode cX0_init 108 = .ok (.dup, 1) := by decide +kernel
theorem dX0_init_109 : decode cX0_init 109 = .ok (.iconst 4, 1) := by decide +kernel
theorem dX0_init_110 : decode cX0_init 110 = .ok (.iconst 0, 1) := by decide +kernel
theorem dX0_init_111 : decode cX0_init 111 = .ok (.invokespecial 27, 3) := by decide +kernel
theorem dX0_init_114 : decode cX0_init 114 = .ok (.putfield 49, 3) := by decide +kernel
theorem dX0_init_117 : decode cX0_init 117 = .ok (.aload_n 0, 1) := by decide +kernel
theorem dX0_init_118 : decode cX0_init 118 = .ok (.iconst 0, 1) := by decide +kernel
theorem dX0_init_119 : decode cX0_init 119 = .ok (.putfield 52, 3) := by decide +kernel
theorem dX0_init_122 : decode cX0_init 122 = .ok (.aload_n 0, 1) := by decide +kernel
theorem dX0_init_123 : decode cX0_init 123 = .ok (.iconst 0, 1) := by decide +kernel
theorem dX0_init_124 : decode cX0_init 124 = .ok (.putfield 56, 3) := by decide +kernel
theorem dX0_init_127 : decode cX0_init 127 = .ok (.aload_n 0, 1) := by decide +kernel
theorem dX0_init_128 : decode cX0_init 128 = .ok (.iconst 1, 1) := by decide +kernel
theorem dX0_init_129 : decode cX0_init 129 = .ok (.putfield 59, 3) := by decide +kernel
theorem dX0_init_132 : decode cX0_init 132 = .ok (.aload_n 0, 1) := by decide +kernel
theorem dX0_init_133 : decode cX0_init 133 = .ok (.iconst 0, 1) := by decide +kernel
theorem dX0_init_134 : decode cX0_init 134 = .ok (.putfield 62, 3) := by decide +kernel
theorem dX0_init_137 : decode cX0_init 137 = .ok (.aload_n 0, 1) := by decide +kernel
theorem dX0_init_138 : decode cX0_init 138 = .ok (.iconst 0, 1) := by decide +kernel
theorem dX0_init_139 : decode cX0_init 139 = .ok (.putfield 65, 3) := by decide +kernel
theorem dX0_init_142 : decode cX0_init 142 = .ok (.aload_n 0, 1) := by decide +kernel
theorem dX0_init_143 : decode cX0_init 143 = .ok (.iconst 0, 1) := by decide +kernel
theorem dX0_init_144 : decode cX0_init 144 = .ok (.putfield 68, 3) := by decide +kernel
theorem dX0_init_147 : decode cX0_init 147 = .ok (.iconst 0, 1) := by decide +kernel
theorem dX0_init_148 : decode cX0_init 148 = .ok (.istore_n 1, 1) := by decide +kernel
theorem dX0_init_149 : decode cX0_init 149 = .ok (.iload_n 1, 1) := by decide +kernel
theorem dX0_init_150 : decode cX0_init 150 = .ok (.getstatic 71, 3) := by decide +kernel
theorem dX0_init_153 : decode cX0_init 153 = .ok (.arraylength, 1) := by decide +kernel
theorem dX0_init_154 : decode cX0_init 154 = .ok (.if_icmp .ge 22, 3) := by decide +kernel
theorem dX0_init_157 : decode cX0_init 157 = .ok (.aload_n 0, 1) := by decide +kernel
theorem dX0_init_158 : decode cX0_init 158 = .ok (.getfield 30, 3) := by decide +kernel
theorem dX0_init_161 : decode cX0_init 161 = .ok (.iload_n 1, 1) := by decide +kernel
theorem dX0_init_162 : decode cX0_init 162 = .ok (.getstatic 71, 3) := by decide +kernel
theorem dX0_init_165 : decode cX0_init 165 = .ok (.iload_n 1, 1) := by decide +kernel
theorem dX0_init_166 : decode cX0_init 166 = .ok (.iaload, 1) := by decide +kernel
theorem dX0_init_167 : decode cX0_init 167 = .ok (.invokevirtual 75, 3) := by decide +kernel
theorem dX0_init_170 : decode cX0_init 170 = .ok (.iinc 1 1, 3) := by decide +kernel
theorem dX0_init_173 : decode cX0_init 173 = .ok (.goto (-24), 3) := by decide +kernel
theorem dX0_init_176 : decode cX0_init 176 = .ok (.return_, 1) := by decide +kernel
theorem dX0_copyFrom_0 : decode cX0_copyFrom 0 = .ok (.aload_n 0, 1) := by decide +kernel
theorem dX0_copyFrom_1 : decode cX0_copyFrom 1 = .ok (.getfield 12, 3) := by decide +kernel
theorem dX0_copyFrom_4 : decode cX0_copyFrom 4 = .ok (.aload_n 1, 1) := by decide +kernel
theorem dX0_copyFrom_5 : decode cX0_copyFrom 5 = .ok (.getfield 12, 3) := by decide +kernel
theorem dX0_copyFrom_8 : decode cX0_copyFrom 8 = .ok (.invokevirtual 78, 3) := by decide +kernel
theorem dX0_copyFrom_11 : decode cX0_copyFrom 11 = .ok (.aload_n 0, 1) := by decide +kernel
theorem dX0_copyFrom_12 : decode cX0_copyFrom 12 = .ok (.getfield 21, 3) := by decide +kernel
theorem dX0_copyFrom_15 : decode cX0_copyFrom 15 = .ok (.aload_n 1, 1) := by decide +kernel
theorem dX0_copyFrom_16 : decode cX0_copyFrom 16 = .ok (.getfield 21, 3) := by decide +kernel
theorem dX0_copyFrom_19 : decode cX0_copyFrom 19 = .ok (.invokevirtual 82, 3) := by decide +kernel
theorem dX0_copyFrom_22 : decode cX0_copyFrom 22 = .ok (.aload_n 0, 1) := by decide +kernel
theorem dX0_copyFrom_23 : decode cX0_copyFrom 23 = .ok (.getfield 30, 3) := by decide +kernel
theorem dX0_copyFrom_26 : decode cX0_copyFrom 26 = .ok (.aload_n 1, 1) := by decide +kernel
theorem dX0_copyFrom_27 : decode cX0_copyFrom 27 = .ok (.getfield 30, 3) := by decide +kernel
theorem dX0_copyFrom_30 : decode cX0_copyFrom 30 = .ok (.invokevirtual 85, 3) := by decide +kernel
theorem dX0_copyFrom_33 : decode cX0_copyFrom 33 = .ok (.aload_n 0, 1) := by decide +kernel
theorem dX0_copyFrom_34 : decode cX0_copyFrom 34 = .ok (.getfield 34, 3) := by decide +kernel
theorem dX0_copyFrom_37 : decode cX0_copyFrom 37 = .ok (.aload_n 1, 1) := by decide +kernel
theorem dX0_copyFrom_38 : decode cX0_copyFrom 38 = .ok (.getfield 34, 3) := by decide +kernel
theorem dX0_copyFrom_41 : decode cX0_copyFrom 41 = .ok (.invokevirtual 85, 3) := by decide +kernel
theorem dX0_copyFrom_44 : decode cX0_copyFrom 44 = .ok (.aload_n 0, 1) := by decide +kernel
theorem dX0_copyFrom_45 : decode cX0_copyFrom 45 = .ok (.getfield 37, 3) := by decide +kernel
theorem dX0_copyFrom_48 : decode cX0_copyFrom 48 = .ok (.aload_n 1, 1) := by decide +kernel
theorem dX0_copyFrom_49 : decode cX0_copyFrom 49 = .ok (.getfield 37, 3) := by decide +kernel
theorem dX0_copyFrom_52 : decode cX0_copyFrom 52 = .ok (.invokevirtual 85, 3) := by decide +kernel
theorem dX0_copyFrom_55 : decode cX0_copyFrom 55 = .ok (.aload_n 0, 1) := by decide +kernel
theorem dX0_copyFrom_56 : decode cX0_copyFrom 56 = .ok (.getfield 40, 3) := by decide +kernel
theorem dX0_copyFrom_59 : decode cX0_copyFrom 59 = .ok (.aload_n 1, 1) := by decide +kernel
theorem dX0_copyFrom_60 : decode cX0_copyFrom 60 = .ok (.getfield 40, 3) := by decide +kernel
theorem dX0_copyFrom_63 : decode cX0_copyFrom 63 = .ok (.invokevirtual 85, 3) := by decide +kernel
theorem dX0_copyFrom_66 : decode cX0_copyFrom 66 = .ok (.aload_n 0, 1) := by decide +kernel
theorem dX0_copyFrom_67 : decode cX0_copyFrom 67 = .ok (.getfield 43, 3) := by decide +kernel
theorem dX0_copyFrom_70 : decode cX0_copyFrom 70 = .ok (.aload_n 1, 1) := by decide +kernel
theorem dX0_copyFrom_71 : decode cX0_copyFrom 71 = .ok (.getfield 43, 3) := by decide +kernel
theorem dX0_copyFrom_74 : decode cX0_copyFrom 74 = .ok (.invokevirtual 85, 3) := by decide +kernel
theorem dX0_copyFrom_77 : decode cX0_copyFrom 77 = .ok (.aload_n 0, 1) := by decide +kernel
theorem dX0_copyFrom_78 : decode cX0_copyFrom 78 = .ok (.getfield 46, 3) := by decide +kernel
theorem dX0_copyFrom_81 : decode cX0_copyFrom 81 = .ok (.aload_n 1, 1) := by decide +kernel
theorem dX0_copyFrom_82 : decode cX0_copyFrom 82 = .ok (.getfield 46, 3) := by decide +kernel
theorem dX0_copyFrom_85 : decode cX0_copyFrom 85 = .ok (.invokevirtual 85, 3) := by decide +kernel
theorem dX0_copyFrom_88 : decode cX0_copyFrom 88 = .ok (.aload_n 0, 1) := by decide +kernel
theorem dX0_copyFrom_89 : decode cX0_copyFrom 89 = .ok (.getfield 49, 3) := by decide +kernel
theorem dX0_copyFrom_92 : decode cX0_copyFrom 92 = .ok (.aload_n 1, 1) := by decide +kernel
theorem dX0_copyFrom_93 : decode cX0_copyFrom 93 = .ok (.getfield 49, 3) := by decide +kernel
theorem dX0_copyFrom_96 : decode cX0_copyFrom 96 = .ok (.invokevirtual 85, 3) := by decide +kernel
theorem dX0_copyFrom_99 : decode cX0_copyFrom 99 = .ok (.aload_n 0, 1) := by decide +kernel
theorem dX0_copyFrom_100 : decode cX0_copyFrom 100 = .ok (.aload_n 1, 1) := by decide +kernel
theorem dX0_copyFrom_101 : decode cX0_copyFrom 101 = .ok (.getfield 52, 3) := by decide +kernel
theorem dX0_copyFrom_104 : decode cX0_copyFrom 104 = .ok (.putfield 52, 3) := by decide +kernel
theorem dX0_copyFrom_107 : decode cX0_copyFrom 107 = .ok (.aload_n 0, 1) := by decide +kernel
theorem dX0_copyFrom_108 : decode cX0_copyFrom 108 = .ok (.aload_n 1, 1) := by decide +kernel
theorem dX0_copyFrom_109 : decode cX0_copyFrom 109 = .ok (.getfield 56, 3) := by decide +kernel
theorem dX0_copyFrom_112 : decode cX0_copyFrom 112 = .ok (.putfield 56, 3) := by decide +kernel
theorem dX0_copyFrom_115 : decode cX0_copyFrom 115 = .ok (.aload_n 0, 1) := by decide +kernel
theorem dX0_copyFrom_116 : decode cX0_copyFrom 116 = .ok (.aload_n 1, 1) := by decide +kernel
theorem dX0_copyFrom_117 : decode cX0_copyFrom 117 = .ok (.getfield 59, 3) := by decide +kernel
theorem dX0_copyFrom_120 : decode cX0_copyFrom 120 = .ok (.putfield 59, 3) := by decide +kernel
theorem dX0_copyFrom_123 : decode cX0_copyFrom 123 = .ok (.aload_n 0, 1) := by decide +kernel
theorem dX0_copyFrom_124 : decode cX0_copyFrom 124 = .ok (.aload_n 1, 1) := by decide +kernel
theorem dX0_copyFrom_125 : decode cX0_copyFrom 125 = .ok (.getfield 62, 3) := by decide +kernel
theorem dX0_copyFrom_128 : decode cX0_copyFrom 128 = .ok (.putfield 62, 3) := by decide +kernel
theorem dX0_copyFrom_131 : decode cX0_copyFrom 131 = .ok (.aload_n 0, 1) := by decide +kernel
theorem dX0_copyFrom_132 : decode cX0_copyFrom 132 = .ok (.aload_n 1, 1) := by decide +kernel
theorem dX0_copyFrom_133 : decode cX0_copyFrom 133 = .ok (.getfield 65, 3) := by decide +kernel
theorem dX0_copyFrom_136 : decode cX0_copyFrom 136 = .ok (.putfield 65, 3) := by decide +kernel
theorem dX0_copyFrom_139 : decode cX0_copyFrom 139 = .ok (.aload_n 0, 1) := by decide +kernel
theorem dX0_copyFrom_140 : decode cX0_copyFrom 140 = .ok (.aload_n 1, 1) := by decide +kernel
theorem dX0_copyFrom_141 : decode cX0_copyFrom 141 = .ok (.getfield 68, 3) := by decide +kernel
theorem dX0_copyFrom_144 : decode cX0_copyFrom 144 = .ok (.putfield 68, 3) := by decide +kernel
theorem dX0_copyFrom_147 : decode cX0_copyFrom 147 = .ok (.return_, 1) := by decide +kernel
theorem dX0_changeSetting_0 : decode cX0_changeSetting 0 = .ok (.iload_n 1, 1) := by decide +kernel
theorem dX0_changeSetting_1 : decode cX0_changeSetting 1 = .ok (.ifCond .lt 19, 3) := by decide +kernel
theorem dX0_changeSetting_4 : decode cX0_changeSetting 4 = .ok (.iload_n 1, 1) := by decide +kernel
theorem dX0_changeSetting_5 : decode cX0_changeSetting 5 = .ok (.getstatic 88, 3) := by decide +kernel
theorem dX0_changeSetting_8 : decode cX0_changeSetting 8 = .ok (.arraylength, 1) := by decide +kernel
theorem dX0_changeSetting_9 : decode cX0_changeSetting 9 = .ok (.if_icmp .ge 11, 3) := by decide +kernel
theorem dX0_changeSetting_12 : decode cX0_changeSetting 12 = .ok (.iload_n 1, 1) := by decide +kernel
theorem dX0_changeSetting_13 : decode cX0_changeSetting 13 = .ok (.getstatic 91, 3) := by decide +kernel
theorem dX0_changeSetting_16 : decode cX0_changeSetting 16 = .ok (.arraylength, 1) := by decide +kernel
theorem dX0_changeSetting_17 : decode cX0_changeSetting 17 = .ok (.if_icmp .lt 6, 3) := by decide +kernel
theorem dX0_changeSetting_20 : decode cX0_changeSetting 20 = .ok (.bipush (-2), 2) := by decide +kernel
theorem dX0_changeSetting_22 : decode cX0_changeSetting 22 = .ok (.ireturn, 1) := by decide +kernel
theorem dX0_changeSetting_23 : decode cX0_changeSetting 23 = .ok (.iload_n 2, 1) := by decide +kernel
theorem dX0_changeSetting_24 : decode cX0_changeSetting 24 = .ok (.getstatic 88, 3) := by decide +kernel
theorem dX0_changeSetting_27 : decode cX0_changeSetting 27 = .ok (.iload_n 1, 1) := by decide +kernel
theorem dX0_changeSetting_28 : decode cX0_changeSetting 28 = .ok (.iaload, 1) := by decide +kernel
theorem dX0_changeSetting_29 : decode cX0_changeSetting 29 = .ok (.if_icmp .lt 12, 3) := by decide +kernel
theorem dX0_changeSetting_32 : decode cX0_changeSetting 32 = .ok (.iload_n 2, 1) := by decide +kernel
theorem dX0_changeSetting_33 : decode cX0_changeSetting 33 = .ok (.getstatic 91, 3) := by decide +kernel
theorem dX0_changeSetting_36 : decode cX0_changeSetting 36 = .ok (.iload_n 1, 1) := by decide +kernel
theorem dX0_changeSetting_37 : decode cX0_changeSetting 37 = .ok (.iaload, 1) := by decide +kernel
theorem dX0_changeSetting_38 : decode cX0_changeSetting 38 = .ok (.if_icmp .le 6, 3) := by decide +kernel
theorem dX0_changeSetting_41 : decode cX0_changeSetting 41 = .ok (.bipush (-2), 2) := by decide +kernel
theorem dX0_changeSetting_43 : decode cX0_changeSetting 43 = .ok (.ireturn, 1) := by decide +kernel
theorem dX0_changeSetting_44 : decode cX0_changeSetting 44 = .ok (.aload_n 0, 1) := by decide +kernel
theorem dX0_changeSetting_45 : decode cX0_changeSetting 45 = .ok (.getfield 30, 3) := by decide +kernel
theorem dX0_changeSetting_48 : decode cX0_changeSetting 48 = .ok (.iload_n 1, 1) := by decide +kernel
theorem dX0_changeSetting_49 : decode cX0_changeSetting 49 = .ok (.invokevirtual 94, 3) := by decide +kernel
theorem dX0_changeSetting_52 : decode cX0_changeSetting 52 = .ok (.istore_n 3, 1) := by decide +kernel
theorem dX0_changeSetting_53 : decode cX0_changeSetting 53 = .ok (.aload_n 0, 1) := by decide +kernel
theorem dX0_changeSetting_54 : decode cX0_changeSetting 54 = .ok (.getfield 30, 3) := by decide +kernel
theorem dX0_changeSetting_57 : decode cX0_changeSetting 57 = .ok (.iload_n 1, 1) := by decide +kernel
theorem dX0_changeSetting_58 : decode cX0_changeSetting 58 = .ok (.iload_n 2, 1) := by decide +kernel
theorem dX0_changeSetting_59 : decode cX0_changeSetting 59 = .ok (.invokevirtual 75, 3) := by decide +kernel
theorem dX0_changeSetting_62 : decode cX0_changeSetting 62 = .ok (.iload_n 3, 1) := by decide +kernel
theorem dX0_changeSetting_63 : decode cX0_changeSetting 63 = .ok (.ireturn, 1) := by decide +kernel
theorem dX0_addPlayer_0 : decode cX0_addPlayer 0 = .ok (.iload_n 1, 1) := by decide +kernel
theorem dX0_addPlayer_1 : decode cX0_addPlayer 1 = .ok (.ifCond .lt 10, 3) := by decide +kernel
theorem dX0_addPlayer_4 : decode cX0_addPlayer 4 = .ok (.iload_n 1, 1) := by decide +kernel
theorem dX0_addPlayer_5 : decode cX0_addPlayer 5 = .ok (.sipush 9999, 3) := by decide +kernel
theorem dX0_addPlayer_8 : decode cX0_addPlayer 8 = .ok (.if_icmp .le 6, 3) := by decide +kernel
theorem dX0_addPlayer_11 : decode cX0_addPlayer 11 = .ok (.bipush (-2), 2) := by decide +kernel
theorem dX0_addPlayer_13 : decode cX0_addPlayer 13 = .ok (.ireturn, 1) := by decide +kernel
theorem dX0_addPlayer_14 : decode cX0_addPlayer 14 = .ok (.aload_n 0, 1) := by decide +kernel
theorem dX0_addPlayer_15 : decode cX0_addPlayer 15 = .ok (.getfield 52, 3) := by decide +kernel
theorem dX0_addPlayer_18 : decode cX0_addPlayer 18 = .ok (.iconst 4, 1) := by decide +kernel
theorem dX0_addPlayer_19 : decode cX0_addPlayer 19 = .ok (.if_icmp .lt 6, 3) := by decide +kernel
theorem dX0_addPlayer_22 : decode cX0_addPlayer 22 = .ok (.bipush (-4), 2) := by decide +kernel
theorem dX0_addPlayer_24 : decode cX0_addPlayer 24 = .ok (.ireturn, 1) := by decide +kernel
theorem dX0_addPlayer_25 : decode cX0_addPlayer 25 = .ok (.aload_n 0, 1) := by decide +kernel
theorem dX0_addPlayer_26 : decode cX0_addPlayer 26 = .ok (.getfield 34, 3) := by decide +kernel
theorem dX0_addPlayer_29 : decode cX0_addPlayer 29 = .ok (.aload_n 0, 1) := by decide +kernel
theorem dX0_addPlayer_30 : decode cX0_addPlayer 30 = .ok (.getfield 52, 3) := by decide +kernel
theorem dX0_addPlayer_33 : decode cX0_addPlayer 33 = .ok (.iload_n 1, 1) := by decide +kernel
theorem dX0_addPlayer_34 : decode cX0_addPlayer 34 = .ok (.invokevirtual 75, 3) := by decide +kernel
theorem dX0_addPlayer_37 : decode cX0_addPlayer 37 = .ok (.aload_n 0, 1) := by decide +kernel
theorem dX0_addPlayer_38 : decode cX0_addPlayer 38 = .ok (.dup, 1) := by decide +kernel
theorem dX0_addPlayer_39 : decode cX0_addPlayer 39 = .ok (.getfield 52, 3) := by decide +kernel
theorem dX0_addPlayer_42 : decode cX0_addPlayer 42 = .ok (.iconst 1, 1) := by decide +kernel
theorem dX0_addPlayer_43 : decode cX0_addPlayer 43 = .ok (.iadd, 1) := by decide +kernel
theorem dX0_addPlayer_44 : decode cX0_addPlayer 44 = .ok (.putfield 52, 3) := by decide +kernel
theorem dX0_addPlayer_47 : decode cX0_addPlayer 47 = .ok (.aload_n 0, 1) := by decide +kernel
theorem dX0_addPlayer_48 : decode cX0_addPlayer 48 = .ok (.getfield 52, 3) := by decide +kernel
theorem dX0_addPlayer_51 : decode cX0_addPlayer 51 = .ok (.iconst 1, 1) := by decide +kernel
theorem dX0_addPlayer_52 : decode cX0_addPlayer 52 = .ok (.isub, 1) := by decide +kernel
theorem dX0_addPlayer_53 : decode cX0_addPlayer 53 = .ok (.ireturn, 1) := by decide +kernel
theorem dX0_changeDraws_0 : decode cX0_changeDraws 0 = .ok (.iload_n 1, 1) := by decide +kernel
theorem dX0_changeDraws_1 : decode cX0_changeDraws 1 = .ok (.ifCond .lt 10, 3) := by decide +kernel
theorem dX0_changeDraws_4 : decode cX0_changeDraws 4 = .ok (.iload_n 1, 1) := by decide +kernel
theorem dX0_changeDraws_5 : decode cX0_changeDraws 5 = .ok (.sipush 9999, 3) := by decide +kernel
theorem dX0_changeDraws_8 : decode cX0_changeDraws 8 = .ok (.if_icmp .le 6, 3) := by decide +kernel
theorem dX0_changeDraws_11 : decode cX0_changeDraws 11 = .ok (.bipush (-2), 2) := by decide +kernel
theorem dX0_changeDraws_13 : decode cX0_changeDraws 13 = .ok (.ireturn, 1) := by decide +kernel
theorem dX0_changeDraws_14 : decode cX0_changeDraws 14 = .ok (.aload_n 0, 1) := by decide +kernel
theorem dX0_changeDraws_15 : decode cX0_changeDraws 15 = .ok (.getfield 59, 3) := by decide +kernel
theorem dX0_changeDraws_18 : decode cX0_changeDraws 18 = .ok (.istore_n 2, 1) := by decide +kernel
theorem dX0_changeDraws_19 : decode cX0_changeDraws 19 = .ok (.aload_n 0, 1) := by decide +kernel
theorem dX0_changeDraws_20 : decode cX0_changeDraws 20 = .ok (.iload_n 1, 1) := by decide +kernel
theorem dX0_changeDraws_21 : decode cX0_changeDraws 21 = .ok (.putfield 59, 3) := by decide +kernel
theorem dX0_changeDraws_24 : decode cX0_changeDraws 24 = .ok (.iload_n 2, 1) := by decide +kernel
theorem dX0_changeDraws_25 : decode cX0_changeDraws 25 = .ok (.ireturn, 1) := by decide +kernel
theorem dX0_doTurns_0 : decode cX0_doTurns 0 = .ok (.iload_n 1, 1) := by decide +kernel
theorem dX0_doTurns_1 : decode cX0_doTurns 1 = .ok (.iconst 1, 1) := by decide +kernel
theorem dX0_doTurns_2 : decode cX0_doTurns 2 = .ok (.if_icmp .lt 9, 3) := by decide +kernel
theorem dX0_doTurns_5 : decode cX0_doTurns 5 = .ok (.iload_n 1, 1) := by decide +kernel
theorem dX0_doTurns_6 : decode cX0_doTurns 6 = .ok (.bipush 99, 2) := by decide +kernel
theorem dX0_doTurns_8 : decode cX0_doTurns 8 = .ok (.if_icmp .le 6, 3) := by decide +kernel
theorem dX0_doTurns_11 : decode cX0_doTurns 11 = .ok (.bipush (-2), 2) := by decide +kernel
theorem dX0_doTurns_13 : decode cX0_doTurns 13 = .ok (.ireturn, 1) := by decide +kernel
theorem dX0_doTurns_14 : decode cX0_doTurns 14 = .ok (.aload_n 0, 1) := by decide +kernel
theorem dX0_doTurns_15 : decode cX0_doTurns 15 = .ok (.getfield 52, 3) := by decide +kernel
theorem dX0_doTurns_18 : decode cX0_doTurns 18 = .ok (.ifCond .eq 15, 3) := by decide +kernel
theorem dX0_doTurns_21 : decode cX0_doTurns 21 = .ok (.aload_n 0, 1) := by decide +kernel
theorem dX0_doTurns_22 : decode cX0_doTurns 22 = .ok (.getfield 62, 3) := by decide +kernel
theorem dX0_doTurns_25 : decode cX0_doTurns 25 = .ok (.iload_n 1, 1) := by decide +kernel
theorem dX0_doTurns_26 : decode cX0_doTurns 26 = .ok (.iadd, 1) := by decide +kernel
theorem dX0_doTurns_27 : decode cX0_doTurns 27 = .ok (.sipush 9999, 3) := by decide +kernel
theorem dX0_doTurns_30 : decode cX0_doTurns 30 = .ok (.if_icmp .le 6, 3) := by decide +kernel
theorem dX0_doTurns_33 : decode cX0_doTurns 33 = .ok (.bipush (-5), 2) := by decide +kernel
theorem dX0_doTurns_35 : decode cX0_doTurns 35 = .ok (.ireturn, 1) := by decide +kernel
theorem dX0_doTurns_36 : decode cX0_doTurns 36 = .ok (.aload_n 0, 1) := by decide +kernel
theorem dX0_doTurns_37 : decode cX0_doTurns 37 = .ok (.getfield 40, 3) := by decide +kernel
theorem dX0_doTurns_40 : decode cX0_doTurns 40 = .ok (.invokevirtual 98, 3) := by decide +kernel
theorem dX0_doTurns_43 : decode cX0_doTurns 43 = .ok (.istore_n 2, 1) := by decide +kernel
theorem dX0_doTurns_44 : decode cX0_doTurns 44 = .ok (.iconst 0, 1) := by decide +kernel
theorem dX0_doTurns_45 : decode cX0_doTurns 45 = .ok (.istore_n 3, 1) := by decide +kernel
theorem dX0_doTurns_46 : decode cX0_doTurns 46 = .ok (.iload_n 3, 1) := by decide +kernel
theorem dX0_doTurns_47 : decode cX0_doTurns 47 = .ok (.iload_n 1, 1) := by decide +kernel
theorem dX0_doTurns_48 : decode cX0_doTurns 48 = .ok (.if_icmp .ge 13, 3) := by decide +kernel
theorem dX0_doTurns_51 : decode cX0_doTurns 51 = .ok (.aload_n 0, 1) := by decide +kernel
theorem dX0_doTurns_52 : decode cX0_doTurns 52 = .ok (.invokevirtual 102, 3) := by decide +kernel
theorem dX0_doTurns_55 : decode cX0_doTurns 55 = .ok (.iinc 3 1, 3) := by decide +kernel
theorem dX0_doTurns_58 : decode cX0_doTurns 58 = .ok (.goto (-12), 3) := by decide +kernel
theorem dX0_doTurns_61 : decode cX0_doTurns 61 = .ok (.aload_n 0, 1) := by decide +kernel
theorem dX0_doTurns_62 : decode cX0_doTurns 62 = .ok (.getfield 40, 3) := by decide +kernel
theorem dX0_doTurns_65 : decode cX0_doTurns 65 = .ok (.invokevirtual 98, 3) := by decide +kernel
theorem dX0_doTurns_68 : decode cX0_doTurns 68 = .ok (.iload_n 2, 1) := by decide +kernel
theorem dX0_doTurns_69 : decode cX0_doTurns 69 = .ok (.isub, 1) := by decide +kernel
theorem dX0_doTurns_70 : decode cX0_doTurns 70 = .ok (.ireturn, 1) := by decide +kernel
theorem dX0_clearAround_0 : decode cX0_clearAround 0 = .ok (.aload_n 0, 1) := by decide +kernel
theorem dX0_clearAround_1 : decode cX0_clearAround 1 = .ok (.iload_n 1, 1) := by decide +kernel
theorem dX0_clearAround_2 : decode cX0_clearAround 2 = .ok (.invokevirtual 105, 3) := by decide +kernel
theorem dX0_clearAround_5 : decode cX0_clearAround 5 = .ok (.ifCond .ne 5, 3) := by decide +kernel
theorem dX0_clearAround_8 : decode cX0_clearAround 8 = .ok (.iconst (-1), 1) := by decide +kernel
theorem dX0_clearAround_9 : decode cX0_clearAround 9 = .ok (.ireturn, 1) := by decide +kernel
theorem dX0_clearAround_10 : decode cX0_clearAround 10 = .ok (.iconst 0, 1) := by decide +kernel
theorem dX0_clearAround_11 : decode cX0_clearAround 11 = .ok (.istore_n 2, 1) := by decide +kernel
theorem dX0_clearAround_12 : decode cX0_clearAround 12 = .ok (.iconst 0, 1) := by decide +kernel
theorem dX0_clearAround_13 : decode cX0_clearAround 13 = .ok (.istore_n 3, 1) := by decide +kernel
theorem dX0_clearAround_14 : decode cX0_clearAround 14 = .ok (.iload_n 3, 1) := by decide +kernel
theorem dX0_clearAround_15 : decode cX0_clearAround 15 = .ok (.bipush 16, 2) := by decide +kernel
theorem dX0_clearAround_17 : decode cX0_clearAround 17 = .ok (.if_icmp .ge 32, 3) := by decide +kernel
theorem dX0_clearAround_20 : decode cX0_clearAround 20 = .ok (.aload_n 0, 1) := by decide +kernel
theorem dX0_clearAround_21 : decode cX0_clearAround 21 = .ok (.getfield 21, 3) := by decide +kernel
theorem dX0_clearAround_24 : decode cX0_clearAround 24 = .ok (.iload_n 1, 1) := by decide +kernel
theorem dX0_clearAround_25 : decode cX0_clearAround 25 = .ok (.invokevirtual 109, 3) := by decide +kernel
theorem dX0_clearAround_28 : decode cX0_clearAround 28 = .ok (.istore 4, 2) := by decide +kernel
theorem dX0_clearAround_30 : decode cX0_clearAround 30 = .ok (.iload 4, 2) := by decide +kernel
theorem dX0_clearAround_32 : decode cX0_clearAround 32 = .ok (.ifCond .ne 6, 3) := by decide +kernel
theorem dX0_clearAround_35 : decode cX0_clearAround 35 = .ok (.goto 14, 3) := by decide +kernel
theorem dX0_clearAround_38 : decode cX0_clearAround 38 = .ok (.iload_n 2, 1) := by decide +kernel
theorem dX0_clearAround_39 : decode cX0_clearAround 39 = .ok (.iload 4, 2) := by decide +kernel
theorem dX0_clearAround_41 : decode cX0_clearAround 41 = .ok (.iadd, 1) := by decide +kernel
theorem dX0_clearAround_42 : decode cX0_clearAround 42 = .ok (.istore_n 2, 1) := by decide +kernel
theorem dX0_clearAround_43 : decode cX0_clearAround 43 = .ok (.iinc 3 1, 3) := by decide +kernel
theorem dX0_clearAround_46 : decode cX0_clearAround 46 = .ok (.goto (-32), 3) := by decide +kernel
theorem dX0_clearAround_49 : decode cX0_clearAround 49 = .ok (.iload_n 2, 1) := by decide +kernel
theorem dX0_clearAround_50 : decode cX0_clearAround 50 = .ok (.ireturn, 1) := by decide +kernel
theorem dX0_takeTurns_0 : decode cX0_takeTurns 0 = .ok (.iconst 0, 1) := by decide +kernel
theorem dX0_takeTurns_1 : decode cX0_takeTurns 1 = .ok (.istore_n 2, 1) := by decide +kernel
theorem dX0_takeTurns_2 : decode cX0_takeTurns 2 = .ok (.iload_n 2, 1) := by decide +kernel
theorem dX0_takeTurns_3 : decode cX0_takeTurns 3 = .ok (.iload_n 1, 1) := by decide +kernel
theorem dX0_takeTurns_4 : decode cX0_takeTurns 4 = .ok (.if_icmp .ge 13, 3) := by decide +kernel
theorem dX0_takeTurns_7 : decode cX0_takeTurns 7 = .ok (.aload_n 0, 1) := by decide +kernel
theorem dX0_takeTurns_8 : decode cX0_takeTurns 8 = .ok (.invokevirtual 102, 3) := by decide +kernel
theorem dX0_takeTurns_11 : decode cX0_takeTurns 11 = .ok (.iinc 2 1, 3) := by decide +kernel
theorem dX0_takeTurns_14 : decode cX0_takeTurns 14 = .ok (.goto (-12), 3) := by decide +kernel
theorem dX0_takeTurns_17 : decode cX0_takeTurns 17 = .ok (.return_, 1) := by decide +kernel
theorem dX0_takeTurn_0 : decode cX0_takeTurn 0 = .ok (.aload_n 0, 1) := by decide +kernel
theorem dX0_takeTurn_1 : decode cX0_takeTurn 1 = .ok (.getfield 52, 3) := by decide +kernel
theorem dX0_takeTurn_4 : decode cX0_takeTurn 4 = .ok (.ifCond .ne 4, 3) := by decide +kernel
theorem dX0_takeTurn_7 : decode cX0_takeTurn 7 = .ok (.return_, 1) := by decide +kernel
theorem dX0_takeTurn_8 : decode cX0_takeTurn 8 = .ok (.aload_n 0, 1) := by decide +kernel
theorem dX0_takeTurn_9 : decode cX0_takeTurn 9 = .ok (.getfield 56, 3) := by decide +kernel
theorem dX0_takeTurn_12 : decode cX0_takeTurn 12 = .ok (.istore_n 1, 1) := by decide +kernel
theorem dX0_takeTurn_13 : decode cX0_takeTurn 13 = .ok (.aload_n 0, 1) := by decide +kernel
theorem dX0_takeTurn_14 : decode cX0_takeTurn 14 = .ok (.iload_n 1, 1) := by decide +kernel
theorem dX0_takeTurn_15 : decode cX0_takeTurn 15 = .ok (.invokevirtual 112, 3) := by decide +kernel
theorem dX0_takeTurn_18 : decode cX0_takeTurn 18 = .ok (.aload_n 0, 1) := by decide +kernel
theorem dX0_takeTurn_19 : decode cX0_takeTurn 19 = .ok (.iload_n 1, 1) := by decide +kernel
theorem dX0_takeTurn_20 : decode cX0_takeTurn 20 = .ok (.invokevirtual 116, 3) := by decide +kernel
theorem dX0_takeTurn_23 : decode cX0_takeTurn 23 = .ok (.aload_n 0, 1) := by decide +kernel
theorem dX0_takeTurn_24 : decode cX0_takeTurn 24 = .ok (.iload_n 1, 1) := by decide +kernel
theorem dX0_takeTurn_25 : decode cX0_takeTurn 25 = .ok (.invokevirtual 119, 3) := by decide +kernel
theorem dX0_takeTurn_28 : decode cX0_takeTurn 28 = .ok (.aload_n 0, 1) := by decide +kernel
theorem dX0_takeTurn_29 : decode cX0_takeTurn 29 = .ok (.iload_n 1, 1) := by decide +kernel
theorem dX0_takeTurn_30 : decode cX0_takeTurn 30 = .ok (.invokevirtual 122, 3) := by decide +kernel
theorem dX0_takeTurn_33 : decode cX0_takeTurn 33 = .ok (.aload_n 0, 1) := by decide +kernel
theorem dX0_takeTurn_34 : decode cX0_takeTurn 34 = .ok (.getfield 21, 3) := by decide +kernel
theorem dX0_takeTurn_37 : decode cX0_takeTurn 37 = .ok (.iload_n 1, 1) := by decide +kernel
theorem dX0_takeTurn_38 : decode cX0_takeTurn 38 = .ok (.invokevirtual 125, 3) := by decide +kernel
theorem dX0_takeTurn_41 : decode cX0_takeTurn 41 = .ok (.aload_n 0, 1) := by decide +kernel
theorem dX0_takeTurn_42 : decode cX0_takeTurn 42 = .ok (.iload_n 1, 1) := by decide +kernel
theorem dX0_takeTurn_43 : decode cX0_takeTurn 43 = .ok (.invokevirtual 128, 3) := by decide +kernel
theorem dX0_takeTurn_46 : decode cX0_takeTurn 46 = .ok (.aload_n 0, 1) := by decide +kernel
theorem dX0_takeTurn_47 : decode cX0_takeTurn 47 = .ok (.getfield 46, 3) := by decide +kernel
theorem dX0_takeTurn_50 : decode cX0_takeTurn 50 = .ok (.iload_n 1, 1) := by decide +kernel
theorem dX0_takeTurn_51 : decode cX0_takeTurn 51 = .ok (.iconst 1, 1) := by decide +kernel
theorem dX0_takeTurn_52 : decode cX0_takeTurn 52 = .ok (.invokevirtual 131, 3) := by decide +kernel
theorem dX0_takeTurn_55 : decode cX0_takeTurn 55 = .ok (.aload_n 0, 1) := by decide +kernel
theorem dX0_takeTurn_56 : decode cX0_takeTurn 56 = .ok (.dup, 1) := by decide +kernel
theorem dX0_takeTurn_57 : decode cX0_takeTurn 57 = .ok (.getfield 62, 3) := by decide +kernel
theorem dX0_takeTurn_60 : decode cX0_takeTurn 60 = .ok (.iconst 1, 1) := by decide +kernel
theorem dX0_takeTurn_61 : decode cX0_takeTurn 61 = .ok (.iadd, 1) := by decide +kernel
theorem dX0_takeTurn_62 : decode cX0_takeTurn 62 = .ok (.putfield 62, 3) := by decide +kernel
theorem dX0_takeTurn_65 : decode cX0_takeTurn 65 = .ok (.aload_n 0, 1) := by decide +kernel
theorem dX0_takeTurn_66 : decode cX0_takeTurn 66 = .ok (.aload_n 0, 1) := by decide +kernel
theorem dX0_takeTurn_67 : decode cX0_takeTurn 67 = .ok (.getfield 56, 3) := by decide +kernel
theorem dX0_takeTurn_70 : decode cX0_takeTurn 70 = .ok (.iconst 1, 1) := by decide +kernel
theorem dX0_takeTurn_71 : decode cX0_takeTurn 71 = .ok (.iadd, 1) := by decide +kernel
theorem dX0_takeTurn_72 : decode cX0_takeTurn 72 = .ok (.aload_n 0, 1) := by decide +kernel
theorem dX0_takeTurn_73 : decode cX0_takeTurn 73 = .ok (.getfield 52, 3) := by decide +kernel
theorem dX0_takeTurn_76 : decode cX0_takeTurn 76 = .ok (.if_icmp .ge 12, 3) := by decide +kernel
theorem dX0_takeTurn_79 : decode cX0_takeTurn 79 = .ok (.aload_n 0, 1) := by decide +kernel
theorem dX0_takeTurn_80 : decode cX0_takeTurn 80 = .ok (.getfield 56, 3) := by decide +kernel
theorem dX0_takeTurn_83 : decode cX0_takeTurn 83 = .ok (.iconst 1, 1) := by decide +kernel
theorem dX0_takeTurn_84 : decode cX0_takeTurn 84 = .ok (.iadd, 1) := by decide +kernel
theorem dX0_takeTurn_85 : decode cX0_takeTurn 85 = .ok (.goto 4, 3) := by decide +kernel
theorem dX0_takeTurn_88 : decode cX0_takeTurn 88 = .ok (.iconst 0, 1) := by decide +kernel
theorem dX0_takeTurn_89 : decode cX0_takeTurn 89 = .ok (.putfield 56, 3) := by decide +kernel
theorem dX0_takeTurn_92 : decode cX0_takeTurn 92 = .ok (.return_, 1) := by decide +kernel
theorem dX0_payDebts_0 : decode cX0_payDebts 0 = .ok (.iconst 0, 1) := by decide +kernel
theorem dX0_payDebts_1 : decode cX0_payDebts 1 = .ok (.istore_n 2, 1) := by decide +kernel
theorem dX0_payDebts_2 : decode cX0_payDebts 2 = .ok (.iload_n 2, 1) := by decide +kernel
theorem dX0_payDebts_3 : decode cX0_payDebts 3 = .ok (.iconst 4, 1) := by decide +kernel
theorem dX0_payDebts_4 : decode cX0_payDebts 4 = .ok (.if_icmp .ge 64, 3) := by decide +kernel
theorem dX0_payDebts_7 : decode cX0_payDebts 7 = .ok (.aload_n 0, 1) := by decide +kernel
theorem dX0_payDebts_8 : decode cX0_payDebts 8 = .ok (.getfield 34, 3) := by decide +kernel
theorem dX0_payDebts_11 : decode cX0_payDebts 11 = .ok (.iload_n 1, 1) := by decide +kernel
theorem dX0_payDebts_12 : decode cX0_payDebts 12 = .ok (.invokevirtual 94, 3) := by decide +kernel
theorem dX0_payDebts_15 : decode cX0_payDebts 15 = .ok (.ifCond .le 53, 3) := by decide +kernel
theorem dX0_payDebts_18 : decode cX0_payDebts 18 = .ok (.aload_n 0, 1) := by decide +kernel
theorem dX0_payDebts_19 : decode cX0_payDebts 19 = .ok (.getfield 21, 3) := by decide +kernel
theorem dX0_payDebts_22 : decode cX0_payDebts 22 = .ok (.iload_n 1, 1) := by decide +kernel
theorem dX0_payDebts_23 : decode cX0_payDebts 23 = .ok (.invokevirtual 134, 3) := by decide +kernel
theorem dX0_payDebts_26 : decode cX0_payDebts 26 = .ok (.istore_n 3, 1) := by decide +kernel
theorem dX0_payDebts_27 : decode cX0_payDebts 27 = .ok (.iload_n 3, 1) := by decide +kernel
theorem dX0_payDebts_28 : decode cX0_payDebts 28 = .ok (.bipush (-6), 2) := by decide +kernel
theorem dX0_payDebts_30 : decode cX0_payDebts 30 = .ok (.if_icmp .ne 4, 3) := by decide +kernel
theorem dX0_payDebts_33 : decode cX0_payDebts 33 = .ok (.return_, 1) := by decide +kernel
theorem dX0_payDebts_34 : decode cX0_payDebts 34 = .ok (.aload_n 0, 1) := by decide +kernel
theorem dX0_payDebts_35 : decode cX0_payDebts 35 = .ok (.iload_n 1, 1) := by decide +kernel
theorem dX0_payDebts_36 : decode cX0_payDebts 36 = .ok (.iload_n 3, 1) := by decide +kernel
theorem dX0_payDebts_37 : decode cX0_payDebts 37 = .ok (.aload_n 0, 1) := by decide +kernel
theorem dX0_payDebts_38 : decode cX0_payDebts 38 = .ok (.getfield 21, 3) := by decide +kernel
theorem dX0_payDebts_41 : decode cX0_payDebts 41 = .ok (.iload_n 1, 1) := by decide +kernel
theorem dX0_payDebts_42 : decode cX0_payDebts 42 = .ok (.iload_n 3, 1) := by decide +kernel
theorem dX0_payDebts_43 : decode cX0_payDebts 43 = .ok (.invokevirtual 137, 3) := by decide +kernel
theorem dX0_payDebts_46 : decode cX0_payDebts 46 = .ok (.invokevirtual 141, 3) := by decide +kernel
theorem dX0_payDebts_49 : decode cX0_payDebts 49 = .ok (.istore 4, 2) := by decide +kernel
theorem dX0_payDebts_51 : decode cX0_payDebts 51 = .ok (.aload_n 0, 1) := by decide +kernel
theorem dX0_payDebts_52 : decode cX0_payDebts 52 = .ok (.getfield 21, 3) := by decide +kernel
theorem dX0_payDebts_55 : decode cX0_payDebts 55 = .ok (.iload_n 1, 1) := by decide +kernel
theorem dX0_payDebts_56 : decode cX0_payDebts 56 = .ok (.iload_n 3, 1) := by decide +kernel
theorem dX0_payDebts_57 : decode cX0_payDebts 57 = .ok (.iload 4, 2) := by decide +kernel
theorem dX0_payDebts_59 : decode cX0_payDebts 59 = .ok (.invokevirtual 145, 3) := by decide +kernel
theorem dX0_payDebts_62 : decode cX0_payDebts 62 = .ok (.iinc 2 1, 3) := by decide +kernel
theorem dX0_payDebts_65 : decode cX0_payDebts 65 = .ok (.goto (-63), 3) := by decide +kernel
theorem dX0_payDebts_68 : decode cX0_payDebts 68 = .ok (.return_, 1) := by decide +kernel
theorem dX0_payWhatThereIs_0 : decode cX0_payWhatThereIs 0 = .ok (.iload_n 3, 1) := by decide +kernel
theorem dX0_payWhatThereIs_1 : decode cX0_payWhatThereIs 1 = .ok (.aload_n 0, 1) := by decide +kernel
theorem dX0_payWhatThereIs_2 : decode cX0_payWhatThereIs 2 = .ok (.getfield 34, 3) := by decide +kernel
theorem dX0_payWhatThereIs_5 : decode cX0_payWhatThereIs 5 = .ok (.iload_n 1, 1) := by decide +kernel
theorem dX0_payWhatThereIs_6 : decode cX0_payWhatThereIs 6 = .ok (.invokevirtual 94, 3) := by decide +kernel
theorem dX0_payWhatThereIs_9 : decode cX0_payWhatThereIs 9 = .ok (.invokestatic 149, 3) := by decide +kernel
theorem dX0_payWhatThereIs_12 : decode cX0_payWhatThereIs 12 = .ok (.istore 4, 2) := by decide +kernel
theorem dX0_payWhatThereIs_14 : decode cX0_payWhatThereIs 14 = .ok (.aload_n 0, 1) := by decide +kernel
theorem dX0_payWhatThereIs_15 : decode cX0_payWhatThereIs 15 = .ok (.getfield 34, 3) := by decide +kernel
theorem dX0_payWhatThereIs_18 : decode cX0_payWhatThereIs 18 = .ok (.iload_n 1, 1) := by decide +kernel
theorem dX0_payWhatThereIs_19 : decode cX0_payWhatThereIs 19 = .ok (.iload 4, 2) := by decide +kernel
theorem dX0_payWhatThereIs_21 : decode cX0_payWhatThereIs 21 = .ok (.ineg, 1) := by decide +kernel
theorem dX0_payWhatThereIs_22 : decode cX0_payWhatThereIs 22 = .ok (.invokevirtual 131, 3) := by decide +kernel
theorem dX0_payWhatThereIs_25 : decode cX0_payWhatThereIs 25 = .ok (.aload_n 0, 1) := by decide +kernel
theorem dX0_payWhatThereIs_26 : decode cX0_payWhatThereIs 26 = .ok (.getfield 34, 3) := by decide +kernel
theorem dX0_payWhatThereIs_29 : decode cX0_payWhatThereIs 29 = .ok (.iload_n 2, 1) := by decide +kernel
theorem dX0_payWhatThereIs_30 : decode cX0_payWhatThereIs 30 = .ok (.iload 4, 2) := by decide +kernel
theorem dX0_payWhatThereIs_32 : decode cX0_payWhatThereIs 32 = .ok (.invokevirtual 131, 3) := by decide +kernel
theorem dX0_payWhatThereIs_35 : decode cX0_payWhatThereIs 35 = .ok (.aload_n 0, 1) := by decide +kernel
theorem dX0_payWhatThereIs_36 : decode cX0_payWhatThereIs 36 = .ok (.getfield 40, 3) := by decide +kernel
theorem dX0_payWhatThereIs_39 : decode cX0_payWhatThereIs 39 = .ok (.iload_n 1, 1) := by decide +kernel
theorem dX0_payWhatThereIs_40 : decode cX0_payWhatThereIs 40 = .ok (.iload 4, 2) := by decide +kernel
theorem dX0_payWhatThereIs_42 : decode cX0_payWhatThereIs 42 = .ok (.invokevirtual 131, 3) := by decide +kernel
theorem dX0_payWhatThereIs_45 : decode cX0_payWhatThereIs 45 = .ok (.aload_n 0, 1) := by decide +kernel
theorem dX0_payWhatThereIs_46 : decode cX0_payWhatThereIs 46 = .ok (.getfield 43, 3) := by decide +kernel
theorem dX0_payWhatThereIs_49 : decode cX0_payWhatThereIs 49 = .ok (.iload_n 2, 1) := by decide +kernel
theorem dX0_payWhatThereIs_50 : decode cX0_payWhatThereIs 50 = .ok (.iload 4, 2) := by decide +kernel
theorem dX0_payWhatThereIs_52 : decode cX0_payWhatThereIs 52 = .ok (.invokevirtual 131, 3) := by decide +kernel
theorem dX0_payWhatThereIs_55 : decode cX0_payWhatThereIs 55 = .ok (.iload 4, 2) := by decide +kernel
theorem dX0_payWhatThereIs_57 : decode cX0_payWhatThereIs 57 = .ok (.ireturn, 1) := by decide +kernel
theorem dX0_move_0 : decode cX0_move 0 = .ok (.aload_n 0, 1) := by decide +kernel
theorem dX0_move_1 : decode cX0_move 1 = .ok (.invokevirtual 154, 3) := by decide +kernel
theorem dX0_move_4 : decode cX0_move 4 = .ok (.istore_n 2, 1) := by decide +kernel
theorem dX0_move_5 : decode cX0_move 5 = .ok (.aload_n 0, 1) := by decide +kernel
theorem dX0_move_6 : decode cX0_move 6 = .ok (.getfield 37, 3) := by decide +kernel
theorem dX0_move_9 : decode cX0_move 9 = .ok (.iload_n 1, 1) := by decide +kernel
theorem dX0_move_10 : decode cX0_move 10 = .ok (.invokevirtual 94, 3) := by decide +kernel
theorem dX0_move_13 : decode cX0_move 13 = .ok (.iload_n 2, 1) := by decide +kernel
theorem dX0_move_14 : decode cX0_move 14 = .ok (.iadd, 1) := by decide +kernel
theorem dX0_move_15 : decode cX0_move 15 = .ok (.aload_n 0, 1) := by decide +kernel
theorem dX0_move_16 : decode cX0_move 16 = .ok (.invokevirtual 154, 3) := by decide +kernel
theorem dX0_move_19 : decode cX0_move 19 = .ok (.iadd, 1) := by decide +kernel
theorem dX0_move_20 : decode cX0_move 20 = .ok (.istore_n 3, 1) := by decide +kernel
theorem dX0_move_21 : decode cX0_move 21 = .ok (.iload_n 3, 1) := by decide +kernel
theorem dX0_move_22 : decode cX0_move 22 = .ok (.bipush 20, 2) := by decide +kernel
theorem dX0_move_24 : decode cX0_move 24 = .ok (.idiv, 1) := by decide +kernel
theorem dX0_move_25 : decode cX0_move 25 = .ok (.aload_n 0, 1) := by decide +kernel
theorem dX0_move_26 : decode cX0_move 26 = .ok (.getfield 30, 3) := by decide +kernel
theorem dX0_move_29 : decode cX0_move 29 = .ok (.iconst 0, 1) := by decide +kernel
theorem dX0_move_30 : decode cX0_move 30 = .ok (.invokevirtual 94, 3) := by decide +kernel
theorem dX0_move_33 : decode cX0_move 33 = .ok (.imul, 1) := by decide +kernel
theorem dX0_move_34 : decode cX0_move 34 = .ok (.istore 4, 2) := by decide +kernel
theorem dX0_move_36 : decode cX0_move 36 = .ok (.aload_n 0, 1) := by decide +kernel
theorem dX0_move_37 : decode cX0_move 37 = .ok (.getfield 37, 3) := by decide +kernel
theorem dX0_move_40 : decode cX0_move 40 = .ok (.iload_n 1, 1) := by decide +kernel
theorem dX0_move_41 : decode cX0_move 41 = .ok (.iload_n 3, 1) := by decide +kernel
theorem dX0_move_42 : decode cX0_move 42 = .ok (.bipush 20, 2) := by decide +kernel
theorem dX0_move_44 : decode cX0_move 44 = .ok (.irem, 1) := by decide +kernel
theorem dX0_move_45 : decode cX0_move 45 = .ok (.invokevirtual 75, 3) := by decide +kernel
theorem dX0_move_48 : decode cX0_move 48 = .ok (.aload_n 0, 1) := by decide +kernel
theorem dX0_move_49 : decode cX0_move 49 = .ok (.getfield 34, 3) := by decide +kernel
theorem dX0_move_52 : decode cX0_move 52 = .ok (.iload_n 1, 1) := by decide +kernel
theorem dX0_move_53 : decode cX0_move 53 = .ok (.iload 4, 2) := by decide +kernel
theorem dX0_move_55 : decode cX0_move 55 = .ok (.invokevirtual 131, 3) := by decide +kernel
theorem dX0_move_58 : decode cX0_move 58 = .ok (.aload_n 0, 1) := by decide +kernel
theorem dX0_move_59 : decode cX0_move 59 = .ok (.dup, 1) := by decide +kernel
theorem dX0_move_60 : decode cX0_move 60 = .ok (.getfield 68, 3) := by decide +kernel
theorem dX0_move_63 : decode cX0_move 63 = .ok (.iload 4, 2) := by decide +kernel
theorem dX0_move_65 : decode cX0_move 65 = .ok (.iadd, 1) := by decide +kernel
theorem dX0_move_66 : decode cX0_move 66 = .ok (.putfield 68, 3) := by decide +kernel
theorem dX0_move_69 : decode cX0_move 69 = .ok (.return_, 1) := by decide +kernel
theorem dX0_throwDie_0 : decode cX0_throwDie 0 = .ok (.aload_n 0, 1) := by decide +kernel
theorem dX0_throwDie_1 : decode cX0_throwDie 1 = .ok (.bipush 75, 2) := by decide +kernel
theorem dX0_throwDie_3 : decode cX0_throwDie 3 = .ok (.aload_n 0, 1) := by decide +kernel
theorem dX0_throwDie_4 : decode cX0_throwDie 4 = .ok (.getfield 59, 3) := by decide +kernel
theorem dX0_throwDie_7 : decode cX0_throwDie 7 = .ok (.imul, 1) := by decide +kernel
theorem dX0_throwDie_8 : decode cX0_throwDie 8 = .ok (.bipush 74, 2) := by decide +kernel
theorem dX0_throwDie_10 : decode cX0_throwDie 10 = .ok (.iadd, 1) := by decide +kernel
theorem dX0_throwDie_11 : decode cX0_throwDie 11 = .ok (.ldc 157, 2) := by decide +kernel
theorem dX0_throwDie_13 : decode cX0_throwDie 13 = .ok (.irem, 1) := by decide +kernel
theorem dX0_throwDie_14 : decode cX0_throwDie 14 = .ok (.putfield 59, 3) := by decide +kernel
theorem dX0_throwDie_17 : decode cX0_throwDie 17 = .ok (.iconst 1, 1) := by decide +kernel
theorem dX0_throwDie_18 : decode cX0_throwDie 18 = .ok (.aload_n 0, 1) := by decide +kernel
theorem dX0_throwDie_19 : decode cX0_throwDie 19 = .ok (.getfield 59, 3) := by decide +kernel
theorem dX0_throwDie_22 : decode cX0_throwDie 22 = .ok (.bipush 8, 2) := by decide +kernel
theorem dX0_throwDie_24 : decode cX0_throwDie 24 = .ok (.idiv, 1) := by decide +kernel
theorem dX0_throwDie_25 : decode cX0_throwDie 25 = .ok (.bipush 6, 2) := by decide +kernel
theorem dX0_throwDie_27 : decode cX0_throwDie 27 = .ok (.irem, 1) := by decide +kernel
theorem dX0_throwDie_28 : decode cX0_throwDie 28 = .ok (.iadd, 1) := by decide +kernel
theorem dX0_throwDie_29 : decode cX0_throwDie 29 = .ok (.ireturn, 1) := by decide +kernel
theorem dX0_tryToClaim_0 : decode cX0_tryToClaim 0 = .ok (.aload_n 0, 1) := by decide +kernel
theorem dX0_tryToClaim_1 : decode cX0_tryToClaim 1 = .ok (.getfield 37, 3) := by decide +kernel
theorem dX0_tryToClaim_4 : decode cX0_tryToClaim 4 = .ok (.iload_n 1, 1) := by decide +kernel
theorem dX0_tryToClaim_5 : decode cX0_tryToClaim 5 = .ok (.invokevirtual 94, 3) := by decide +kernel
theorem dX0_tryToClaim_8 : decode cX0_tryToClaim 8 = .ok (.istore_n 2, 1) := by decide +kernel
theorem dX0_tryToClaim_9 : decode cX0_tryToClaim 9 = .ok (.aload_n 0, 1) := by decide +kernel
theorem dX0_tryToClaim_10 : decode cX0_tryToClaim 10 = .ok (.getfield 12, 3) := by decide +kernel
theorem dX0_tryToClaim_13 : decode cX0_tryToClaim 13 = .ok (.iload_n 2, 1) := by decide +kernel
theorem dX0_tryToClaim_14 : decode cX0_tryToClaim 14 = .ok (.iload_n 1, 1) := by decide +kernel
theorem dX0_tryToClaim_15 : decode cX0_tryToClaim 15 = .ok (.invokevirtual 158, 3) := by decide +kernel
theorem dX0_tryToClaim_18 : decode cX0_tryToClaim 18 = .ok (.ifCond .ne 14, 3) := by decide +kernel
theorem dX0_tryToClaim_21 : decode cX0_tryToClaim 21 = .ok (.aload_n 0, 1) := by decide +kernel
theorem dX0_tryToClaim_22 : decode cX0_tryToClaim 22 = .ok (.getfield 12, 3) := by decide +kernel
theorem dX0_tryToClaim_25 : decode cX0_tryToClaim 25 = .ok (.iload_n 2, 1) := by decide +kernel
theorem dX0_tryToClaim_26 : decode cX0_tryToClaim 26 = .ok (.invokevirtual 162, 3) := by decide +kernel
theorem dX0_tryToClaim_29 : decode cX0_tryToClaim 29 = .ok (.ifCond .ne 4, 3) := by decide +kernel
theorem dX0_tryToClaim_32 : decode cX0_tryToClaim 32 = .ok (.return_, 1) := by decide +kernel
theorem dX0_tryToClaim_33 : decode cX0_tryToClaim 33 = .ok (.aload_n 0, 1) := by decide +kernel
theorem dX0_tryToClaim_34 : decode cX0_tryToClaim 34 = .ok (.getfield 30, 3) := by decide +kernel
theorem dX0_tryToClaim_37 : decode cX0_tryToClaim 37 = .ok (.iconst 1, 1) := by decide +kernel
theorem dX0_tryToClaim_38 : decode cX0_tryToClaim 38 = .ok (.invokevirtual 94, 3) := by decide +kernel
theorem dX0_tryToClaim_41 : decode cX0_tryToClaim 41 = .ok (.istore_n 3, 1) := by decide +kernel
theorem dX0_tryToClaim_42 : decode cX0_tryToClaim 42 = .ok (.aload_n 0, 1) := by decide +kernel
theorem dX0_tryToClaim_43 : decode cX0_tryToClaim 43 = .ok (.invokevirtual 154, 3) := by decide +kernel
theorem dX0_tryToClaim_46 : decode cX0_tryToClaim 46 = .ok (.aload_n 0, 1) := by decide +kernel
theorem dX0_tryToClaim_47 : decode cX0_tryToClaim 47 = .ok (.getfield 30, 3) := by decide +kernel
theorem dX0_tryToClaim_50 : decode cX0_tryToClaim 50 = .ok (.iconst 3, 1) := by decide +kernel
theorem dX0_tryToClaim_51 : decode cX0_tryToClaim 51 = .ok (.invokevirtual 94, 3) := by decide +kernel
theorem dX0_tryToClaim_54 : decode cX0_tryToClaim 54 = .ok (.if_icmp .lt 15, 3) := by decide +kernel
theorem dX0_tryToClaim_57 : decode cX0_tryToClaim 57 = .ok (.aload_n 0, 1) := by decide +kernel
theorem dX0_tryToClaim_58 : decode cX0_tryToClaim 58 = .ok (.getfield 34, 3) := by decide +kernel
theorem dX0_tryToClaim_61 : decode cX0_tryToClaim 61 = .ok (.iload_n 1, 1) := by decide +kernel
theorem dX0_tryToClaim_62 : decode cX0_tryToClaim 62 = .ok (.invokevirtual 94, 3) := by decide +kernel
theorem dX0_tryToClaim_65 : decode cX0_tryToClaim 65 = .ok (.iload_n 3, 1) := by decide +kernel
theorem dX0_tryToClaim_66 : decode cX0_tryToClaim 66 = .ok (.if_icmp .ge 4, 3) := by decide +kernel
theorem dX0_tryToClaim_69 : decode cX0_tryToClaim 69 = .ok (.return_, 1) := by decide +kernel
theorem dX0_tryToClaim_70 : decode cX0_tryToClaim 70 = .ok (.aload_n 0, 1) := by decide +kernel
theorem dX0_tryToClaim_71 : decode cX0_tryToClaim 71 = .ok (.getfield 12, 3) := by decide +kernel
theorem dX0_tryToClaim_74 : decode cX0_tryToClaim 74 = .ok (.iload_n 2, 1) := by decide +kernel
theorem dX0_tryToClaim_75 : decode cX0_tryToClaim 75 = .ok (.invokevirtual 165, 3) := by decide +kernel
theorem dX0_tryToClaim_78 : decode cX0_tryToClaim 78 = .ok (.istore 4, 2) := by decide +kernel
theorem dX0_tryToClaim_80 : decode cX0_tryToClaim 80 = .ok (.aload_n 0, 1) := by decide +kernel
theorem dX0_tryToClaim_81 : decode cX0_tryToClaim 81 = .ok (.getfield 34, 3) := by decide +kernel
theorem dX0_tryToClaim_84 : decode cX0_tryToClaim 84 = .ok (.iload_n 1, 1) := by decide +kernel
theorem dX0_tryToClaim_85 : decode cX0_tryToClaim 85 = .ok (.iload_n 3, 1) := by decide +kernel
theorem dX0_tryToClaim_86 : decode cX0_tryToClaim 86 = .ok (.ineg, 1) := by decide +kernel
theorem dX0_tryToClaim_87 : decode cX0_tryToClaim 87 = .ok (.invokevirtual 131, 3) := by decide +kernel
theorem dX0_tryToClaim_90 : decode cX0_tryToClaim 90 = .ok (.iload 4, 2) := by decide +kernel
theorem dX0_tryToClaim_92 : decode cX0_tryToClaim 92 = .ok (.bipush (-6), 2) := by decide +kernel
theorem dX0_tryToClaim_94 : decode cX0_tryToClaim 94 = .ok (.if_icmp .ne 16, 3) := by decide +kernel
theorem dX0_tryToClaim_97 : decode cX0_tryToClaim 97 = .ok (.aload_n 0, 1) := by decide +kernel
theorem dX0_tryToClaim_98 : decode cX0_tryToClaim 98 = .ok (.dup, 1) := by decide +kernel
theorem dX0_tryToClaim_99 : decode cX0_tryToClaim 99 = .ok (.getfield 65, 3) := by decide +kernel
theorem dX0_tryToClaim_102 : decode cX0_tryToClaim 102 = .ok (.iload_n 3, 1) := by decide +kernel
theorem dX0_tryToClaim_103 : decode cX0_tryToClaim 103 = .ok (.iadd, 1) := by decide +kernel
theorem dX0_tryToClaim_104 : decode cX0_tryToClaim 104 = .ok (.putfield 65, 3) := by decide +kernel
theorem dX0_tryToClaim_107 : decode cX0_tryToClaim 107 = .ok (.goto 13, 3) := by decide +kernel
theorem dX0_tryToClaim_110 : decode cX0_tryToClaim 110 = .ok (.aload_n 0, 1) := by decide +kernel
theorem dX0_tryToClaim_111 : decode cX0_tryToClaim 111 = .ok (.getfield 34, 3) := by decide +kernel
theorem dX0_tryToClaim_114 : decode cX0_tryToClaim 114 = .ok (.iload 4, 2) := by decide +kernel
theorem dX0_tryToClaim_116 : decode cX0_tryToClaim 116 = .ok (.iload_n 3, 1) := by decide +kernel
theorem dX0_tryToClaim_117 : decode cX0_tryToClaim 117 = .ok (.invokevirtual 131, 3) := by decide +kernel
theorem dX0_tryToClaim_120 : decode cX0_tryToClaim 120 = .ok (.aload_n 0, 1) := by decide +kernel
theorem dX0_tryToClaim_121 : decode cX0_tryToClaim 121 = .ok (.getfield 12, 3) := by decide +kernel
theorem dX0_tryToClaim_124 : decode cX0_tryToClaim 124 = .ok (.iload_n 2, 1) := by decide +kernel
theorem dX0_tryToClaim_125 : decode cX0_tryToClaim 125 = .ok (.iload_n 1, 1) := by decide +kernel
theorem dX0_tryToClaim_126 : decode cX0_tryToClaim 126 = .ok (.invokevirtual 168, 3) := by decide +kernel
theorem dX0_tryToClaim_129 : decode cX0_tryToClaim 129 = .ok (.return_, 1) := by decide +kernel
theorem dX0_payToll_0 : decode cX0_payToll 0 = .ok (.aload_n 0, 1) := by decide +kernel
theorem dX0_payToll_1 : decode cX0_payToll 1 = .ok (.getfield 37, 3) := by decide +kernel
theorem dX0_payToll_4 : decode cX0_payToll 4 = .ok (.iload_n 1, 1) := by decide +kernel
theorem dX0_payToll_5 : decode cX0_payToll 5 = .ok (.invokevirtual 94, 3) := by decide +kernel
theorem dX0_payToll_8 : decode cX0_payToll 8 = .ok (.istore_n 2, 1) := by decide +kernel
theorem dX0_payToll_9 : decode cX0_payToll 9 = .ok (.aload_n 0, 1) := by decide +kernel
theorem dX0_payToll_10 : decode cX0_payToll 10 = .ok (.getfield 12, 3) := by decide +kernel
theorem dX0_payToll_13 : decode cX0_payToll 13 = .ok (.iload_n 2, 1) := by decide +kernel
theorem dX0_payToll_14 : decode cX0_payToll 14 = .ok (.invokevirtual 165, 3) := by decide +kernel
theorem dX0_payToll_17 : decode cX0_payToll 17 = .ok (.istore_n 3, 1) := by decide +kernel
theorem dX0_payToll_18 : decode cX0_payToll 18 = .ok (.aload_n 0, 1) := by decide +kernel
theorem dX0_payToll_19 : decode cX0_payToll 19 = .ok (.getfield 12, 3) := by decide +kernel
theorem dX0_payToll_22 : decode cX0_payToll 22 = .ok (.iload_n 2, 1) := by decide +kernel
theorem dX0_payToll_23 : decode cX0_payToll 23 = .ok (.invokevirtual 171, 3) := by decide +kernel
theorem dX0_payToll_26 : decode cX0_payToll 26 = .ok (.istore 4, 2) := by decide +kernel
theorem dX0_payToll_28 : decode cX0_payToll 28 = .ok (.iload_n 3, 1) := by decide +kernel
theorem dX0_payToll_29 : decode cX0_payToll 29 = .ok (.bipush (-6), 2) := by decide +kernel
theorem dX0_payToll_31 : decode cX0_payToll 31 = .ok (.if_icmp .eq 15, 3) := by decide +kernel
theorem dX0_payToll_34 : decode cX0_payToll 34 = .ok (.aload_n 0, 1) := by decide +kernel
theorem dX0_payToll_35 : decode cX0_payToll 35 = .ok (.getfield 12, 3) := by decide +kernel
theorem dX0_payToll_38 : decode cX0_payToll 38 = .ok (.iload_n 2, 1) := by decide +kernel
theorem dX0_payToll_39 : decode cX0_payToll 39 = .ok (.iload_n 1, 1) := by decide +kernel
theorem dX0_payToll_40 : decode cX0_payToll 40 = .ok (.invokevirtual 158, 3) := by decide +kernel
theorem dX0_payToll_43 : decode cX0_payToll 43 = .ok (.ifCond .eq 4, 3) := by decide +kernel
theorem dX0_payToll_46 : decode cX0_payToll 46 = .ok (.return_, 1) := by decide +kernel
theorem dX0_payToll_47 : decode cX0_payToll 47 = .ok (.aload_n 0, 1) := by decide +kernel
theorem dX0_payToll_48 : decode cX0_payToll 48 = .ok (.getfield 12, 3) := by decide +kernel
theorem dX0_payToll_51 : decode cX0_payToll 51 = .ok (.iload_n 2, 1) := by decide +kernel
theorem dX0_payToll_52 : decode cX0_payToll 52 = .ok (.aload_n 0, 1) := by decide +kernel
theorem dX0_payToll_53 : decode cX0_payToll 53 = .ok (.getfield 30, 3) := by decide +kernel
theorem dX0_payToll_56 : decode cX0_payToll 56 = .ok (.iconst 2, 1) := by decide +kernel
theorem dX0_payToll_57 : decode cX0_payToll 57 = .ok (.invokevirtual 94, 3) := by decide +kernel
theorem dX0_payToll_60 : decode cX0_payToll 60 = .ok (.invokevirtual 174, 3) := by decide +kernel
theorem dX0_payToll_63 : decode cX0_payToll 63 = .ok (.istore 5, 2) := by decide +kernel
theorem dX0_payToll_65 : decode cX0_payToll 65 = .ok (.iload 4, 2) := by decide +kernel
theorem dX0_payToll_67 : decode cX0_payToll 67 = .ok (.bipush (-6), 2) := by decide +kernel
theorem dX0_payToll_69 : decode cX0_payToll 69 = .ok (.if_icmp .ne 7, 3) := by decide +kernel
theorem dX0_payToll_72 : decode cX0_payToll 72 = .ok (.iconst 0, 1) := by decide +kernel
theorem dX0_payToll_73 : decode cX0_payToll 73 = .ok (.goto 7, 3) := by decide +kernel
theorem dX0_payToll_76 : decode cX0_payToll 76 = .ok (.iload 5, 2) := by decide +kernel
theorem dX0_payToll_78 : decode cX0_payToll 78 = .ok (.iconst 2, 1) := by decide +kernel
theorem dX0_payToll_79 : decode cX0_payToll 79 = .ok (.idiv, 1) := by decide +kernel
theorem dX0_payToll_80 : decode cX0_payToll 80 = .ok (.istore 6, 2) := by decide +kernel
theorem dX0_payToll_82 : decode cX0_payToll 82 = .ok (.iload 5, 2) := by decide +kernel
theorem dX0_payToll_84 : decode cX0_payToll 84 = .ok (.iload 6, 2) := by decide +kernel
theorem dX0_payToll_86 : decode cX0_payToll 86 = .ok (.isub, 1) := by decide +kernel
theorem dX0_payToll_87 : decode cX0_payToll 87 = .ok (.istore 7, 2) := by decide +kernel
theorem dX0_payToll_89 : decode cX0_payToll 89 = .ok (.aload_n 0, 1) := by decide +kernel
theorem dX0_payToll_90 : decode cX0_payToll 90 = .ok (.getfield 21, 3) := by decide +kernel
theorem dX0_payToll_93 : decode cX0_payToll 93 = .ok (.iload_n 1, 1) := by decide +kernel
theorem dX0_payToll_94 : decode cX0_payToll 94 = .ok (.iload_n 3, 1) := by decide +kernel
theorem dX0_payToll_95 : decode cX0_payToll 95 = .ok (.iload 7, 2) := by decide +kernel
theorem dX0_payToll_97 : decode cX0_payToll 97 = .ok (.aload_n 0, 1) := by decide +kernel
theorem dX0_payToll_98 : decode cX0_payToll 98 = .ok (.iload_n 1, 1) := by decide +kernel
theorem dX0_payToll_99 : decode cX0_payToll 99 = .ok (.iload_n 3, 1) := by decide +kernel
theorem dX0_payToll_100 : decode cX0_payToll 100 = .ok (.iload 7, 2) := by decide +kernel
theorem dX0_payToll_102 : decode cX0_payToll 102 = .ok (.invokevirtual 141, 3) := by decide +kernel
theorem dX0_payToll_105 : decode cX0_payToll 105 = .ok (.isub, 1) := by decide +kernel
theorem dX0_payToll_106 : decode cX0_payToll 106 = .ok (.invokevirtual 177, 3) := by decide +kernel
theorem dX0_payToll_109 : decode cX0_payToll 109 = .ok (.iload 4, 2) := by decide +kernel
theorem dX0_payToll_111 : decode cX0_payToll 111 = .ok (.bipush (-6), 2) := by decide +kernel
theorem dX0_payToll_113 : decode cX0_payToll 113 = .ok (.if_icmp .eq 25, 3) := by decide +kernel
theorem dX0_payToll_116 : decode cX0_payToll 116 = .ok (.aload_n 0, 1) := by decide +kernel
theorem dX0_payToll_117 : decode cX0_payToll 117 = .ok (.getfield 21, 3) := by decide +kernel
theorem dX0_payToll_120 : decode cX0_payToll 120 = .ok (.iload_n 1, 1) := by decide +kernel
theorem dX0_payToll_121 : decode cX0_payToll 121 = .ok (.iload 4, 2) := by decide +kernel
theorem dX0_payToll_123 : decode cX0_payToll 123 = .ok (.iload 6, 2) := by decide +kernel
theorem dX0_payToll_125 : decode cX0_payToll 125 = .ok (.aload_n 0, 1) := by decide +kernel
theorem dX0_payToll_126 : decode cX0_payToll 126 = .ok (.iload_n 1, 1) := by decide +kernel
theorem dX0_payToll_127 : decode cX0_payToll 127 = .ok (.iload 4, 2) := by decide +kernel
theorem dX0_payToll_129 : decode cX0_payToll 129 = .ok (.iload 6, 2) := by decide +kernel
theorem dX0_payToll_131 : decode cX0_payToll 131 = .ok (.invokevirtual 141, 3) := by decide +kernel
theorem dX0_payToll_134 : decode cX0_payToll 134 = .ok (.isub, 1) := by decide +kernel
theorem dX0_payToll_135 : decode cX0_payToll 135 = .ok (.invokevirtual 177, 3) := by decide +kernel
theorem dX0_payToll_138 : decode cX0_payToll 138 = .ok (.return_, 1) := by decide +kernel
theorem dX0_loseSquares_0 : decode cX0_loseSquares 0 = .ok (.iconst 0, 1) := by decide +kernel
theorem dX0_loseSquares_1 : decode cX0_loseSquares 1 = .ok (.istore_n 2, 1) := by decide +kernel
theorem dX0_loseSquares_2 : decode cX0_loseSquares 2 = .ok (.iload_n 2, 1) := by decide +kernel
theorem dX0_loseSquares_3 : decode cX0_loseSquares 3 = .ok (.iconst 4, 1) := by decide +kernel
theorem dX0_loseSquares_4 : decode cX0_loseSquares 4 = .ok (.if_icmp .ge 101, 3) := by decide +kernel
theorem dX0_loseSquares_7 : decode cX0_loseSquares 7 = .ok (.aload_n 0, 1) := by decide +kernel
theorem dX0_loseSquares_8 : decode cX0_loseSquares 8 = .ok (.getfield 21, 3) := by decide +kernel
theorem dX0_loseSquares_11 : decode cX0_loseSquares 11 = .ok (.iload_n 1, 1) := by decide +kernel
theorem dX0_loseSquares_12 : decode cX0_loseSquares 12 = .ok (.invokevirtual 134, 3) := by decide +kernel
theorem dX0_loseSquares_15 : decode cX0_loseSquares 15 = .ok (.istore_n 3, 1) := by decide +kernel
theorem dX0_loseSquares_16 : decode cX0_loseSquares 16 = .ok (.iload_n 3, 1) := by decide +kernel
theorem dX0_loseSquares_17 : decode cX0_loseSquares 17 = .ok (.bipush (-6), 2) := by decide +kernel
theorem dX0_loseSquares_19 : decode cX0_loseSquares 19 = .ok (.if_icmp .eq 23, 3) := by decide +kernel
theorem dX0_loseSquares_22 : decode cX0_loseSquares 22 = .ok (.aload_n 0, 1) := by decide +kernel
theorem dX0_loseSquares_23 : decode cX0_loseSquares 23 = .ok (.getfield 21, 3) := by decide +kernel
theorem dX0_loseSquares_26 : decode cX0_loseSquares 26 = .ok (.iload_n 1, 1) := by decide +kernel
theorem dX0_loseSquares_27 : decode cX0_loseSquares 27 = .ok (.iload_n 3, 1) := by decide +kernel
theorem dX0_loseSquares_28 : decode cX0_loseSquares 28 = .ok (.invokevirtual 180, 3) := by decide +kernel
theorem dX0_loseSquares_31 : decode cX0_loseSquares 31 = .ok (.aload_n 0, 1) := by decide +kernel
theorem dX0_loseSquares_32 : decode cX0_loseSquares 32 = .ok (.getfield 30, 3) := by decide +kernel
theorem dX0_loseSquares_35 : decode cX0_loseSquares 35 = .ok (.iconst 4, 1) := by decide +kernel
theorem dX0_loseSquares_36 : decode cX0_loseSquares 36 = .ok (.invokevirtual 94, 3) := by decide +kernel
theorem dX0_loseSquares_39 : decode cX0_loseSquares 39 = .ok (.if_icmp .gt 4, 3) := by decide +kernel
theorem dX0_loseSquares_42 : decode cX0_loseSquares 42 = .ok (.return_, 1) := by decide +kernel
theorem dX0_loseSquares_43 : decode cX0_loseSquares 43 = .ok (.aload_n 0, 1) := by decide +kernel
theorem dX0_loseSquares_44 : decode cX0_loseSquares 44 = .ok (.getfield 12, 3) := by decide +kernel
theorem dX0_loseSquares_47 : decode cX0_loseSquares 47 = .ok (.iload_n 1, 1) := by decide +kernel
theorem dX0_loseSquares_48 : decode cX0_loseSquares 48 = .ok (.invokevirtual 183, 3) := by decide +kernel
theorem dX0_loseSquares_51 : decode cX0_loseSquares 51 = .ok (.istore 4, 2) := by decide +kernel
theorem dX0_loseSquares_53 : decode cX0_loseSquares 53 = .ok (.iload 4, 2) := by decide +kernel
theorem dX0_loseSquares_55 : decode cX0_loseSquares 55 = .ok (.bipush (-6), 2) := by decide +kernel
theorem dX0_loseSquares_57 : decode cX0_loseSquares 57 = .ok (.if_icmp .ne 4, 3) := by decide +kernel
theorem dX0_loseSquares_60 : decode cX0_loseSquares 60 = .ok (.return_, 1) := by decide +kernel
theorem dX0_loseSquares_61 : decode cX0_loseSquares 61 = .ok (.aload_n 0, 1) := by decide +kernel
theorem dX0_loseSquares_62 : decode cX0_loseSquares 62 = .ok (.getfield 12, 3) := by decide +kernel
theorem dX0_loseSquares_65 : decode cX0_loseSquares 65 = .ok (.iload 4, 2) := by decide +kernel
theorem dX0_loseSquares_67 : decode cX0_loseSquares 67 = .ok (.iload_n 1, 1) := by decide +kernel
theorem dX0_loseSquares_68 : decode cX0_loseSquares 68 = .ok (.iload_n 3, 1) := by decide +kernel
theorem dX0_loseSquares_69 : decode cX0_loseSquares 69 = .ok (.invokevirtual 186, 3) := by decide +kernel
theorem dX0_loseSquares_72 : decode cX0_loseSquares 72 = .ok (.aload_n 0, 1) := by decide +kernel
theorem dX0_loseSquares_73 : decode cX0_loseSquares 73 = .ok (.getfield 21, 3) := by decide +kernel
theorem dX0_loseSquares_76 : decode cX0_loseSquares 76 = .ok (.iload_n 1, 1) := by decide +kernel
theorem dX0_loseSquares_77 : decode cX0_loseSquares 77 = .ok (.iload_n 3, 1) := by decide +kernel
theorem dX0_loseSquares_78 : decode cX0_loseSquares 78 = .ok (.aload_n 0, 1) := by decide +kernel
theorem dX0_loseSquares_79 : decode cX0_loseSquares 79 = .ok (.getfield 21, 3) := by decide +kernel
theorem dX0_loseSquares_82 : decode cX0_loseSquares 82 = .ok (.iload_n 1, 1) := by decide +kernel
theorem dX0_loseSquares_83 : decode cX0_loseSquares 83 = .ok (.iload_n 3, 1) := by decide +kernel
theorem dX0_loseSquares_84 : decode cX0_loseSquares 84 = .ok (.invokevirtual 137, 3) := by decide +kernel
theorem dX0_loseSquares_87 : decode cX0_loseSquares 87 = .ok (.invokevirtual 145, 3) := by decide +kernel
theorem dX0_loseSquares_90 : decode cX0_loseSquares 90 = .ok (.aload_n 0, 1) := by decide +kernel
theorem dX0_loseSquares_91 : decode cX0_loseSquares 91 = .ok (.getfield 49, 3) := by decide +kernel
theorem dX0_loseSquares_94 : decode cX0_loseSquares 94 = .ok (.iload_n 1, 1) := by decide +kernel
theorem dX0_loseSquares_95 : decode cX0_loseSquares 95 = .ok (.iconst 1, 1) := by decide +kernel
theorem dX0_loseSquares_96 : decode cX0_loseSquares 96 = .ok (.invokevirtual 131, 3) := by decide +kernel
theorem dX0_loseSquares_99 : decode cX0_loseSquares 99 = .ok (.iinc 2 1, 3) := by decide +kernel
theorem dX0_loseSquares_102 : decode cX0_loseSquares 102 = .ok (.goto (-100), 3) := by decide +kernel
theorem dX0_loseSquares_105 : decode cX0_loseSquares 105 = .ok (.return_, 1) := by decide +kernel
theorem dX0_hasPlayer_0 : decode cX0_hasPlayer 0 = .ok (.iload_n 1, 1) := by decide +kernel
theorem dX0_hasPlayer_1 : decode cX0_hasPlayer 1 = .ok (.ifCond .lt 15, 3) := by decide +kernel
theorem dX0_hasPlayer_4 : decode cX0_hasPlayer 4 = .ok (.iload_n 1, 1) := by decide +kernel
theorem dX0_hasPlayer_5 : decode cX0_hasPlayer 5 = .ok (.aload_n 0, 1) := by decide +kernel
theorem dX0_hasPlayer_6 : decode cX0_hasPlayer 6 = .ok (.getfield 52, 3) := by decide +kernel
theorem dX0_hasPlayer_9 : decode cX0_hasPlayer 9 = .ok (.if_icmp .ge 7, 3) := by decide +kernel
theorem dX0_hasPlayer_12 : decode cX0_hasPlayer 12 = .ok (.iconst 1, 1) := by decide +kernel
theorem dX0_hasPlayer_13 : decode cX0_hasPlayer 13 = .ok (.goto 4, 3) := by decide +kernel
theorem dX0_hasPlayer_16 : decode cX0_hasPlayer 16 = .ok (.iconst 0, 1) := by decide +kernel
theorem dX0_hasPlayer_17 : decode cX0_hasPlayer 17 = .ok (.ireturn, 1) := by decide +kernel
theorem dX0_purseOf_0 : decode cX0_purseOf 0 = .ok (.aload_n 0, 1) := by decide +kernel
theorem dX0_purseOf_1 : decode cX0_purseOf 1 = .ok (.getfield 34, 3) := by decide +kernel
theorem dX0_purseOf_4 : decode cX0_purseOf 4 = .ok (.iload_n 1, 1) := by decide +kernel
theorem dX0_purseOf_5 : decode cX0_purseOf 5 = .ok (.invokevirtual 94, 3) := by decide +kernel
theorem dX0_purseOf_8 : decode cX0_purseOf 8 = .ok (.ireturn, 1) := by decide +kernel
theorem dX0_wealthOf_0 : decode cX0_wealthOf 0 = .ok (.aload_n 0, 1) := by decide +kernel
theorem dX0_wealthOf_1 : decode cX0_wealthOf 1 = .ok (.getfield 34, 3) := by decide +kernel
theorem dX0_wealthOf_4 : decode cX0_wealthOf 4 = .ok (.iload_n 1, 1) := by decide +kernel
theorem dX0_wealthOf_5 : decode cX0_wealthOf 5 = .ok (.invokevirtual 94, 3) := by decide +kernel
theorem dX0_wealthOf_8 : decode cX0_wealthOf 8 = .ok (.aload_n 0, 1) := by decide +kernel
theorem dX0_wealthOf_9 : decode cX0_wealthOf 9 = .ok (.getfield 21, 3) := by decide +kernel
theorem dX0_wealthOf_12 : decode cX0_wealthOf 12 = .ok (.iload_n 1, 1) := by decide +kernel
theorem dX0_wealthOf_13 : decode cX0_wealthOf 13 = .ok (.invokevirtual 189, 3) := by decide +kernel
theorem dX0_wealthOf_16 : decode cX0_wealthOf 16 = .ok (.iadd, 1) := by decide +kernel
theorem dX0_wealthOf_17 : decode cX0_wealthOf 17 = .ok (.aload_n 0, 1) := by decide +kernel
theorem dX0_wealthOf_18 : decode cX0_wealthOf 18 = .ok (.getfield 21, 3) := by decide +kernel
theorem dX0_wealthOf_21 : decode cX0_wealthOf 21 = .ok (.iload_n 1, 1) := by decide +kernel
theorem dX0_wealthOf_22 : decode cX0_wealthOf 22 = .ok (.invokevirtual 192, 3) := by decide +kernel
theorem dX0_wealthOf_25 : decode cX0_wealthOf 25 = .ok (.isub, 1) := by decide +kernel
theorem dX0_wealthOf_26 : decode cX0_wealthOf 26 = .ok (.ireturn, 1) := by decide +kernel
theorem dX0_factOfPlayer_0 : decode cX0_factOfPlayer 0 = .ok (.iload_n 2, 1) := by decide +kernel
theorem dX0_factOfPlayer_1 : decode cX0_factOfPlayer 1 = .ok (.tableswitch 132 0 8 #[51, 60, 69, 78, 87, 96, 105, 114, 123], 51) := by decide +kernel
theorem dX0_factOfPlayer_52 : decode cX0_factOfPlayer 52 = .ok (.aload_n 0, 1) := by decide +kernel
theorem dX0_factOfPlayer_53 : decode cX0_factOfPlayer 53 = .ok (.getfield 34, 3) := by decide +kernel
theorem dX0_factOfPlayer_56 : decode cX0_factOfPlayer 56 = .ok (.iload_n 1, 1) := by decide +kernel
theorem dX0_factOfPlayer_57 : decode cX0_factOfPlayer 57 = .ok (.invokevirtual 94, 3) := by decide +kernel
theorem dX0_factOfPlayer_60 : decode cX0_factOfPlayer 60 = .ok (.ireturn, 1) := by decide +kernel
theorem dX0_factOfPlayer_61 : decode cX0_factOfPlayer 61 = .ok (.aload_n 0, 1) := by decide +kernel
theorem dX0_factOfPlayer_62 : decode cX0_factOfPlayer 62 = .ok (.getfield 37, 3) := by decide +kernel
theorem dX0_factOfPlayer_65 : decode cX0_factOfPlayer 65 = .ok (.iload_n 1, 1) := by decide +kernel
theorem dX0_factOfPlayer_66 : decode cX0_factOfPlayer 66 = .ok (.invokevirtual 94, 3) := by decide +kernel
theorem dX0_factOfPlayer_69 : decode cX0_factOfPlayer 69 = .ok (.ireturn, 1) := by decide +kernel
theorem dX0_factOfPlayer_70 : decode cX0_factOfPlayer 70 = .ok (.aload_n 0, 1) := by decide +kernel
theorem dX0_factOfPlayer_71 : decode cX0_factOfPlayer 71 = .ok (.getfield 12, 3) := by decide +kernel
theorem dX0_factOfPlayer_74 : decode cX0_factOfPlayer 74 = .ok (.iload_n 1, 1) := by decide +kernel
theorem dX0_factOfPlayer_75 : decode cX0_factOfPlayer 75 = .ok (.invokevirtual 195, 3) := by decide +kernel
theorem dX0_factOfPlayer_78 : decode cX0_factOfPlayer 78 = .ok (.ireturn, 1) := by decide +kernel
theorem dX0_factOfPlayer_79 : decode cX0_factOfPlayer 79 = .ok (.aload_n 0, 1) := by decide +kernel
theorem dX0_factOfPlayer_80 : decode cX0_factOfPlayer 80 = .ok (.getfield 21, 3) := by decide +kernel
theorem dX0_factOfPlayer_83 : decode cX0_factOfPlayer 83 = .ok (.iload_n 1, 1) := by decide +kernel
theorem dX0_factOfPlayer_84 : decode cX0_factOfPlayer 84 = .ok (.invokevirtual 192, 3) := by decide +kernel
theorem dX0_factOfPlayer_87 : decode cX0_factOfPlayer 87 = .ok (.ireturn, 1) := by decide +kernel
theorem dX0_factOfPlayer_88 : decode cX0_factOfPlayer 88 = .ok (.aload_n 0, 1) := by decide +kernel
theorem dX0_factOfPlayer_89 : decode cX0_factOfPlayer 89 = .ok (.getfield 21, 3) := by decide +kernel
theorem dX0_factOfPlayer_92 : decode cX0_factOfPlayer 92 = .ok (.iload_n 1, 1) := by decide +kernel
theorem dX0_factOfPlayer_93 : decode cX0_factOfPlayer 93 = .ok (.invokevirtual 189, 3) := by decide +kernel
theorem dX0_factOfPlayer_96 : decode cX0_factOfPlayer 96 = .ok (.ireturn, 1) := by decide +kernel
theorem dX0_factOfPlayer_97 : decode cX0_factOfPlayer 97 = .ok (.aload_n 0, 1) := by decide +kernel
theorem dX0_factOfPlayer_98 : decode cX0_factOfPlayer 98 = .ok (.getfield 40, 3) := by decide +kernel
theorem dX0_factOfPlayer_101 : decode cX0_factOfPlayer 101 = .ok (.iload_n 1, 1) := by decide +kernel
theorem dX0_factOfPlayer_102 : decode cX0_factOfPlayer 102 = .ok (.invokevirtual 94, 3) := by decide +kernel
theorem dX0_factOfPlayer_105 : decode cX0_factOfPlayer 105 = .ok (.ireturn, 1) := by decide +kernel
theorem dX0_factOfPlayer_106 : decode cX0_factOfPlayer 106 = .ok (.aload_n 0, 1) := by decide +kernel
theorem dX0_factOfPlayer_107 : decode cX0_factOfPlayer 107 = .ok (.getfield 43, 3) := by decide +kernel
theorem dX0_factOfPlayer_110 : decode cX0_factOfPlayer 110 = .ok (.iload_n 1, 1) := by decide +kernel
theorem dX0_factOfPlayer_111 : decode cX0_factOfPlayer 111 = .ok (.invokevirtual 94, 3) := by decide +kernel
theorem dX0_factOfPlayer_114 : decode cX0_factOfPlayer 114 = .ok (.ireturn, 1) := by decide +kernel
theorem dX0_factOfPlayer_115 : decode cX0_factOfPlayer 115 = .ok (.aload_n 0, 1) := by decide +kernel
theorem dX0_factOfPlayer_116 : decode cX0_factOfPlayer 116 = .ok (.getfield 46, 3) := by decide +kernel
theorem dX0_factOfPlayer_119 : decode cX0_factOfPlayer 119 = .ok (.iload_n 1, 1) := by decide +kernel
theorem dX0_factOfPlayer_120 : decode cX0_factOfPlayer 120 = .ok (.invokevirtual 94, 3) := by decide +kernel
theorem dX0_factOfPlayer_123 : decode cX0_factOfPlayer 123 = .ok (.ireturn, 1) := by decide +kernel
theorem dX0_factOfPlayer_124 : decode cX0_factOfPlayer 124 = .ok (.aload_n 0, 1) := by decide +kernel
theorem dX0_factOfPlayer_125 : decode cX0_factOfPlayer 125 = .ok (.getfield 49, 3) := by decide +kernel
theorem dX0_factOfPlayer_128 : decode cX0_factOfPlayer 128 = .ok (.iload_n 1, 1) := by decide +kernel
theorem dX0_factOfPlayer_129 : decode cX0_factOfPlayer 129 = .ok (.invokevirtual 94, 3) := by decide +kernel
theorem dX0_factOfPlayer_132 : decode cX0_factOfPlayer 132 = .ok (.ireturn, 1) := by decide +kernel
theorem dX0_factOfPlayer_133 : decode cX0_factOfPlayer 133 = .ok (.bipush (-2), 2) := by decide +kernel
theorem dX0_factOfPlayer_135 : decode cX0_factOfPlayer 135 = .ok (.ireturn, 1) := by decide +kernel
theorem dX0_factOfSquare_0 : decode cX0_factOfSquare 0 = .ok (.iload_n 2, 1) := by decide +kernel
theorem dX0_factOfSquare_1 : decode cX0_factOfSquare 1 = .ok (.tableswitch 81 0 4 #[35, 40, 49, 58, 75], 35) := by decide +kernel
theorem dX0_factOfSquare_36 : decode cX0_factOfSquare 36 = .ok (.iload_n 1, 1) := by decide +kernel
theorem dX0_factOfSquare_37 : decode cX0_factOfSquare 37 = .ok (.invokestatic 198, 3) := by decide +kernel
theorem dX0_factOfSquare_40 : decode cX0_factOfSquare 40 = .ok (.ireturn, 1) := by decide +kernel
theorem dX0_factOfSquare_41 : decode cX0_factOfSquare 41 = .ok (.aload_n 0, 1) := by decide +kernel
theorem dX0_factOfSquare_42 : decode cX0_factOfSquare 42 = .ok (.getfield 12, 3) := by decide +kernel
theorem dX0_factOfSquare_45 : decode cX0_factOfSquare 45 = .ok (.iload_n 1, 1) := by decide +kernel
theorem dX0_factOfSquare_46 : decode cX0_factOfSquare 46 = .ok (.invokevirtual 165, 3) := by decide +kernel
theorem dX0_factOfSquare_49 : decode cX0_factOfSquare 49 = .ok (.ireturn, 1) := by decide +kernel
theorem dX0_factOfSquare_50 : decode cX0_factOfSquare 50 = .ok (.aload_n 0, 1) := by decide +kernel
theorem dX0_factOfSquare_51 : decode cX0_factOfSquare 51 = .ok (.getfield 12, 3) := by decide +kernel
theorem dX0_factOfSquare_54 : decode cX0_factOfSquare 54 = .ok (.iload_n 1, 1) := by decide +kernel
theorem dX0_factOfSquare_55 : decode cX0_factOfSquare 55 = .ok (.invokevirtual 171, 3) := by decide +kernel
theorem dX0_factOfSquare_58 : decode cX0_factOfSquare 58 = .ok (.ireturn, 1) := by decide +kernel
theorem dX0_factOfSquare_59 : decode cX0_factOfSquare 59 = .ok (.aload_n 0, 1) := by decide +kernel
theorem dX0_factOfSquare_60 : decode cX0_factOfSquare 60 = .ok (.getfield 12, 3) := by decide +kernel
theorem dX0_factOfSquare_63 : decode cX0_factOfSquare 63 = .ok (.iload_n 1, 1) := by decide +kernel
theorem dX0_factOfSquare_64 : decode cX0_factOfSquare 64 = .ok (.aload_n 0, 1) := by decide +kernel
theorem dX0_factOfSquare_65 : decode cX0_factOfSquare 65 = .ok (.getfield 30, 3) := by decide +kernel
theorem dX0_factOfSquare_68 : decode cX0_factOfSquare 68 = .ok (.iconst 2, 1) := by decide +kernel
theorem dX0_factOfSquare_69 : decode cX0_factOfSquare 69 = .ok (.invokevirtual 94, 3) := by decide +kernel
theorem dX0_factOfSquare_72 : decode cX0_factOfSquare 72 = .ok (.invokevirtual 174, 3) := by decide +kernel
theorem dX0_factOfSquare_75 : decode cX0_factOfSquare 75 = .ok (.ireturn, 1) := by decide +kernel
theorem dX0_factOfSquare_76 : decode cX0_factOfSquare 76 = .ok (.aload_n 0, 1) := by decide +kernel
theorem dX0_factOfSquare_77 : decode cX0_factOfSquare 77 = .ok (.iload_n 1, 1) := by decide +kernel
theorem dX0_factOfSquare_78 : decode cX0_factOfSquare 78 = .ok (.invokevirtual 201, 3) := by decide +kernel
theorem dX0_factOfSquare_81 : decode cX0_factOfSquare 81 = .ok (.ireturn, 1) := by decide +kernel
theorem dX0_factOfSquare_82 : decode cX0_factOfSquare 82 = .ok (.bipush (-2), 2) := by decide +kernel
theorem dX0_factOfSquare_84 : decode cX0_factOfSquare 84 = .ok (.ireturn, 1) := by decide +kernel
theorem dX0_playersOn_0 : decode cX0_playersOn 0 = .ok (.iconst 0, 1) := by decide +kernel
theorem dX0_playersOn_1 : decode cX0_playersOn 1 = .ok (.istore_n 2, 1) := by decide +kernel
theorem dX0_playersOn_2 : decode cX0_playersOn 2 = .ok (.iconst 0, 1) := by decide +kernel
theorem dX0_playersOn_3 : decode cX0_playersOn 3 = .ok (.istore_n 3, 1) := by decide +kernel
theorem dX0_playersOn_4 : decode cX0_playersOn 4 = .ok (.iload_n 3, 1) := by decide +kernel
theorem dX0_playersOn_5 : decode cX0_playersOn 5 = .ok (.aload_n 0, 1) := by decide +kernel
theorem dX0_playersOn_6 : decode cX0_playersOn 6 = .ok (.getfield 52, 3) := by decide +kernel
theorem dX0_playersOn_9 : decode cX0_playersOn 9 = .ok (.if_icmp .ge 27, 3) := by decide +kernel
theorem dX0_playersOn_12 : decode cX0_playersOn 12 = .ok (.aload_n 0, 1) := by decide +kernel
theorem dX0_playersOn_13 : decode cX0_playersOn 13 = .ok (.getfield 37, 3) := by decide +kernel
theorem dX0_playersOn_16 : decode cX0_playersOn 16 = .ok (.iload_n 3, 1) := by decide +kernel
theorem dX0_playersOn_17 : decode cX0_playersOn 17 = .ok (.invokevirtual 94, 3) := by decide +kernel
theorem dX0_playersOn_20 : decode cX0_playersOn 20 = .ok (.iload_n 1, 1) := by decide +kernel
theorem dX0_playersOn_21 : decode cX0_playersOn 21 = .ok (.if_icmp .ne 9, 3) := by decide +kernel
theorem dX0_playersOn_24 : decode cX0_playersOn 24 = .ok (.iload_n 2, 1) := by decide +kernel
theorem dX0_playersOn_25 : decode cX0_playersOn 25 = .ok (.iconst 1, 1) := by decide +kernel
theorem dX0_playersOn_26 : decode cX0_playersOn 26 = .ok (.iload_n 3, 1) := by decide +kernel
theorem dX0_playersOn_27 : decode cX0_playersOn 27 = .ok (.ishl, 1) := by decide +kernel
theorem dX0_playersOn_28 : decode cX0_playersOn 28 = .ok (.ior, 1) := by decide +kernel
theorem dX0_playersOn_29 : decode cX0_playersOn 29 = .ok (.istore_n 2, 1) := by decide +kernel
theorem dX0_playersOn_30 : decode cX0_playersOn 30 = .ok (.iinc 3 1, 3) := by decide +kernel
theorem dX0_playersOn_33 : decode cX0_playersOn 33 = .ok (.goto (-29), 3) := by decide +kernel
theorem dX0_playersOn_36 : decode cX0_playersOn 36 = .ok (.iload_n 2, 1) := by decide +kernel
theorem dX0_playersOn_37 : decode cX0_playersOn 37 = .ok (.ireturn, 1) := by decide +kernel
theorem dX0_fact_0 : decode cX0_fact 0 = .ok (.iload_n 1, 1) := by decide +kernel
theorem dX0_fact_1 : decode cX0_fact 1 = .ok (.tableswitch 117 0 8 #[51, 56, 61, 78, 86, 94, 102, 107, 112], 51) := by decide +kernel
theorem dX0_fact_52 : decode cX0_fact 52 = .ok (.aload_n 0, 1) := by decide +kernel
theorem dX0_fact_53 : decode cX0_fact 53 = .ok (.getfield 62, 3) := by decide +kernel
theorem dX0_fact_56 : decode cX0_fact 56 = .ok (.ireturn, 1) := by decide +kernel
theorem dX0_fact_57 : decode cX0_fact 57 = .ok (.aload_n 0, 1) := by decide +kernel
theorem dX0_fact_58 : decode cX0_fact 58 = .ok (.getfield 52, 3) := by decide +kernel
theorem dX0_fact_61 : decode cX0_fact 61 = .ok (.ireturn, 1) := by decide +kernel
theorem dX0_fact_62 : decode cX0_fact 62 = .ok (.aload_n 0, 1) := by decide +kernel
theorem dX0_fact_63 : decode cX0_fact 63 = .ok (.getfield 52, 3) := by decide +kernel
theorem dX0_fact_66 : decode cX0_fact 66 = .ok (.ifCond .ne 8, 3) := by decide +kernel
theorem dX0_fact_69 : decode cX0_fact 69 = .ok (.bipush (-6), 2) := by decide +kernel
theorem dX0_fact_71 : decode cX0_fact 71 = .ok (.goto 7, 3) := by decide +kernel
theorem dX0_fact_74 : decode cX0_fact 74 = .ok (.aload_n 0, 1) := by decide +kernel
theorem dX0_fact_75 : decode cX0_fact 75 = .ok (.getfield 56, 3) := by decide +kernel
theorem dX0_fact_78 : decode cX0_fact 78 = .ok (.ireturn, 1) := by decide +kernel
theorem dX0_fact_79 : decode cX0_fact 79 = .ok (.aload_n 0, 1) := by decide +kernel
theorem dX0_fact_80 : decode cX0_fact 80 = .ok (.getfield 21, 3) := by decide +kernel
theorem dX0_fact_83 : decode cX0_fact 83 = .ok (.invokevirtual 204, 3) := by decide +kernel
theorem dX0_fact_86 : decode cX0_fact 86 = .ok (.ireturn, 1) := by decide +kernel
theorem dX0_fact_87 : decode cX0_fact 87 = .ok (.aload_n 0, 1) := by decide +kernel
theorem dX0_fact_88 : decode cX0_fact 88 = .ok (.getfield 34, 3) := by decide +kernel
theorem dX0_fact_91 : decode cX0_fact 91 = .ok (.invokevirtual 98, 3) := by decide +kernel
theorem dX0_fact_94 : decode cX0_fact 94 = .ok (.ireturn, 1) := by decide +kernel
theorem dX0_fact_95 : decode cX0_fact 95 = .ok (.aload_n 0, 1) := by decide +kernel
theorem dX0_fact_96 : decode cX0_fact 96 = .ok (.getfield 21, 3) := by decide +kernel
theorem dX0_fact_99 : decode cX0_fact 99 = .ok (.invokevirtual 207, 3) := by decide +kernel
theorem dX0_fact_102 : decode cX0_fact 102 = .ok (.ireturn, 1) := by decide +kernel
theorem dX0_fact_103 : decode cX0_fact 103 = .ok (.aload_n 0, 1) := by decide +kernel
theorem dX0_fact_104 : decode cX0_fact 104 = .ok (.getfield 65, 3) := by decide +kernel
theorem dX0_fact_107 : decode cX0_fact 107 = .ok (.ireturn, 1) := by decide +kernel
theorem dX0_fact_108 : decode cX0_fact 108 = .ok (.aload_n 0, 1) := by decide +kernel
theorem dX0_fact_109 : decode cX0_fact 109 = .ok (.getfield 68, 3) := by decide +kernel
theorem dX0_fact_112 : decode cX0_fact 112 = .ok (.ireturn, 1) := by decide +kernel
theorem dX0_fact_113 : decode cX0_fact 113 = .ok (.aload_n 0, 1) := by decide +kernel
theorem dX0_fact_114 : decode cX0_fact 114 = .ok (.getfield 59, 3) := by decide +kernel
theorem dX0_fact_117 : decode cX0_fact 117 = .ok (.ireturn, 1) := by decide +kernel
theorem dX0_fact_118 : decode cX0_fact 118 = .ok (.iload_n 1, 1) := by decide +kernel
theorem dX0_fact_119 : decode cX0_fact 119 = .ok (.bipush 9, 2) := by decide +kernel
theorem dX0_fact_121 : decode cX0_fact 121 = .ok (.if_icmp .lt 23, 3) := by decide +kernel
theorem dX0_fact_124 : decode cX0_fact 124 = .ok (.iload_n 1, 1) := by decide +kernel
theorem dX0_fact_125 : decode cX0_fact 125 = .ok (.bipush 14, 2) := by decide +kernel
theorem dX0_fact_127 : decode cX0_fact 127 = .ok (.if_icmp .ge 17, 3) := by decide +kernel
theorem dX0_fact_130 : decode cX0_fact 130 = .ok (.aload_n 0, 1) := by decide +kernel
theorem dX0_fact_131 : decode cX0_fact 131 = .ok (.getfield 30, 3) := by decide +kernel
theorem dX0_fact_134 : decode cX0_fact 134 = .ok (.iload_n 1, 1) := by decide +kernel
theorem dX0_fact_135 : decode cX0_fact 135 = .ok (.bipush 9, 2) := by decide +kernel
theorem dX0_fact_137 : decode cX0_fact 137 = .ok (.isub, 1) := by decide +kernel
theorem dX0_fact_138 : decode cX0_fact 138 = .ok (.invokevirtual 94, 3) := by decide +kernel
theorem dX0_fact_141 : decode cX0_fact 141 = .ok (.goto 5, 3) := by decide +kernel
theorem dX0_fact_144 : decode cX0_fact 144 = .ok (.bipush (-2), 2) := by decide +kernel
theorem dX0_fact_146 : decode cX0_fact 146 = .ok (.ireturn, 1) := by decide +kernel
theorem dX0_describe_0 : decode cX0_describe 0 = .ok (.aload_n 1, 1) := by decide +kernel
theorem dX0_describe_1 : decode cX0_describe 1 = .ok (.invokevirtual 210, 3) := by decide +kernel
theorem dX0_describe_4 : decode cX0_describe 4 = .ok (.iconst 0, 1) := by decide +kernel
theorem dX0_describe_5 : decode cX0_describe 5 = .ok (.istore_n 2, 1) := by decide +kernel
theorem dX0_describe_6 : decode cX0_describe 6 = .ok (.iload_n 2, 1) := by decide +kernel
theorem dX0_describe_7 : decode cX0_describe 7 = .ok (.bipush 20, 2) := by decide +kernel
theorem dX0_describe_9 : decode cX0_describe 9 = .ok (.if_icmp .ge 135, 3) := by decide +kernel
theorem dX0_describe_12 : decode cX0_describe 12 = .ok (.iload_n 2, 1) := by decide +kernel
theorem dX0_describe_13 : decode cX0_describe 13 = .ok (.invokestatic 198, 3) := by decide +kernel
theorem dX0_describe_16 : decode cX0_describe 16 = .ok (.istore_n 3, 1) := by decide +kernel
theorem dX0_describe_17 : decode cX0_describe 17 = .ok (.aload_n 1, 1) := by decide +kernel
theorem dX0_describe_18 : decode cX0_describe 18 = .ok (.iload_n 3, 1) := by decide +kernel
theorem dX0_describe_19 : decode cX0_describe 19 = .ok (.ifCond .ne 8, 3) := by decide +kernel
theorem dX0_describe_22 : decode cX0_describe 22 = .ok (.bipush 111, 2) := by decide +kernel
theorem dX0_describe_24 : decode cX0_describe 24 = .ok (.goto 15, 3) := by decide +kernel
theorem dX0_describe_27 : decode cX0_describe 27 = .ok (.iload_n 3, 1) := by decide +kernel
theorem dX0_describe_28 : decode cX0_describe 28 = .ok (.iconst 1, 1) := by decide +kernel
theorem dX0_describe_29 : decode cX0_describe 29 = .ok (.if_icmp .ne 8, 3) := by decide +kernel
theorem dX0_describe_32 : decode cX0_describe 32 = .ok (.bipush 45, 2) := by decide +kernel
theorem dX0_describe_34 : decode cX0_describe 34 = .ok (.goto 5, 3) := by decide +kernel
theorem dX0_describe_37 : decode cX0_describe 37 = .ok (.bipush 61, 2) := by decide +kernel
theorem dX0_describe_39 : decode cX0_describe 39 = .ok (.invokevirtual 215, 3) := by decide +kernel
theorem dX0_describe_42 : decode cX0_describe 42 = .ok (.aload_n 0, 1) := by decide +kernel
theorem dX0_describe_43 : decode cX0_describe 43 = .ok (.getfield 12, 3) := by decide +kernel
theorem dX0_describe_46 : decode cX0_describe 46 = .ok (.iload_n 2, 1) := by decide +kernel
theorem dX0_describe_47 : decode cX0_describe 47 = .ok (.invokevirtual 165, 3) := by decide +kernel
theorem dX0_describe_50 : decode cX0_describe 50 = .ok (.bipush (-6), 2) := by decide +kernel
theorem dX0_describe_52 : decode cX0_describe 52 = .ok (.if_icmp .eq 18, 3) := by decide +kernel
theorem dX0_describe_55 : decode cX0_describe 55 = .ok (.aload_n 1, 1) := by decide +kernel
theorem dX0_describe_56 : decode cX0_describe 56 = .ok (.bipush 97, 2) := by decide +kernel
theorem dX0_describe_58 : decode cX0_describe 58 = .ok (.aload_n 0, 1) := by decide +kernel
theorem dX0_describe_59 : decode cX0_describe 59 = .ok (.getfield 12, 3) := by decide +kernel
theorem dX0_describe_62 : decode cX0_describe 62 = .ok (.iload_n 2, 1) := by decide +kernel
theorem dX0_describe_63 : decode cX0_describe 63 = .ok (.invokevirtual 165, 3) := by decide +kernel
theorem dX0_describe_66 : decode cX0_describe 66 = .ok (.iadd, 1) := by decide +kernel
theorem dX0_describe_67 : decode cX0_describe 67 = .ok (.invokevirtual 215, 3) := by decide +kernel
theorem dX0_describe_70 : decode cX0_describe 70 = .ok (.aload_n 0, 1) := by decide +kernel
theorem dX0_describe_71 : decode cX0_describe 71 = .ok (.getfield 12, 3) := by decide +kernel
theorem dX0_describe_74 : decode cX0_describe 74 = .ok (.iload_n 2, 1) := by decide +kernel
theorem dX0_describe_75 : decode cX0_describe 75 = .ok (.invokevirtual 171, 3) := by decide +kernel
theorem dX0_describe_78 : decode cX0_describe 78 = .ok (.bipush (-6), 2) := by decide +kernel
theorem dX0_describe_80 : decode cX0_describe 80 = .ok (.if_icmp .eq 18, 3) := by decide +kernel
theorem dX0_describe_83 : decode cX0_describe 83 = .ok (.aload_n 1, 1) := by decide +kernel
theorem dX0_describe_84 : decode cX0_describe 84 = .ok (.bipush 97, 2) := by decide +kernel
theorem dX0_describe_86 : decode cX0_describe 86 = .ok (.aload_n 0, 1) := by decide +kernel
theorem dX0_describe_87 : decode cX0_describe 87 = .ok (.getfield 12, 3) := by decide +kernel
theorem dX0_describe_90 : decode cX0_describe 90 = .ok (.iload_n 2, 1) := by decide +kernel
theorem dX0_describe_91 : decode cX0_describe 91 = .ok (.invokevirtual 171, 3) := by decide +kernel
theorem dX0_describe_94 : decode cX0_describe 94 = .ok (.iadd, 1) := by decide +kernel
theorem dX0_describe_95 : decode cX0_describe 95 = .ok (.invokevirtual 215, 3) := by decide +kernel
theorem dX0_describe_98 : decode cX0_describe 98 = .ok (.iconst 0, 1) := by decide +kernel
theorem dX0_describe_99 : decode cX0_describe 99 = .ok (.istore 4, 2) := by decide +kernel
theorem dX0_describe_101 : decode cX0_describe 101 = .ok (.iload 4, 2) := by decide +kernel
theorem dX0_describe_103 : decode cX0_describe 103 = .ok (.aload_n 0, 1) := by decide +kernel
theorem dX0_describe_104 : decode cX0_describe 104 = .ok (.getfield 52, 3) := by decide +kernel
theorem dX0_describe_107 : decode cX0_describe 107 = .ok (.if_icmp .ge 31, 3) := by decide +kernel
theorem dX0_describe_110 : decode cX0_describe 110 = .ok (.aload_n 0, 1) := by decide +kernel
theorem dX0_describe_111 : decode cX0_describe 111 = .ok (.getfield 37, 3) := by decide +kernel
theorem dX0_describe_114 : decode cX0_describe 114 = .ok (.iload 4, 2) := by decide +kernel
theorem dX0_describe_116 : decode cX0_describe 116 = .ok (.invokevirtual 94, 3) := by decide +kernel
theorem dX0_describe_119 : decode cX0_describe 119 = .ok (.iload_n 2, 1) := by decide +kernel
theorem dX0_describe_120 : decode cX0_describe 120 = .ok (.if_icmp .ne 12, 3) := by decide +kernel
theorem dX0_describe_123 : decode cX0_describe 123 = .ok (.aload_n 1, 1) := by decide +kernel
theorem dX0_describe_124 : decode cX0_describe 124 = .ok (.bipush 65, 2) := by decide +kernel
theorem dX0_describe_126 : decode cX0_describe 126 = .ok (.iload 4, 2) := by decide +kernel
theorem dX0_describe_128 : decode cX0_describe 128 = .ok (.iadd, 1) := by decide +kernel
theorem dX0_describe_129 : decode cX0_describe 129 = .ok (.invokevirtual 215, 3) := by decide +kernel
theorem dX0_describe_132 : decode cX0_describe 132 = .ok (.iinc 4 1, 3) := by decide +kernel
theorem dX0_describe_135 : decode cX0_describe 135 = .ok (.goto (-34), 3) := by decide +kernel
theorem dX0_describe_138 : decode cX0_describe 138 = .ok (.iinc 2 1, 3) := by decide +kernel
theorem dX0_describe_141 : decode cX0_describe 141 = .ok (.goto (-135), 3) := by decide +kernel
theorem dX0_describe_144 : decode cX0_describe 144 = .ok (.return_, 1) := by decide +kernel
theorem dX1_init_0 : decode cX1_init 0 = .ok (.aload_n 0, 1) := by decide +kernel
theorem dX1_init_1 : decode cX1_init 1 = .ok (.invokespecial 3, 3) := by decide +kernel
theorem dX1_init_4 : decode cX1_init 4 = .ok (.aload_n 0, 1) := by decide +kernel
theorem dX1_init_5 : decode cX1_init 5 = .ok (.new 9, 3) := by decide +kernel
theorem dX1_init_8 : decode cX1_init 8 = .ok (.dup, 1) := by decide +kernel
theorem dX1_init_9 : decode cX1_init 9 = .ok (.bipush 16, 2) := by decide +kernel
theorem dX1_init_11 : decode cX1_init 11 = .ok (.iconst 0, 1) := by decide +kernel
theorem dX1_init_12 : decode cX1_init 12 = .ok (.invokespecial 11, 3) := by decide +kernel
theorem dX1_init_15 : decode cX1_init 15 = .ok (.putfield 14, 3) := by decide +kernel
theorem dX1_init_18 : decode cX1_init 18 = .ok (.aload_n 0, 1) := by decide +kernel
theorem dX1_init_19 : decode cX1_init 19 = .ok (.new 9, 3) := by decide +kernel
theorem dX1_init_22 : decode cX1_init 22 = .ok (.dup, 1) := by decide +kernel
theorem dX1_init_23 : decode cX1_init 23 = .ok (.bipush 16, 2) := by decide +kernel
theorem dX1_init_25 : decode cX1_init 25 = .ok (.bipush (-6), 2) := by decide +kernel
theorem dX1_init_27 : decode cX1_init 27 = .ok (.invokespecial 11, 3) := by decide +kernel
theorem dX1_init_30 : decode cX1_init 30 = .ok (.putfield 20, 3) := by decide +kernel
theorem dX1_init_33 : decode cX1_init 33 = .ok (.aload_n 0, 1) := by decide +kernel
theorem dX1_init_34 : decode cX1_init 34 = .ok (.new 9, 3) := by decide +kernel
theorem dX1_init_37 : decode cX1_init 37 = .ok (.dup, 1) := by decide +kernel
theorem dX1_init_38 : decode cX1_init 38 = .ok (.iconst 5, 1) := by decide +kernel
theorem dX1_init_39 : decode cX1_init 39 = .ok (.bipush (-6), 2) := by decide +kernel
theorem dX1_init_41 : decode cX1_init 41 = .ok (.invokespecial 11, 3) := by decide +kernel
theorem dX1_init_44 : decode cX1_init 44 = .ok (.putfield 23, 3) := by decide +kernel
theorem dX1_init_47 : decode cX1_init 47 = .ok (.return_, 1) := by decide +kernel
theorem dX1_copyFrom_0 : decode cX1_copyFrom 0 = .ok (.aload_n 0, 1) := by decide +kernel
theorem dX1_copyFrom_1 : decode cX1_copyFrom 1 = .ok (.getfield 14, 3) := by decide +kernel
theorem dX1_copyFrom_4 : decode cX1_copyFrom 4 = .ok (.aload_n 1, 1) := by decide +kernel
theorem dX1_copyFrom_5 : decode cX1_copyFrom 5 = .ok (.getfield 14, 3) := by decide +kernel
theorem dX1_copyFrom_8 : decode cX1_copyFrom 8 = .ok (.invokevirtual 26, 3) := by decide +kernel
theorem dX1_copyFrom_11 : decode cX1_copyFrom 11 = .ok (.aload_n 0, 1) := by decide +kernel
theorem dX1_copyFrom_12 : decode cX1_copyFrom 12 = .ok (.getfield 20, 3) := by decide +kernel
theorem dX1_copyFrom_15 : decode cX1_copyFrom 15 = .ok (.aload_n 1, 1) := by decide +kernel
theorem dX1_copyFrom_16 : decode cX1_copyFrom 16 = .ok (.getfield 20, 3) := by decide +kernel
theorem dX1_copyFrom_19 : decode cX1_copyFrom 19 = .ok (.invokevirtual 26, 3) := by decide +kernel
theorem dX1_copyFrom_22 : decode cX1_copyFrom 22 = .ok (.return_, 1) := by decide +kernel
theorem dX1_coinsOf_0 : decode cX1_coinsOf 0 = .ok (.aload_n 0, 1) := by decide +kernel
theorem dX1_coinsOf_1 : decode cX1_coinsOf 1 = .ok (.getfield 14, 3) := by decide +kernel
theorem dX1_coinsOf_4 : decode cX1_coinsOf 4 = .ok (.iload_n 1, 1) := by decide +kernel
theorem dX1_coinsOf_5 : decode cX1_coinsOf 5 = .ok (.iconst 4, 1) := by decide +kernel
