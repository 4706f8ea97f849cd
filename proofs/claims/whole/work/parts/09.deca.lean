theorem dX0_init_0 : decode cX0_init 0 = .ok (.aload_n 0, 1) := by decide +kernel
theorem dX0_init_1 : decode cX0_init 1 = .ok (.invokespecial 3, 3) := by decide +kernel
theorem dX0_init_4 : decode cX0_init 4 = .ok (.aload_n 0, 1) := by decide +kernel
theorem dX0_init_5 : decode cX0_init 5 = .ok (.sipush 1681, 3) := by decide +kernel
theorem dX0_init_8 : decode cX0_init 8 = .ok (.newarray .int, 2) := by decide +kernel
theorem dX0_init_10 : decode cX0_init 10 = .ok (.putfield 11, 3) := by decide +kernel
theorem dX0_init_13 : decode cX0_init 13 = .ok (.aload_n 0, 1) := by decide +kernel
theorem dX0_init_14 : decode cX0_init 14 = .ok (.new 15, 3) := by decide +kernel
theorem dX0_init_17 : decode cX0_init 17 = .ok (.dup, 1) := by decide +kernel
theorem dX0_init_18 : decode cX0_init 18 = .ok (.bipush 40, 2) := by decide +kernel
theorem dX0_init_20 : decode cX0_init 20 = .ok (.invokespecial 17, 3) := by decide +kernel
theorem dX0_init_23 : decode cX0_init 23 = .ok (.putfield 20, 3) := by decide +kernel
theorem dX0_init_26 : decode cX0_init 26 = .ok (.aload_n 0, 1) := by decide +kernel
theorem dX0_init_27 : decode cX0_init 27 = .ok (.new 15, 3) := by decide +kernel
theorem dX0_init_30 : decode cX0_init 30 = .ok (.dup, 1) := by decide +kernel
theorem dX0_init_31 : decode cX0_init 31 = .ok (.bipush 40, 2) := by decide +kernel
theorem dX0_init_33 : decode cX0_init 33 = .ok (.invokespecial 17, 3) := by decide +kernel
theorem dX0_init_36 : decode cX0_init 36 = .ok (.putfield 24, 3) := by decide +kernel
theorem dX0_init_39 : decode cX0_init 39 = .ok (.return_, 1) := by decide +kernel
theorem dX0_leastCost_0 : decode cX0_leastCost 0 = .ok (.aload_n 0, 1) := by decide +kernel
theorem dX0_leastCost_1 : decode cX0_leastCost 1 = .ok (.aload_n 1, 1) := by decide +kernel
theorem dX0_leastCost_2 : decode cX0_leastCost 2 = .ok (.aload_n 2, 1) := by decide +kernel
theorem dX0_leastCost_3 : decode cX0_leastCost 3 = .ok (.invokevirtual 27, 3) := by decide +kernel
theorem dX0_leastCost_6 : decode cX0_leastCost 6 = .ok (.aload_n 0, 1) := by decide +kernel
theorem dX0_leastCost_7 : decode cX0_leastCost 7 = .ok (.iconst 0, 1) := by decide +kernel
theorem dX0_leastCost_8 : decode cX0_leastCost 8 = .ok (.iconst 0, 1) := by decide +kernel
theorem dX0_leastCost_9 : decode cX0_leastCost 9 = .ok (.invokevirtual 31, 3) := by decide +kernel
theorem dX0_leastCost_12 : decode cX0_leastCost 12 = .ok (.ireturn, 1) := by decide +kernel
theorem dX0_lay_0 : decode cX0_lay 0 = .ok (.aload_n 0, 1) := by decide +kernel
theorem dX0_lay_1 : decode cX0_lay 1 = .ok (.aload_n 1, 1) := by decide +kernel
theorem dX0_lay_2 : decode cX0_lay 2 = .ok (.aload_n 2, 1) := by decide +kernel
theorem dX0_lay_3 : decode cX0_lay 3 = .ok (.invokevirtual 27, 3) := by decide +kernel
theorem dX0_lay_6 : decode cX0_lay 6 = .ok (.aload_n 0, 1) := by decide +kernel
theorem dX0_lay_7 : decode cX0_lay 7 = .ok (.getfield 20, 3) := by decide +kernel
theorem dX0_lay_10 : decode cX0_lay 10 = .ok (.aload_n 1, 1) := by decide +kernel
theorem dX0_lay_11 : decode cX0_lay 11 = .ok (.invokevirtual 35, 3) := by decide +kernel
theorem dX0_lay_14 : decode cX0_lay 14 = .ok (.iconst (-1), 1) := by decide +kernel
theorem dX0_lay_15 : decode cX0_lay 15 = .ok (.invokevirtual 39, 3) := by decide +kernel
theorem dX0_lay_18 : decode cX0_lay 18 = .ok (.aload_n 0, 1) := by decide +kernel
theorem dX0_lay_19 : decode cX0_lay 19 = .ok (.getfield 24, 3) := by decide +kernel
theorem dX0_lay_22 : decode cX0_lay 22 = .ok (.aload_n 2, 1) := by decide +kernel
theorem dX0_lay_23 : decode cX0_lay 23 = .ok (.invokevirtual 35, 3) := by decide +kernel
theorem dX0_lay_26 : decode cX0_lay 26 = .ok (.iconst (-1), 1) := by decide +kernel
theorem dX0_lay_27 : decode cX0_lay 27 = .ok (.invokevirtual 39, 3) := by decide +kernel
theorem dX0_lay_30 : decode cX0_lay 30 = .ok (.iconst 0, 1) := by decide +kernel
theorem dX0_lay_31 : decode cX0_lay 31 = .ok (.istore_n 3, 1) := by decide +kernel
theorem dX0_lay_32 : decode cX0_lay 32 = .ok (.iconst 0, 1) := by decide +kernel
theorem dX0_lay_33 : decode cX0_lay 33 = .ok (.istore 4, 2) := by decide +kernel
theorem dX0_lay_35 : decode cX0_lay 35 = .ok (.iconst 0, 1) := by decide +kernel
theorem dX0_lay_36 : decode cX0_lay 36 = .ok (.istore 5, 2) := by decide +kernel
theorem dX0_lay_38 : decode cX0_lay 38 = .ok (.iload 5, 2) := by decide +kernel
theorem dX0_lay_40 : decode cX0_lay 40 = .ok (.bipush 80, 2) := by decide +kernel
theorem dX0_lay_42 : decode cX0_lay 42 = .ok (.if_icmp .ge 129, 3) := by decide +kernel
theorem dX0_lay_45 : decode cX0_lay 45 = .ok (.iload_n 3, 1) := by decide +kernel
theorem dX0_lay_46 : decode cX0_lay 46 = .ok (.aload_n 1, 1) := by decide +kernel
theorem dX0_lay_47 : decode cX0_lay 47 = .ok (.invokevirtual 35, 3) := by decide +kernel
theorem dX0_lay_50 : decode cX0_lay 50 = .ok (.if_icmp .ge 121, 3) := by decide +kernel
theorem dX0_lay_53 : decode cX0_lay 53 = .ok (.aload_n 0, 1) := by decide +kernel
theorem dX0_lay_54 : decode cX0_lay 54 = .ok (.iload_n 3, 1) := by decide +kernel
theorem dX0_lay_55 : decode cX0_lay 55 = .ok (.iload 4, 2) := by decide +kernel
theorem dX0_lay_57 : decode cX0_lay 57 = .ok (.invokevirtual 31, 3) := by decide +kernel
theorem dX0_lay_60 : decode cX0_lay 60 = .ok (.istore 6, 2) := by decide +kernel
theorem dX0_lay_62 : decode cX0_lay 62 = .ok (.aload_n 1, 1) := by decide +kernel
theorem dX0_lay_63 : decode cX0_lay 63 = .ok (.iload_n 3, 1) := by decide +kernel
theorem dX0_lay_64 : decode cX0_lay 64 = .ok (.invokevirtual 43, 3) := by decide +kernel
theorem dX0_lay_67 : decode cX0_lay 67 = .ok (.aload_n 2, 1) := by decide +kernel
theorem dX0_lay_68 : decode cX0_lay 68 = .ok (.iload 4, 2) := by decide +kernel
theorem dX0_lay_70 : decode cX0_lay 70 = .ok (.invokevirtual 43, 3) := by decide +kernel
theorem dX0_lay_73 : decode cX0_lay 73 = .ok (.if_icmp .ne 7, 3) := by decide +kernel
theorem dX0_lay_76 : decode cX0_lay 76 = .ok (.iconst 0, 1) := by decide +kernel
theorem dX0_lay_77 : decode cX0_lay 77 = .ok (.goto 4, 3) := by decide +kernel
theorem dX0_lay_80 : decode cX0_lay 80 = .ok (.iconst 1, 1) := by decide +kernel
theorem dX0_lay_81 : decode cX0_lay 81 = .ok (.istore 7, 2) := by decide +kernel
theorem dX0_lay_83 : decode cX0_lay 83 = .ok (.aload_n 2, 1) := by decide +kernel
theorem dX0_lay_84 : decode cX0_lay 84 = .ok (.iload 4, 2) := by decide +kernel
theorem dX0_lay_86 : decode cX0_lay 86 = .ok (.invokevirtual 47, 3) := by decide +kernel
theorem dX0_lay_89 : decode cX0_lay 89 = .ok (.ifCond .eq 51, 3) := by decide +kernel
theorem dX0_lay_92 : decode cX0_lay 92 = .ok (.iload 6, 2) := by decide +kernel
theorem dX0_lay_94 : decode cX0_lay 94 = .ok (.aload_n 0, 1) := by decide +kernel
theorem dX0_lay_95 : decode cX0_lay 95 = .ok (.iload_n 3, 1) := by decide +kernel
theorem dX0_lay_96 : decode cX0_lay 96 = .ok (.iconst 1, 1) := by decide +kernel
theorem dX0_lay_97 : decode cX0_lay 97 = .ok (.iadd, 1) := by decide +kernel
theorem dX0_lay_98 : decode cX0_lay 98 = .ok (.iload 4, 2) := by decide +kernel
theorem dX0_lay_100 : decode cX0_lay 100 = .ok (.iconst 1, 1) := by decide +kernel
theorem dX0_lay_101 : decode cX0_lay 101 = .ok (.iadd, 1) := by decide +kernel
theorem dX0_lay_102 : decode cX0_lay 102 = .ok (.invokevirtual 31, 3) := by decide +kernel
theorem dX0_lay_105 : decode cX0_lay 105 = .ok (.iload 7, 2) := by decide +kernel
theorem dX0_lay_107 : decode cX0_lay 107 = .ok (.iadd, 1) := by decide +kernel
theorem dX0_lay_108 : decode cX0_lay 108 = .ok (.if_icmp .ne 32, 3) := by decide +kernel
theorem dX0_lay_111 : decode cX0_lay 111 = .ok (.aload_n 0, 1) := by decide +kernel
theorem dX0_lay_112 : decode cX0_lay 112 = .ok (.getfield 20, 3) := by decide +kernel
theorem dX0_lay_115 : decode cX0_lay 115 = .ok (.iload_n 3, 1) := by decide +kernel
theorem dX0_lay_116 : decode cX0_lay 116 = .ok (.iload 4, 2) := by decide +kernel
theorem dX0_lay_118 : decode cX0_lay 118 = .ok (.invokevirtual 51, 3) := by decide +kernel
theorem dX0_lay_121 : decode cX0_lay 121 = .ok (.aload_n 0, 1) := by decide +kernel
theorem dX0_lay_122 : decode cX0_lay 122 = .ok (.getfield 24, 3) := by decide +kernel
theorem dX0_lay_125 : decode cX0_lay 125 = .ok (.iload 4, 2) := by decide +kernel
theorem dX0_lay_127 : decode cX0_lay 127 = .ok (.iload_n 3, 1) := by decide +kernel
theorem dX0_lay_128 : decode cX0_lay 128 = .ok (.invokevirtual 51, 3) := by decide +kernel
theorem dX0_lay_131 : decode cX0_lay 131 = .ok (.iinc 3 1, 3) := by decide +kernel
theorem dX0_lay_134 : decode cX0_lay 134 = .ok (.iinc 4 1, 3) := by decide +kernel
theorem dX0_lay_137 : decode cX0_lay 137 = .ok (.goto 28, 3) := by decide +kernel
theorem dX0_lay_140 : decode cX0_lay 140 = .ok (.iload 6, 2) := by decide +kernel
theorem dX0_lay_142 : decode cX0_lay 142 = .ok (.aload_n 0, 1) := by decide +kernel
theorem dX0_lay_143 : decode cX0_lay 143 = .ok (.iload_n 3, 1) := by decide +kernel
theorem dX0_lay_144 : decode cX0_lay 144 = .ok (.iconst 1, 1) := by decide +kernel
theorem dX0_lay_145 : decode cX0_lay 145 = .ok (.iadd, 1) := by decide +kernel
theorem dX0_lay_146 : decode cX0_lay 146 = .ok (.iload 4, 2) := by decide +kernel
theorem dX0_lay_148 : decode cX0_lay 148 = .ok (.invokevirtual 31, 3) := by decide +kernel
theorem dX0_lay_151 : decode cX0_lay 151 = .ok (.iconst 1, 1) := by decide +kernel
theorem dX0_lay_152 : decode cX0_lay 152 = .ok (.iadd, 1) := by decide +kernel
theorem dX0_lay_153 : decode cX0_lay 153 = .ok (.if_icmp .ne 9, 3) := by decide +kernel
theorem dX0_lay_156 : decode cX0_lay 156 = .ok (.iinc 3 1, 3) := by decide +kernel
theorem dX0_lay_159 : decode cX0_lay 159 = .ok (.goto 6, 3) := by decide +kernel
theorem dX0_lay_162 : decode cX0_lay 162 = .ok (.iinc 4 1, 3) := by decide +kernel
theorem dX0_lay_165 : decode cX0_lay 165 = .ok (.iinc 5 1, 3) := by decide +kernel
theorem dX0_lay_168 : decode cX0_lay 168 = .ok (.goto (-130), 3) := by decide +kernel
theorem dX0_lay_171 : decode cX0_lay 171 = .ok (.return_, 1) := by decide +kernel
theorem dX0_hasSlipped_0 : decode cX0_hasSlipped 0 = .ok (.aload_n 0, 1) := by decide +kernel
theorem dX0_hasSlipped_1 : decode cX0_hasSlipped 1 = .ok (.getfield 20, 3) := by decide +kernel
theorem dX0_hasSlipped_4 : decode cX0_hasSlipped 4 = .ok (.aload_n 1, 1) := by decide +kernel
theorem dX0_hasSlipped_5 : decode cX0_hasSlipped 5 = .ok (.getfield 54, 3) := by decide +kernel
theorem dX0_hasSlipped_8 : decode cX0_hasSlipped 8 = .ok (.invokevirtual 43, 3) := by decide +kernel
theorem dX0_hasSlipped_11 : decode cX0_hasSlipped 11 = .ok (.istore_n 3, 1) := by decide +kernel
theorem dX0_hasSlipped_12 : decode cX0_hasSlipped 12 = .ok (.aload_n 0, 1) := by decide +kernel
theorem dX0_hasSlipped_13 : decode cX0_hasSlipped 13 = .ok (.getfield 20, 3) := by decide +kernel
theorem dX0_hasSlipped_16 : decode cX0_hasSlipped 16 = .ok (.aload_n 1, 1) := by decide +kernel
theorem dX0_hasSlipped_17 : decode cX0_hasSlipped 17 = .ok (.getfield 60, 3) := by decide +kernel
theorem dX0_hasSlipped_20 : decode cX0_hasSlipped 20 = .ok (.invokevirtual 43, 3) := by decide +kernel
theorem dX0_hasSlipped_23 : decode cX0_hasSlipped 23 = .ok (.istore 4, 2) := by decide +kernel
theorem dX0_hasSlipped_25 : decode cX0_hasSlipped 25 = .ok (.iload_n 3, 1) := by decide +kernel
theorem dX0_hasSlipped_26 : decode cX0_hasSlipped 26 = .ok (.iconst (-1), 1) := by decide +kernel
theorem dX0_hasSlipped_27 : decode cX0_hasSlipped 27 = .ok (.if_icmp .eq 24, 3) := by decide +kernel
theorem dX0_hasSlipped_30 : decode cX0_hasSlipped 30 = .ok (.aload_n 0, 1) := by decide +kernel
theorem dX0_hasSlipped_31 : decode cX0_hasSlipped 31 = .ok (.iload_n 3, 1) := by decide +kernel
theorem dX0_hasSlipped_32 : decode cX0_hasSlipped 32 = .ok (.aload_n 1, 1) := by decide +kernel
theorem dX0_hasSlipped_33 : decode cX0_hasSlipped 33 = .ok (.getfield 63, 3) := by decide +kernel
theorem dX0_hasSlipped_36 : decode cX0_hasSlipped 36 = .ok (.invokevirtual 35, 3) := by decide +kernel
theorem dX0_hasSlipped_39 : decode cX0_hasSlipped 39 = .ok (.isub, 1) := by decide +kernel
theorem dX0_hasSlipped_40 : decode cX0_hasSlipped 40 = .ok (.aload_n 1, 1) := by decide +kernel
theorem dX0_hasSlipped_41 : decode cX0_hasSlipped 41 = .ok (.getfield 63, 3) := by decide +kernel
theorem dX0_hasSlipped_44 : decode cX0_hasSlipped 44 = .ok (.aload_n 2, 1) := by decide +kernel
theorem dX0_hasSlipped_45 : decode cX0_hasSlipped 45 = .ok (.invokevirtual 66, 3) := by decide +kernel
theorem dX0_hasSlipped_48 : decode cX0_hasSlipped 48 = .ok (.ifCond .ne 25, 3) := by decide +kernel
theorem dX0_hasSlipped_51 : decode cX0_hasSlipped 51 = .ok (.iload 4, 2) := by decide +kernel
theorem dX0_hasSlipped_53 : decode cX0_hasSlipped 53 = .ok (.iconst (-1), 1) := by decide +kernel
theorem dX0_hasSlipped_54 : decode cX0_hasSlipped 54 = .ok (.if_icmp .eq 23, 3) := by decide +kernel
theorem dX0_hasSlipped_57 : decode cX0_hasSlipped 57 = .ok (.aload_n 0, 1) := by decide +kernel
theorem dX0_hasSlipped_58 : decode cX0_hasSlipped 58 = .ok (.iload 4, 2) := by decide +kernel
theorem dX0_hasSlipped_60 : decode cX0_hasSlipped 60 = .ok (.iconst 1, 1) := by decide +kernel
theorem dX0_hasSlipped_61 : decode cX0_hasSlipped 61 = .ok (.iadd, 1) := by decide +kernel
theorem dX0_hasSlipped_62 : decode cX0_hasSlipped 62 = .ok (.aload_n 1, 1) := by decide +kernel
theorem dX0_hasSlipped_63 : decode cX0_hasSlipped 63 = .ok (.getfield 63, 3) := by decide +kernel
theorem dX0_hasSlipped_66 : decode cX0_hasSlipped 66 = .ok (.aload_n 2, 1) := by decide +kernel
theorem dX0_hasSlipped_67 : decode cX0_hasSlipped 67 = .ok (.invokevirtual 66, 3) := by decide +kernel
theorem dX0_hasSlipped_70 : decode cX0_hasSlipped 70 = .ok (.ifCond .eq 7, 3) := by decide +kernel
theorem dX0_hasSlipped_73 : decode cX0_hasSlipped 73 = .ok (.iconst 1, 1) := by decide +kernel
theorem dX0_hasSlipped_74 : decode cX0_hasSlipped 74 = .ok (.goto 4, 3) := by decide +kernel
theorem dX0_hasSlipped_77 : decode cX0_hasSlipped 77 = .ok (.iconst 0, 1) := by decide +kernel
theorem dX0_hasSlipped_78 : decode cX0_hasSlipped 78 = .ok (.ireturn, 1) := by decide +kernel
theorem dX0_isPutAt_0 : decode cX0_isPutAt 0 = .ok (.iconst 0, 1) := by decide +kernel
theorem dX0_isPutAt_1 : decode cX0_isPutAt 1 = .ok (.istore 4, 2) := by decide +kernel
theorem dX0_isPutAt_3 : decode cX0_isPutAt 3 = .ok (.iload 4, 2) := by decide +kernel
theorem dX0_isPutAt_5 : decode cX0_isPutAt 5 = .ok (.aload_n 2, 1) := by decide +kernel
theorem dX0_isPutAt_6 : decode cX0_isPutAt 6 = .ok (.invokevirtual 35, 3) := by decide +kernel
theorem dX0_isPutAt_9 : decode cX0_isPutAt 9 = .ok (.if_icmp .ge 54, 3) := by decide +kernel
theorem dX0_isPutAt_12 : decode cX0_isPutAt 12 = .ok (.aload_n 3, 1) := by decide +kernel
theorem dX0_isPutAt_13 : decode cX0_isPutAt 13 = .ok (.iload_n 1, 1) := by decide +kernel
theorem dX0_isPutAt_14 : decode cX0_isPutAt 14 = .ok (.iload 4, 2) := by decide +kernel
theorem dX0_isPutAt_16 : decode cX0_isPutAt 16 = .ok (.iadd, 1) := by decide +kernel
theorem dX0_isPutAt_17 : decode cX0_isPutAt 17 = .ok (.invokevirtual 47, 3) := by decide +kernel
theorem dX0_isPutAt_20 : decode cX0_isPutAt 20 = .ok (.ifCond .eq 35, 3) := by decide +kernel
theorem dX0_isPutAt_23 : decode cX0_isPutAt 23 = .ok (.aload_n 3, 1) := by decide +kernel
theorem dX0_isPutAt_24 : decode cX0_isPutAt 24 = .ok (.iload_n 1, 1) := by decide +kernel
theorem dX0_isPutAt_25 : decode cX0_isPutAt 25 = .ok (.iload 4, 2) := by decide +kernel
theorem dX0_isPutAt_27 : decode cX0_isPutAt 27 = .ok (.iadd, 1) := by decide +kernel
theorem dX0_isPutAt_28 : decode cX0_isPutAt 28 = .ok (.invokevirtual 43, 3) := by decide +kernel
theorem dX0_isPutAt_31 : decode cX0_isPutAt 31 = .ok (.aload_n 2, 1) := by decide +kernel
theorem dX0_isPutAt_32 : decode cX0_isPutAt 32 = .ok (.iload 4, 2) := by decide +kernel
theorem dX0_isPutAt_34 : decode cX0_isPutAt 34 = .ok (.invokevirtual 43, 3) := by decide +kernel
theorem dX0_isPutAt_37 : decode cX0_isPutAt 37 = .ok (.if_icmp .ne 18, 3) := by decide +kernel
theorem dX0_isPutAt_40 : decode cX0_isPutAt 40 = .ok (.aload_n 0, 1) := by decide +kernel
theorem dX0_isPutAt_41 : decode cX0_isPutAt 41 = .ok (.getfield 24, 3) := by decide +kernel
theorem dX0_isPutAt_44 : decode cX0_isPutAt 44 = .ok (.iload_n 1, 1) := by decide +kernel
theorem dX0_isPutAt_45 : decode cX0_isPutAt 45 = .ok (.iload 4, 2) := by decide +kernel
theorem dX0_isPutAt_47 : decode cX0_isPutAt 47 = .ok (.iadd, 1) := by decide +kernel
theorem dX0_isPutAt_48 : decode cX0_isPutAt 48 = .ok (.invokevirtual 43, 3) := by decide +kernel
theorem dX0_isPutAt_51 : decode cX0_isPutAt 51 = .ok (.iconst (-1), 1) := by decide +kernel
theorem dX0_isPutAt_52 : decode cX0_isPutAt 52 = .ok (.if_icmp .eq 5, 3) := by decide +kernel
theorem dX0_isPutAt_55 : decode cX0_isPutAt 55 = .ok (.iconst 0, 1) := by decide +kernel
theorem dX0_isPutAt_56 : decode cX0_isPutAt 56 = .ok (.ireturn, 1) := by decide +kernel
theorem dX0_isPutAt_57 : decode cX0_isPutAt 57 = .ok (.iinc 4 1, 3) := by decide +kernel
theorem dX0_isPutAt_60 : decode cX0_isPutAt 60 = .ok (.goto (-57), 3) := by decide +kernel
theorem dX0_isPutAt_63 : decode cX0_isPutAt 63 = .ok (.iconst 1, 1) := by decide +kernel
theorem dX0_isPutAt_64 : decode cX0_isPutAt 64 = .ok (.ireturn, 1) := by decide +kernel
theorem dX0_costAt_0 : decode cX0_costAt 0 = .ok (.iload_n 1, 1) := by decide +kernel
theorem dX0_costAt_1 : decode cX0_costAt 1 = .ok (.ifCond .lt 33, 3) := by decide +kernel
theorem dX0_costAt_4 : decode cX0_costAt 4 = .ok (.iload_n 1, 1) := by decide +kernel
theorem dX0_costAt_5 : decode cX0_costAt 5 = .ok (.bipush 41, 2) := by decide +kernel
theorem dX0_costAt_7 : decode cX0_costAt 7 = .ok (.if_icmp .ge 27, 3) := by decide +kernel
theorem dX0_costAt_10 : decode cX0_costAt 10 = .ok (.iload_n 2, 1) := by decide +kernel
theorem dX0_costAt_11 : decode cX0_costAt 11 = .ok (.ifCond .lt 23, 3) := by decide +kernel
theorem dX0_costAt_14 : decode cX0_costAt 14 = .ok (.iload_n 2, 1) := by decide +kernel
theorem dX0_costAt_15 : decode cX0_costAt 15 = .ok (.bipush 41, 2) := by decide +kernel
theorem dX0_costAt_17 : decode cX0_costAt 17 = .ok (.if_icmp .ge 17, 3) := by decide +kernel
theorem dX0_costAt_20 : decode cX0_costAt 20 = .ok (.aload_n 0, 1) := by decide +kernel
theorem dX0_costAt_21 : decode cX0_costAt 21 = .ok (.getfield 11, 3) := by decide +kernel
theorem dX0_costAt_24 : decode cX0_costAt 24 = .ok (.iload_n 1, 1) := by decide +kernel
theorem dX0_costAt_25 : decode cX0_costAt 25 = .ok (.bipush 41, 2) := by decide +kernel
theorem dX0_costAt_27 : decode cX0_costAt 27 = .ok (.imul, 1) := by decide +kernel
theorem dX0_costAt_28 : decode cX0_costAt 28 = .ok (.iload_n 2, 1) := by decide +kernel
theorem dX0_costAt_29 : decode cX0_costAt 29 = .ok (.iadd, 1) := by decide +kernel
theorem dX0_costAt_30 : decode cX0_costAt 30 = .ok (.iaload, 1) := by decide +kernel
theorem dX0_costAt_31 : decode cX0_costAt 31 = .ok (.goto 4, 3) := by decide +kernel
theorem dX0_costAt_34 : decode cX0_costAt 34 = .ok (.iconst 0, 1) := by decide +kernel
theorem dX0_costAt_35 : decode cX0_costAt 35 = .ok (.ireturn, 1) := by decide +kernel
theorem dX0_setCost_0 : decode cX0_setCost 0 = .ok (.iload_n 1, 1) := by decide +kernel
theorem dX0_setCost_1 : decode cX0_setCost 1 = .ok (.ifCond .lt 31, 3) := by decide +kernel
theorem dX0_setCost_4 : decode cX0_setCost 4 = .ok (.iload_n 1, 1) := by decide +kernel
theorem dX0_setCost_5 : decode cX0_setCost 5 = .ok (.bipush 41, 2) := by decide +kernel
theorem dX0_setCost_7 : decode cX0_setCost 7 = .ok (.if_icmp .ge 25, 3) := by decide +kernel
theorem dX0_setCost_10 : decode cX0_setCost 10 = .ok (.iload_n 2, 1) := by decide +kernel
theorem dX0_setCost_11 : decode cX0_setCost 11 = .ok (.ifCond .lt 21, 3) := by decide +kernel
theorem dX0_setCost_14 : decode cX0_setCost 14 = .ok (.iload_n 2, 1) := by decide +kernel
theorem dX0_setCost_15 : decode cX0_setCost 15 = .ok (.bipush 41, 2) := by decide +kernel
theorem dX0_setCost_17 : decode cX0_setCost 17 = .ok (.if_icmp .ge 15, 3) := by decide +kernel
theorem dX0_setCost_20 : decode cX0_setCost 20 = .ok (.aload_n 0, 1) := by decide +kernel
theorem dX0_setCost_21 : decode cX0_setCost 21 = .ok (.getfield 11, 3) := by decide +kernel
theorem dX0_setCost_24 : decode cX0_setCost 24 = .ok (.iload_n 1, 1) := by decide +kernel
theorem dX0_setCost_25 : decode cX0_setCost 25 = .ok (.bipush 41, 2) := by decide +kernel
theorem dX0_setCost_27 : decode cX0_setCost 27 = .ok (.imul, 1) := by decide +kernel
theorem dX0_setCost_28 : decode cX0_setCost 28 = .ok (.iload_n 2, 1) := by decide +kernel
theorem dX0_setCost_29 : decode cX0_setCost 29 = .ok (.iadd, 1) := by decide +kernel
theorem dX0_setCost_30 : decode cX0_setCost 30 = .ok (.iload_n 3, 1) := by decide +kernel
theorem dX0_setCost_31 : decode cX0_setCost 31 = .ok (.iastore, 1) := by decide +kernel
theorem dX0_setCost_32 : decode cX0_setCost 32 = .ok (.return_, 1) := by decide +kernel
theorem dX0_fillCosts_0 : decode cX0_fillCosts 0 = .ok (.iconst 0, 1) := by decide +kernel
theorem dX0_fillCosts_1 : decode cX0_fillCosts 1 = .ok (.istore_n 3, 1) := by decide +kernel
theorem dX0_fillCosts_2 : decode cX0_fillCosts 2 = .ok (.iload_n 3, 1) := by decide +kernel
theorem dX0_fillCosts_3 : decode cX0_fillCosts 3 = .ok (.aload_n 2, 1) := by decide +kernel
theorem dX0_fillCosts_4 : decode cX0_fillCosts 4 = .ok (.invokevirtual 35, 3) := by decide +kernel
theorem dX0_fillCosts_7 : decode cX0_fillCosts 7 = .ok (.if_icmp .gt 24, 3) := by decide +kernel
theorem dX0_fillCosts_10 : decode cX0_fillCosts 10 = .ok (.aload_n 0, 1) := by decide +kernel
theorem dX0_fillCosts_11 : decode cX0_fillCosts 11 = .ok (.aload_n 1, 1) := by decide +kernel
theorem dX0_fillCosts_12 : decode cX0_fillCosts 12 = .ok (.invokevirtual 35, 3) := by decide +kernel
theorem dX0_fillCosts_15 : decode cX0_fillCosts 15 = .ok (.iload_n 3, 1) := by decide +kernel
theorem dX0_fillCosts_16 : decode cX0_fillCosts 16 = .ok (.aload_n 2, 1) := by decide +kernel
theorem dX0_fillCosts_17 : decode cX0_fillCosts 17 = .ok (.invokevirtual 35, 3) := by decide +kernel
theorem dX0_fillCosts_20 : decode cX0_fillCosts 20 = .ok (.iload_n 3, 1) := by decide +kernel
theorem dX0_fillCosts_21 : decode cX0_fillCosts 21 = .ok (.isub, 1) := by decide +kernel
theorem dX0_fillCosts_22 : decode cX0_fillCosts 22 = .ok (.invokevirtual 70, 3) := by decide +kernel
theorem dX0_fillCosts_25 : decode cX0_fillCosts 25 = .ok (.iinc 3 1, 3) := by decide +kernel
theorem dX0_fillCosts_28 : decode cX0_fillCosts 28 = .ok (.goto (-26), 3) := by decide +kernel
theorem dX0_fillCosts_31 : decode cX0_fillCosts 31 = .ok (.aload_n 1, 1) := by decide +kernel
theorem dX0_fillCosts_32 : decode cX0_fillCosts 32 = .ok (.invokevirtual 35, 3) := by decide +kernel
theorem dX0_fillCosts_35 : decode cX0_fillCosts 35 = .ok (.iconst 1, 1) := by decide +kernel
theorem dX0_fillCosts_36 : decode cX0_fillCosts 36 = .ok (.isub, 1) := by decide +kernel
theorem dX0_fillCosts_37 : decode cX0_fillCosts 37 = .ok (.istore_n 3, 1) := by decide +kernel
theorem dX0_fillCosts_38 : decode cX0_fillCosts 38 = .ok (.iload_n 3, 1) := by decide +kernel
theorem dX0_fillCosts_39 : decode cX0_fillCosts 39 = .ok (.ifCond .lt 16, 3) := by decide +kernel
theorem dX0_fillCosts_42 : decode cX0_fillCosts 42 = .ok (.aload_n 0, 1) := by decide +kernel
theorem dX0_fillCosts_43 : decode cX0_fillCosts 43 = .ok (.iload_n 3, 1) := by decide +kernel
theorem dX0_fillCosts_44 : decode cX0_fillCosts 44 = .ok (.aload_n 1, 1) := by decide +kernel
theorem dX0_fillCosts_45 : decode cX0_fillCosts 45 = .ok (.aload_n 2, 1) := by decide +kernel
theorem dX0_fillCosts_46 : decode cX0_fillCosts 46 = .ok (.invokevirtual 74, 3) := by decide +kernel
theorem dX0_fillCosts_49 : decode cX0_fillCosts 49 = .ok (.iinc 3 (-1), 3) := by decide +kernel
theorem dX0_fillCosts_52 : decode cX0_fillCosts 52 = .ok (.goto (-14), 3) := by decide +kernel
theorem dX0_fillCosts_55 : decode cX0_fillCosts 55 = .ok (.return_, 1) := by decide +kernel
theorem dX0_fillCostsFrom_0 : decode cX0_fillCostsFrom 0 = .ok (.aload_n 2, 1) := by decide +kernel
theorem dX0_fillCostsFrom_1 : decode cX0_fillCostsFrom 1 = .ok (.iload_n 1, 1) := by decide +kernel
theorem dX0_fillCostsFrom_2 : decode cX0_fillCostsFrom 2 = .ok (.invokevirtual 43, 3) := by decide +kernel
theorem dX0_fillCostsFrom_5 : decode cX0_fillCostsFrom 5 = .ok (.istore 4, 2) := by decide +kernel
theorem dX0_fillCostsFrom_7 : decode cX0_fillCostsFrom 7 = .ok (.aload_n 2, 1) := by decide +kernel
theorem dX0_fillCostsFrom_8 : decode cX0_fillCostsFrom 8 = .ok (.invokevirtual 35, 3) := by decide +kernel
theorem dX0_fillCostsFrom_11 : decode cX0_fillCostsFrom 11 = .ok (.iload_n 1, 1) := by decide +kernel
theorem dX0_fillCostsFrom_12 : decode cX0_fillCostsFrom 12 = .ok (.isub, 1) := by decide +kernel
theorem dX0_fillCostsFrom_13 : decode cX0_fillCostsFrom 13 = .ok (.istore 5, 2) := by decide +kernel
theorem dX0_fillCostsFrom_15 : decode cX0_fillCostsFrom 15 = .ok (.aload_n 0, 1) := by decide +kernel
theorem dX0_fillCostsFrom_16 : decode cX0_fillCostsFrom 16 = .ok (.iload_n 1, 1) := by decide +kernel
theorem dX0_fillCostsFrom_17 : decode cX0_fillCostsFrom 17 = .ok (.iconst 1, 1) := by decide +kernel
theorem dX0_fillCostsFrom_18 : decode cX0_fillCostsFrom 18 = .ok (.iadd, 1) := by decide +kernel
theorem dX0_fillCostsFrom_19 : decode cX0_fillCostsFrom 19 = .ok (.aload_n 3, 1) := by decide +kernel
theorem dX0_fillCostsFrom_20 : decode cX0_fillCostsFrom 20 = .ok (.invokevirtual 35, 3) := by decide +kernel
theorem dX0_fillCostsFrom_23 : decode cX0_fillCostsFrom 23 = .ok (.invokevirtual 31, 3) := by decide +kernel
theorem dX0_fillCostsFrom_26 : decode cX0_fillCostsFrom 26 = .ok (.istore 6, 2) := by decide +kernel
theorem dX0_fillCostsFrom_28 : decode cX0_fillCostsFrom 28 = .ok (.aload_n 0, 1) := by decide +kernel
theorem dX0_fillCostsFrom_29 : decode cX0_fillCostsFrom 29 = .ok (.iload_n 1, 1) := by decide +kernel
theorem dX0_fillCostsFrom_30 : decode cX0_fillCostsFrom 30 = .ok (.aload_n 3, 1) := by decide +kernel
theorem dX0_fillCostsFrom_31 : decode cX0_fillCostsFrom 31 = .ok (.invokevirtual 35, 3) := by decide +kernel
theorem dX0_fillCostsFrom_34 : decode cX0_fillCostsFrom 34 = .ok (.iload 5, 2) := by decide +kernel
theorem dX0_fillCostsFrom_36 : decode cX0_fillCostsFrom 36 = .ok (.invokevirtual 70, 3) := by decide +kernel
theorem dX0_fillCostsFrom_39 : decode cX0_fillCostsFrom 39 = .ok (.aload_n 3, 1) := by decide +kernel
theorem dX0_fillCostsFrom_40 : decode cX0_fillCostsFrom 40 = .ok (.invokevirtual 35, 3) := by decide +kernel
theorem dX0_fillCostsFrom_43 : decode cX0_fillCostsFrom 43 = .ok (.iconst 1, 1) := by decide +kernel
theorem dX0_fillCostsFrom_44 : decode cX0_fillCostsFrom 44 = .ok (.isub, 1) := by decide +kernel
theorem dX0_fillCostsFrom_45 : decode cX0_fillCostsFrom 45 = .ok (.istore 7, 2) := by decide +kernel
theorem dX0_fillCostsFrom_47 : decode cX0_fillCostsFrom 47 = .ok (.iload 7, 2) := by decide +kernel
theorem dX0_fillCostsFrom_49 : decode cX0_fillCostsFrom 49 = .ok (.ifCond .lt 71, 3) := by decide +kernel
theorem dX0_fillCostsFrom_52 : decode cX0_fillCostsFrom 52 = .ok (.aload_n 0, 1) := by decide +kernel
theorem dX0_fillCostsFrom_53 : decode cX0_fillCostsFrom 53 = .ok (.iload_n 1, 1) := by decide +kernel
theorem dX0_fillCostsFrom_54 : decode cX0_fillCostsFrom 54 = .ok (.iconst 1, 1) := by decide +kernel
theorem dX0_fillCostsFrom_55 : decode cX0_fillCostsFrom 55 = .ok (.iadd, 1) := by decide +kernel
theorem dX0_fillCostsFrom_56 : decode cX0_fillCostsFrom 56 = .ok (.iload 7, 2) := by decide +kernel
theorem dX0_fillCostsFrom_58 : decode cX0_fillCostsFrom 58 = .ok (.invokevirtual 31, 3) := by decide +kernel
theorem dX0_fillCostsFrom_61 : decode cX0_fillCostsFrom 61 = .ok (.istore 8, 2) := by decide +kernel
theorem dX0_fillCostsFrom_63 : decode cX0_fillCostsFrom 63 = .ok (.iload 4, 2) := by decide +kernel
theorem dX0_fillCostsFrom_65 : decode cX0_fillCostsFrom 65 = .ok (.aload_n 3, 1) := by decide +kernel
theorem dX0_fillCostsFrom_66 : decode cX0_fillCostsFrom 66 = .ok (.iload 7, 2) := by decide +kernel
theorem dX0_fillCostsFrom_68 : decode cX0_fillCostsFrom 68 = .ok (.invokevirtual 43, 3) := by decide +kernel
theorem dX0_fillCostsFrom_71 : decode cX0_fillCostsFrom 71 = .ok (.if_icmp .ne 8, 3) := by decide +kernel
theorem dX0_fillCostsFrom_74 : decode cX0_fillCostsFrom 74 = .ok (.iload 6, 2) := by decide +kernel
theorem dX0_fillCostsFrom_76 : decode cX0_fillCostsFrom 76 = .ok (.goto 7, 3) := by decide +kernel
theorem dX0_fillCostsFrom_79 : decode cX0_fillCostsFrom 79 = .ok (.iload 6, 2) := by decide +kernel
theorem dX0_fillCostsFrom_81 : decode cX0_fillCostsFrom 81 = .ok (.iconst 1, 1) := by decide +kernel
theorem dX0_fillCostsFrom_82 : decode cX0_fillCostsFrom 82 = .ok (.iadd, 1) := by decide +kernel
theorem dX0_fillCostsFrom_83 : decode cX0_fillCostsFrom 83 = .ok (.istore 9, 2) := by decide +kernel
theorem dX0_fillCostsFrom_85 : decode cX0_fillCostsFrom 85 = .ok (.iload 9, 2) := by decide +kernel
theorem dX0_fillCostsFrom_87 : decode cX0_fillCostsFrom 87 = .ok (.iload 8, 2) := by decide +kernel
theorem dX0_fillCostsFrom_89 : decode cX0_fillCostsFrom 89 = .ok (.iload 5, 2) := by decide +kernel
theorem dX0_fillCostsFrom_91 : decode cX0_fillCostsFrom 91 = .ok (.invokestatic 78, 3) := by decide +kernel
theorem dX0_fillCostsFrom_94 : decode cX0_fillCostsFrom 94 = .ok (.iconst 1, 1) := by decide +kernel
theorem dX0_fillCostsFrom_95 : decode cX0_fillCostsFrom 95 = .ok (.iadd, 1) := by decide +kernel
theorem dX0_fillCostsFrom_96 : decode cX0_fillCostsFrom 96 = .ok (.invokestatic 78, 3) := by decide +kernel
theorem dX0_fillCostsFrom_99 : decode cX0_fillCostsFrom 99 = .ok (.istore 5, 2) := by decide +kernel
theorem dX0_fillCostsFrom_101 : decode cX0_fillCostsFrom 101 = .ok (.aload_n 0, 1) := by decide +kernel
theorem dX0_fillCostsFrom_102 : decode cX0_fillCostsFrom 102 = .ok (.iload_n 1, 1) := by decide +kernel
theorem dX0_fillCostsFrom_103 : decode cX0_fillCostsFrom 103 = .ok (.iload 7, 2) := by decide +kernel
theorem dX0_fillCostsFrom_105 : decode cX0_fillCostsFrom 105 = .ok (.iload 5, 2) := by decide +kernel
theorem dX0_fillCostsFrom_107 : decode cX0_fillCostsFrom 107 = .ok (.invokevirtual 70, 3) := by decide +kernel
theorem dX0_fillCostsFrom_110 : decode cX0_fillCostsFrom 110 = .ok (.iload 8, 2) := by decide +kernel
theorem dX0_fillCostsFrom_112 : decode cX0_fillCostsFrom 112 = .ok (.istore 6, 2) := by decide +kernel
theorem dX0_fillCostsFrom_114 : decode cX0_fillCostsFrom 114 = .ok (.iinc 7 (-1), 3) := by decide +kernel
theorem dX0_fillCostsFrom_117 : decode cX0_fillCostsFrom 117 = .ok (.goto (-70), 3) := by decide +kernel
theorem dX0_fillCostsFrom_120 : decode cX0_fillCostsFrom 120 = .ok (.return_, 1) := by decide +kernel
theorem dX1_init_0 : decode cX1_init 0 = .ok (.aload_n 0, 1) := by decide +kernel
theorem dX1_init_1 : decode cX1_init 1 = .ok (.invokespecial 3, 3) := by decide +kernel
theorem dX1_init_4 : decode cX1_init 4 = .ok (.aload_n 0, 1) := by decide +kernel
theorem dX1_init_5 : decode cX1_init 5 = .ok (.new 9, 3) := by decide +kernel
theorem dX1_init_8 : decode cX1_init 8 = .ok (.dup, 1) := by decide +kernel
theorem dX1_init_9 : decode cX1_init 9 = .ok (.bipush 40, 2) := by decide +kernel
theorem dX1_init_11 : decode cX1_init 11 = .ok (.invokespecial 11, 3) := by decide +kernel
theorem dX1_init_14 : decode cX1_init 14 = .ok (.putfield 14, 3) := by decide +kernel
theorem dX1_init_17 : decode cX1_init 17 = .ok (.aload_n 0, 1) := by decide +kernel
theorem dX1_init_18 : decode cX1_init 18 = .ok (.bipush 20, 2) := by decide +kernel
theorem dX1_init_20 : decode cX1_init 20 = .ok (.anewarray 20, 3) := by decide +kernel
theorem dX1_init_23 : decode cX1_init 23 = .ok (.putfield 22, 3) := by decide +kernel
theorem dX1_init_26 : decode cX1_init 26 = .ok (.aload_n 0, 1) := by decide +kernel
theorem dX1_init_27 : decode cX1_init 27 = .ok (.new 9, 3) := by decide +kernel
theorem dX1_init_30 : decode cX1_init 30 = .ok (.dup, 1) := by decide +kernel
theorem dX1_init_31 : decode cX1_init 31 = .ok (.bipush 20, 2) := by decide +kernel
theorem dX1_init_33 : decode cX1_init 33 = .ok (.invokespecial 11, 3) := by decide +kernel
theorem dX1_init_36 : decode cX1_init 36 = .ok (.putfield 26, 3) := by decide +kernel
theorem dX1_init_39 : decode cX1_init 39 = .ok (.aload_n 0, 1) := by decide +kernel
theorem dX1_init_40 : decode cX1_init 40 = .ok (.new 9, 3) := by decide +kernel
theorem dX1_init_43 : decode cX1_init 43 = .ok (.dup, 1) := by decide +kernel
theorem dX1_init_44 : decode cX1_init 44 = .ok (.bipush 6, 2) := by decide +kernel
theorem dX1_init_46 : decode cX1_init 46 = .ok (.invokespecial 11, 3) := by decide +kernel
theorem dX1_init_49 : decode cX1_init 49 = .ok (.putfield 29, 3) := by decide +kernel
theorem dX1_init_52 : decode cX1_init 52 = .ok (.aload_n 0, 1) := by decide +kernel
theorem dX1_init_53 : decode cX1_init 53 = .ok (.new 9, 3) := by decide +kernel
theorem dX1_init_56 : decode cX1_init 56 = .ok (.dup, 1) := by decide +kernel
theorem dX1_init_57 : decode cX1_init 57 = .ok (.bipush 6, 2) := by decide +kernel
theorem dX1_init_59 : decode cX1_init 59 = .ok (.invokespecial 11, 3) := by decide +kernel
theorem dX1_init_62 : decode cX1_init 62 = .ok (.putfield 32, 3) := by decide +kernel
theorem dX1_init_65 : decode cX1_init 65 = .ok (.aload_n 0, 1) := by decide +kernel
theorem dX1_init_66 : decode cX1_init 66 = .ok (.iconst 0, 1) := by decide +kernel
theorem dX1_init_67 : decode cX1_init 67 = .ok (.putfield 35, 3) := by decide +kernel
theorem dX1_init_70 : decode cX1_init 70 = .ok (.aload_n 0, 1) := by decide +kernel
theorem dX1_init_71 : decode cX1_init 71 = .ok (.iconst (-1), 1) := by decide +kernel
theorem dX1_init_72 : decode cX1_init 72 = .ok (.putfield 39, 3) := by decide +kernel
theorem dX1_init_75 : decode cX1_init 75 = .ok (.aload_n 0, 1) := by decide +kernel
theorem dX1_init_76 : decode cX1_init 76 = .ok (.iconst (-1), 1) := by decide +kernel
theorem dX1_init_77 : decode cX1_init 77 = .ok (.putfield 42, 3) := by decide +kernel
theorem dX1_init_80 : decode cX1_init 80 = .ok (.iconst 0, 1) := by decide +kernel
theorem dX1_init_81 : decode cX1_init 81 = .ok (.istore_n 1, 1) := by decide +kernel
theorem dX1_init_82 : decode cX1_init 82 = .ok (.iload_n 1, 1) := by decide +kernel
theorem dX1_init_83 : decode cX1_init 83 = .ok (.aload_n 0, 1) := by decide +kernel
theorem dX1_init_84 : decode cX1_init 84 = .ok (.getfield 22, 3) := by decide +kernel
theorem dX1_init_87 : decode cX1_init 87 = .ok (.arraylength, 1) := by decide +kernel
theorem dX1_init_88 : decode cX1_init 88 = .ok (.if_icmp .ge 22, 3) := by decide +kernel
theorem dX1_init_91 : decode cX1_init 91 = .ok (.aload_n 0, 1) := by decide +kernel
theorem dX1_init_92 : decode cX1_init 92 = .ok (.getfield 22, 3) := by decide +kernel
theorem dX1_init_95 : decode cX1_init 95 = .ok (.iload_n 1, 1) := by decide +kernel
theorem dX1_init_96 : decode cX1_init 96 = .ok (.new 20, 3) := by decide +kernel
theorem dX1_init_99 : decode cX1_init 99 = .ok (.dup, 1) := by decide +kernel
theorem dX1_init_100 : decode cX1_init 100 = .ok (.invokespecial 45, 3) := by decide +kernel
theorem dX1_init_103 : decode cX1_init 103 = .ok (.aastore, 1) := by decide +kernel
theorem dX1_init_104 : decode cX1_init 104 = .ok (.iinc 1 1, 3) := by decide +kernel
theorem dX1_init_107 : decode cX1_init 107 = .ok (.goto (-25), 3) := by decide +kernel
theorem dX1_init_110 : decode cX1_init 110 = .ok (.return_, 1) := by decide +kernel
theorem dX1_clear_0 : decode cX1_clear 0 = .ok (.aload_n 0, 1) := by decide +kernel
theorem dX1_clear_1 : decode cX1_clear 1 = .ok (.getfield 14, 3) := by decide +kernel
theorem dX1_clear_4 : decode cX1_clear 4 = .ok (.invokevirtual 46, 3) := by decide +kernel
theorem dX1_clear_7 : decode cX1_clear 7 = .ok (.aload_n 0, 1) := by decide +kernel
theorem dX1_clear_8 : decode cX1_clear 8 = .ok (.iconst 0, 1) := by decide +kernel
theorem dX1_clear_9 : decode cX1_clear 9 = .ok (.putfield 35, 3) := by decide +kernel
theorem dX1_clear_12 : decode cX1_clear 12 = .ok (.aload_n 0, 1) := by decide +kernel
theorem dX1_clear_13 : decode cX1_clear 13 = .ok (.iconst (-1), 1) := by decide +kernel
theorem dX1_clear_14 : decode cX1_clear 14 = .ok (.putfield 39, 3) := by decide +kernel
theorem dX1_clear_17 : decode cX1_clear 17 = .ok (.aload_n 0, 1) := by decide +kernel
theorem dX1_clear_18 : decode cX1_clear 18 = .ok (.iconst (-1), 1) := by decide +kernel
theorem dX1_clear_19 : decode cX1_clear 19 = .ok (.putfield 42, 3) := by decide +kernel
theorem dX1_clear_22 : decode cX1_clear 22 = .ok (.aload_n 0, 1) := by decide +kernel
theorem dX1_clear_23 : decode cX1_clear 23 = .ok (.getfield 29, 3) := by decide +kernel
theorem dX1_clear_26 : decode cX1_clear 26 = .ok (.bipush 6, 2) := by decide +kernel
theorem dX1_clear_28 : decode cX1_clear 28 = .ok (.iconst 0, 1) := by decide +kernel
theorem dX1_clear_29 : decode cX1_clear 29 = .ok (.invokevirtual 49, 3) := by decide +kernel
theorem dX1_clear_32 : decode cX1_clear 32 = .ok (.aload_n 0, 1) := by decide +kernel
theorem dX1_clear_33 : decode cX1_clear 33 = .ok (.getfield 32, 3) := by decide +kernel
theorem dX1_clear_36 : decode cX1_clear 36 = .ok (.bipush 6, 2) := by decide +kernel
theorem dX1_clear_38 : decode cX1_clear 38 = .ok (.iconst 0, 1) := by decide +kernel
theorem dX1_clear_39 : decode cX1_clear 39 = .ok (.invokevirtual 49, 3) := by decide +kernel
theorem dX1_clear_42 : decode cX1_clear 42 = .ok (.return_, 1) := by decide +kernel
theorem dX1_takeFrom_0 : decode cX1_takeFrom 0 = .ok (.aload_n 0, 1) := by decide +kernel
theorem dX1_takeFrom_1 : decode cX1_takeFrom 1 = .ok (.invokevirtual 53, 3) := by decide +kernel
theorem dX1_takeFrom_4 : decode cX1_takeFrom 4 = .ok (.aload_n 0, 1) := by decide +kernel
theorem dX1_takeFrom_5 : decode cX1_takeFrom 5 = .ok (.getfield 14, 3) := by decide +kernel
theorem dX1_takeFrom_8 : decode cX1_takeFrom 8 = .ok (.aload_n 1, 1) := by decide +kernel
theorem dX1_takeFrom_9 : decode cX1_takeFrom 9 = .ok (.getfield 14, 3) := by decide +kernel
theorem dX1_takeFrom_12 : decode cX1_takeFrom 12 = .ok (.invokevirtual 54, 3) := by decide +kernel
theorem dX1_takeFrom_15 : decode cX1_takeFrom 15 = .ok (.iconst 0, 1) := by decide +kernel
theorem dX1_takeFrom_16 : decode cX1_takeFrom 16 = .ok (.istore_n 2, 1) := by decide +kernel
theorem dX1_takeFrom_17 : decode cX1_takeFrom 17 = .ok (.iload_n 2, 1) := by decide +kernel
theorem dX1_takeFrom_18 : decode cX1_takeFrom 18 = .ok (.aload_n 1, 1) := by decide +kernel
theorem dX1_takeFrom_19 : decode cX1_takeFrom 19 = .ok (.getfield 35, 3) := by decide +kernel
theorem dX1_takeFrom_22 : decode cX1_takeFrom 22 = .ok (.if_icmp .ge 58, 3) := by decide +kernel
theorem dX1_takeFrom_25 : decode cX1_takeFrom 25 = .ok (.aload_n 1, 1) := by decide +kernel
theorem dX1_takeFrom_26 : decode cX1_takeFrom 26 = .ok (.iload_n 2, 1) := by decide +kernel
theorem dX1_takeFrom_27 : decode cX1_takeFrom 27 = .ok (.invokevirtual 58, 3) := by decide +kernel
theorem dX1_takeFrom_30 : decode cX1_takeFrom 30 = .ok (.astore_n 3, 1) := by decide +kernel
theorem dX1_takeFrom_31 : decode cX1_takeFrom 31 = .ok (.iload_n 2, 1) := by decide +kernel
theorem dX1_takeFrom_32 : decode cX1_takeFrom 32 = .ok (.aload_n 0, 1) := by decide +kernel
theorem dX1_takeFrom_33 : decode cX1_takeFrom 33 = .ok (.getfield 22, 3) := by decide +kernel
theorem dX1_takeFrom_36 : decode cX1_takeFrom 36 = .ok (.arraylength, 1) := by decide +kernel
theorem dX1_takeFrom_37 : decode cX1_takeFrom 37 = .ok (.if_icmp .ge 12, 3) := by decide +kernel
theorem dX1_takeFrom_40 : decode cX1_takeFrom 40 = .ok (.aload_n 0, 1) := by decide +kernel
theorem dX1_takeFrom_41 : decode cX1_takeFrom 41 = .ok (.getfield 22, 3) := by decide +kernel
theorem dX1_takeFrom_44 : decode cX1_takeFrom 44 = .ok (.iload_n 2, 1) := by decide +kernel
theorem dX1_takeFrom_45 : decode cX1_takeFrom 45 = .ok (.aaload, 1) := by decide +kernel
theorem dX1_takeFrom_46 : decode cX1_takeFrom 46 = .ok (.goto 4, 3) := by decide +kernel
theorem dX1_takeFrom_49 : decode cX1_takeFrom 49 = .ok (.aconst_null, 1) := by decide +kernel
theorem dX1_takeFrom_50 : decode cX1_takeFrom 50 = .ok (.astore 4, 2) := by decide +kernel
theorem dX1_takeFrom_52 : decode cX1_takeFrom 52 = .ok (.aload_n 3, 1) := by decide +kernel
theorem dX1_takeFrom_53 : decode cX1_takeFrom 53 = .ok (.ifnull 21, 3) := by decide +kernel
theorem dX1_takeFrom_56 : decode cX1_takeFrom 56 = .ok (.aload 4, 2) := by decide +kernel
theorem dX1_takeFrom_58 : decode cX1_takeFrom 58 = .ok (.ifnull 16, 3) := by decide +kernel
theorem dX1_takeFrom_61 : decode cX1_takeFrom 61 = .ok (.aload 4, 2) := by decide +kernel
theorem dX1_takeFrom_63 : decode cX1_takeFrom 63 = .ok (.aload_n 3, 1) := by decide +kernel
theorem dX1_takeFrom_64 : decode cX1_takeFrom 64 = .ok (.invokevirtual 62, 3) := by decide +kernel
theorem dX1_takeFrom_67 : decode cX1_takeFrom 67 = .ok (.aload_n 0, 1) := by decide +kernel
theorem dX1_takeFrom_68 : decode cX1_takeFrom 68 = .ok (.iload_n 2, 1) := by decide +kernel
theorem dX1_takeFrom_69 : decode cX1_takeFrom 69 = .ok (.iconst 1, 1) := by decide +kernel
theorem dX1_takeFrom_70 : decode cX1_takeFrom 70 = .ok (.iadd, 1) := by decide +kernel
theorem dX1_takeFrom_71 : decode cX1_takeFrom 71 = .ok (.putfield 35, 3) := by decide +kernel
theorem dX1_takeFrom_74 : decode cX1_takeFrom 74 = .ok (.iinc 2 1, 3) := by decide +kernel
theorem dX1_takeFrom_77 : decode cX1_takeFrom 77 = .ok (.goto (-60), 3) := by decide +kernel
theorem dX1_takeFrom_80 : decode cX1_takeFrom 80 = .ok (.return_, 1) := by decide +kernel
theorem dX1_glossAt_0 : decode cX1_glossAt 0 = .ok (.iload_n 1, 1) := by decide +kernel
theorem dX1_glossAt_1 : decode cX1_glossAt 1 = .ok (.ifCond .lt 29, 3) := by decide +kernel
theorem dX1_glossAt_4 : decode cX1_glossAt 4 = .ok (.iload_n 1, 1) := by decide +kernel
theorem dX1_glossAt_5 : decode cX1_glossAt 5 = .ok (.aload_n 0, 1) := by decide +kernel
theorem dX1_glossAt_6 : decode cX1_glossAt 6 = .ok (.getfield 35, 3) := by decide +kernel
theorem dX1_glossAt_9 : decode cX1_glossAt 9 = .ok (.if_icmp .ge 21, 3) := by decide +kernel
theorem dX1_glossAt_12 : decode cX1_glossAt 12 = .ok (.iload_n 1, 1) := by decide +kernel
theorem dX1_glossAt_13 : decode cX1_glossAt 13 = .ok (.aload_n 0, 1) := by decide +kernel
theorem dX1_glossAt_14 : decode cX1_glossAt 14 = .ok (.getfield 22, 3) := by decide +kernel
theorem dX1_glossAt_17 : decode cX1_glossAt 17 = .ok (.arraylength, 1) := by decide +kernel
theorem dX1_glossAt_18 : decode cX1_glossAt 18 = .ok (.if_icmp .ge 12, 3) := by decide +kernel
theorem dX1_glossAt_21 : decode cX1_glossAt 21 = .ok (.aload_n 0, 1) := by decide +kernel
theorem dX1_glossAt_22 : decode cX1_glossAt 22 = .ok (.getfield 22, 3) := by decide +kernel
theorem dX1_glossAt_25 : decode cX1_glossAt 25 = .ok (.iload_n 1, 1) := by decide +kernel
theorem dX1_glossAt_26 : decode cX1_glossAt 26 = .ok (.aaload, 1) := by decide +kernel
theorem dX1_glossAt_27 : decode cX1_glossAt 27 = .ok (.goto 4, 3) := by decide +kernel
theorem dX1_glossAt_30 : decode cX1_glossAt 30 = .ok (.aconst_null, 1) := by decide +kernel
theorem dX1_glossAt_31 : decode cX1_glossAt 31 = .ok (.areturn, 1) := by decide +kernel
theorem dX1_addGloss_0 : decode cX1_addGloss 0 = .ok (.aload_n 0, 1) := by decide +kernel
theorem dX1_addGloss_1 : decode cX1_addGloss 1 = .ok (.getfield 35, 3) := by decide +kernel
theorem dX1_addGloss_4 : decode cX1_addGloss 4 = .ok (.ifCond .lt 27, 3) := by decide +kernel
theorem dX1_addGloss_7 : decode cX1_addGloss 7 = .ok (.aload_n 0, 1) := by decide +kernel
theorem dX1_addGloss_8 : decode cX1_addGloss 8 = .ok (.getfield 35, 3) := by decide +kernel
theorem dX1_addGloss_11 : decode cX1_addGloss 11 = .ok (.aload_n 0, 1) := by decide +kernel
theorem dX1_addGloss_12 : decode cX1_addGloss 12 = .ok (.getfield 22, 3) := by decide +kernel
theorem dX1_addGloss_15 : decode cX1_addGloss 15 = .ok (.arraylength, 1) := by decide +kernel
theorem dX1_addGloss_16 : decode cX1_addGloss 16 = .ok (.if_icmp .ge 15, 3) := by decide +kernel
theorem dX1_addGloss_19 : decode cX1_addGloss 19 = .ok (.aload_n 0, 1) := by decide +kernel
theorem dX1_addGloss_20 : decode cX1_addGloss 20 = .ok (.getfield 22, 3) := by decide +kernel
theorem dX1_addGloss_23 : decode cX1_addGloss 23 = .ok (.aload_n 0, 1) := by decide +kernel
theorem dX1_addGloss_24 : decode cX1_addGloss 24 = .ok (.getfield 35, 3) := by decide +kernel
theorem dX1_addGloss_27 : decode cX1_addGloss 27 = .ok (.aaload, 1) := by decide +kernel
theorem dX1_addGloss_28 : decode cX1_addGloss 28 = .ok (.goto 4, 3) := by decide +kernel
theorem dX1_addGloss_31 : decode cX1_addGloss 31 = .ok (.aconst_null, 1) := by decide +kernel
theorem dX1_addGloss_32 : decode cX1_addGloss 32 = .ok (.astore 4, 2) := by decide +kernel
theorem dX1_addGloss_34 : decode cX1_addGloss 34 = .ok (.aload 4, 2) := by decide +kernel
theorem dX1_addGloss_36 : decode cX1_addGloss 36 = .ok (.ifnonnull 5, 3) := by decide +kernel
theorem dX1_addGloss_39 : decode cX1_addGloss 39 = .ok (.iconst (-1), 1) := by decide +kernel
theorem dX1_addGloss_40 : decode cX1_addGloss 40 = .ok (.ireturn, 1) := by decide +kernel
theorem dX1_addGloss_41 : decode cX1_addGloss 41 = .ok (.aload 4, 2) := by decide +kernel
theorem dX1_addGloss_43 : decode cX1_addGloss 43 = .ok (.getfield 65, 3) := by decide +kernel
theorem dX1_addGloss_46 : decode cX1_addGloss 46 = .ok (.invokevirtual 46, 3) := by decide +kernel
theorem dX1_addGloss_49 : decode cX1_addGloss 49 = .ok (.aload 4, 2) := by decide +kernel
theorem dX1_addGloss_51 : decode cX1_addGloss 51 = .ok (.iconst 0, 1) := by decide +kernel
theorem dX1_addGloss_52 : decode cX1_addGloss 52 = .ok (.putfield 68, 3) := by decide +kernel
theorem dX1_addGloss_55 : decode cX1_addGloss 55 = .ok (.aload 4, 2) := by decide +kernel
theorem dX1_addGloss_57 : decode cX1_addGloss 57 = .ok (.iload_n 1, 1) := by decide +kernel
theorem dX1_addGloss_58 : decode cX1_addGloss 58 = .ok (.putfield 71, 3) := by decide +kernel
theorem dX1_addGloss_61 : decode cX1_addGloss 61 = .ok (.aload 4, 2) := by decide +kernel
theorem dX1_addGloss_63 : decode cX1_addGloss 63 = .ok (.iload_n 2, 1) := by decide +kernel
theorem dX1_addGloss_64 : decode cX1_addGloss 64 = .ok (.putfield 74, 3) := by decide +kernel
theorem dX1_addGloss_67 : decode cX1_addGloss 67 = .ok (.aload 4, 2) := by decide +kernel
theorem dX1_addGloss_69 : decode cX1_addGloss 69 = .ok (.iload_n 3, 1) := by decide +kernel
theorem dX1_addGloss_70 : decode cX1_addGloss 70 = .ok (.putfield 77, 3) := by decide +kernel
theorem dX1_addGloss_73 : decode cX1_addGloss 73 = .ok (.aload 4, 2) := by decide +kernel
theorem dX1_addGloss_75 : decode cX1_addGloss 75 = .ok (.iconst 0, 1) := by decide +kernel
theorem dX1_addGloss_76 : decode cX1_addGloss 76 = .ok (.putfield 80, 3) := by decide +kernel
theorem dX1_addGloss_79 : decode cX1_addGloss 79 = .ok (.aload_n 0, 1) := by decide +kernel
theorem dX1_addGloss_80 : decode cX1_addGloss 80 = .ok (.dup, 1) := by decide +kernel
theorem dX1_addGloss_81 : decode cX1_addGloss 81 = .ok (.getfield 35, 3) := by decide +kernel
theorem dX1_addGloss_84 : decode cX1_addGloss 84 = .ok (.iconst 1, 1) := by decide +kernel
theorem dX1_addGloss_85 : decode cX1_addGloss 85 = .ok (.iadd, 1) := by decide +kernel
theorem dX1_addGloss_86 : decode cX1_addGloss 86 = .ok (.putfield 35, 3) := by decide +kernel
theorem dX1_addGloss_89 : decode cX1_addGloss 89 = .ok (.aload_n 0, 1) := by decide +kernel
theorem dX1_addGloss_90 : decode cX1_addGloss 90 = .ok (.getfield 35, 3) := by decide +kernel
theorem dX1_addGloss_93 : decode cX1_addGloss 93 = .ok (.iconst 1, 1) := by decide +kernel
theorem dX1_addGloss_94 : decode cX1_addGloss 94 = .ok (.isub, 1) := by decide +kernel
theorem dX1_addGloss_95 : decode cX1_addGloss 95 = .ok (.ireturn, 1) := by decide +kernel
theorem dX1_rowOf_0 : decode cX1_rowOf 0 = .ok (.aload_n 0, 1) := by decide +kernel
theorem dX1_rowOf_1 : decode cX1_rowOf 1 = .ok (.iload_n 1, 1) := by decide +kernel
theorem dX1_rowOf_2 : decode cX1_rowOf 2 = .ok (.invokevirtual 58, 3) := by decide +kernel
theorem dX1_rowOf_5 : decode cX1_rowOf 5 = .ok (.astore_n 2, 1) := by decide +kernel
theorem dX1_rowOf_6 : decode cX1_rowOf 6 = .ok (.aload_n 2, 1) := by decide +kernel
theorem dX1_rowOf_7 : decode cX1_rowOf 7 = .ok (.ifnonnull 10, 3) := by decide +kernel
theorem dX1_rowOf_10 : decode cX1_rowOf 10 = .ok (.aload_n 0, 1) := by decide +kernel
theorem dX1_rowOf_11 : decode cX1_rowOf 11 = .ok (.getfield 14, 3) := by decide +kernel
theorem dX1_rowOf_14 : decode cX1_rowOf 14 = .ok (.goto 7, 3) := by decide +kernel
theorem dX1_rowOf_17 : decode cX1_rowOf 17 = .ok (.aload_n 2, 1) := by decide +kernel
theorem dX1_rowOf_18 : decode cX1_rowOf 18 = .ok (.getfield 65, 3) := by decide +kernel
theorem dX1_rowOf_21 : decode cX1_rowOf 21 = .ok (.areturn, 1) := by decide +kernel
theorem dX1_depthOf_0 : decode cX1_depthOf 0 = .ok (.iconst 0, 1) := by decide +kernel
theorem dX1_depthOf_1 : decode cX1_depthOf 1 = .ok (.istore_n 2, 1) := by decide +kernel
theorem dX1_depthOf_2 : decode cX1_depthOf 2 = .ok (.aload_n 0, 1) := by decide +kernel
theorem dX1_depthOf_3 : decode cX1_depthOf 3 = .ok (.iload_n 1, 1) := by decide +kernel
theorem dX1_depthOf_4 : decode cX1_depthOf 4 = .ok (.invokevirtual 58, 3) := by decide +kernel
theorem dX1_depthOf_7 : decode cX1_depthOf 7 = .ok (.astore_n 3, 1) := by decide +kernel
theorem dX1_depthOf_8 : decode cX1_depthOf 8 = .ok (.aload_n 3, 1) := by decide +kernel
theorem dX1_depthOf_9 : decode cX1_depthOf 9 = .ok (.ifnull 23, 3) := by decide +kernel
theorem dX1_depthOf_12 : decode cX1_depthOf 12 = .ok (.iload_n 2, 1) := by decide +kernel
theorem dX1_depthOf_13 : decode cX1_depthOf 13 = .ok (.iconst 4, 1) := by decide +kernel
theorem dX1_depthOf_14 : decode cX1_depthOf 14 = .ok (.if_icmp .gt 18, 3) := by decide +kernel
theorem dX1_depthOf_17 : decode cX1_depthOf 17 = .ok (.iinc 2 1, 3) := by decide +kernel
theorem dX1_depthOf_20 : decode cX1_depthOf 20 = .ok (.aload_n 0, 1) := by decide +kernel
theorem dX1_depthOf_21 : decode cX1_depthOf 21 = .ok (.aload_n 3, 1) := by decide +kernel
theorem dX1_depthOf_22 : decode cX1_depthOf 22 = .ok (.getfield 71, 3) := by decide +kernel
theorem dX1_depthOf_25 : decode cX1_depthOf 25 = .ok (.invokevirtual 58, 3) := by decide +kernel
theorem dX1_depthOf_28 : decode cX1_depthOf 28 = .ok (.astore_n 3, 1) := by decide +kernel
theorem dX1_depthOf_29 : decode cX1_depthOf 29 = .ok (.goto (-21), 3) := by decide +kernel
theorem dX1_depthOf_32 : decode cX1_depthOf 32 = .ok (.iload_n 2, 1) := by decide +kernel
theorem dX1_depthOf_33 : decode cX1_depthOf 33 = .ok (.ireturn, 1) := by decide +kernel
theorem dX1_orderInSpan_0 : decode cX1_orderInSpan 0 = .ok (.aload_n 0, 1) := by decide +kernel
theorem dX1_orderInSpan_1 : decode cX1_orderInSpan 1 = .ok (.iload_n 1, 1) := by decide +kernel
theorem dX1_orderInSpan_2 : decode cX1_orderInSpan 2 = .ok (.invokevirtual 58, 3) := by decide +kernel
theorem dX1_orderInSpan_5 : decode cX1_orderInSpan 5 = .ok (.astore_n 2, 1) := by decide +kernel
theorem dX1_orderInSpan_6 : decode cX1_orderInSpan 6 = .ok (.iconst 0, 1) := by decide +kernel
theorem dX1_orderInSpan_7 : decode cX1_orderInSpan 7 = .ok (.istore_n 3, 1) := by decide +kernel
theorem dX1_orderInSpan_8 : decode cX1_orderInSpan 8 = .ok (.iconst 0, 1) := by decide +kernel
theorem dX1_orderInSpan_9 : decode cX1_orderInSpan 9 = .ok (.istore 4, 2) := by decide +kernel
theorem dX1_orderInSpan_11 : decode cX1_orderInSpan 11 = .ok (.iload 4, 2) := by decide +kernel
theorem dX1_orderInSpan_13 : decode cX1_orderInSpan 13 = .ok (.iload_n 1, 1) := by decide +kernel
theorem dX1_orderInSpan_14 : decode cX1_orderInSpan 14 = .ok (.if_icmp .ge 38, 3) := by decide +kernel
theorem dX1_orderInSpan_17 : decode cX1_orderInSpan 17 = .ok (.aload_n 0, 1) := by decide +kernel
theorem dX1_orderInSpan_18 : decode cX1_orderInSpan 18 = .ok (.iload 4, 2) := by decide +kernel
theorem dX1_orderInSpan_20 : decode cX1_orderInSpan 20 = .ok (.invokevirtual 58, 3) := by decide +kernel
theorem dX1_orderInSpan_23 : decode cX1_orderInSpan 23 = .ok (.astore 5, 2) := by decide +kernel
theorem dX1_orderInSpan_25 : decode cX1_orderInSpan 25 = .ok (.aload_n 2, 1) := by decide +kernel
theorem dX1_orderInSpan_26 : decode cX1_orderInSpan 26 = .ok (.ifnull 20, 3) := by decide +kernel
theorem dX1_orderInSpan_29 : decode cX1_orderInSpan 29 = .ok (.aload 5, 2) := by decide +kernel
theorem dX1_orderInSpan_31 : decode cX1_orderInSpan 31 = .ok (.ifnull 15, 3) := by decide +kernel
theorem dX1_orderInSpan_34 : decode cX1_orderInSpan 34 = .ok (.aload 5, 2) := by decide +kernel
theorem dX1_orderInSpan_36 : decode cX1_orderInSpan 36 = .ok (.aload_n 2, 1) := by decide +kernel
theorem dX1_orderInSpan_37 : decode cX1_orderInSpan 37 = .ok (.invokevirtual 84, 3) := by decide +kernel
theorem dX1_orderInSpan_40 : decode cX1_orderInSpan 40 = .ok (.ifCond .eq 6, 3) := by decide +kernel
theorem dX1_orderInSpan_43 : decode cX1_orderInSpan 43 = .ok (.iinc 3 1, 3) := by decide +kernel
theorem dX1_orderInSpan_46 : decode cX1_orderInSpan 46 = .ok (.iinc 4 1, 3) := by decide +kernel
theorem dX1_orderInSpan_49 : decode cX1_orderInSpan 49 = .ok (.goto (-38), 3) := by decide +kernel
theorem dX1_orderInSpan_52 : decode cX1_orderInSpan 52 = .ok (.iload_n 3, 1) := by decide +kernel
theorem dX1_orderInSpan_53 : decode cX1_orderInSpan 53 = .ok (.ireturn, 1) := by decide +kernel
theorem dX1_greatestDepth_0 : decode cX1_greatestDepth 0 = .ok (.iconst 0, 1) := by decide +kernel
theorem dX1_greatestDepth_1 : decode cX1_greatestDepth 1 = .ok (.istore_n 1, 1) := by decide +kernel
theorem dX1_greatestDepth_2 : decode cX1_greatestDepth 2 = .ok (.iconst 0, 1) := by decide +kernel
theorem dX1_greatestDepth_3 : decode cX1_greatestDepth 3 = .ok (.istore_n 2, 1) := by decide +kernel
theorem dX1_greatestDepth_4 : decode cX1_greatestDepth 4 = .ok (.iload_n 2, 1) := by decide +kernel
theorem dX1_greatestDepth_5 : decode cX1_greatestDepth 5 = .ok (.aload_n 0, 1) := by decide +kernel
theorem dX1_greatestDepth_6 : decode cX1_greatestDepth 6 = .ok (.getfield 35, 3) := by decide +kernel
theorem dX1_greatestDepth_9 : decode cX1_greatestDepth 9 = .ok (.if_icmp .ge 19, 3) := by decide +kernel
theorem dX1_greatestDepth_12 : decode cX1_greatestDepth 12 = .ok (.iload_n 1, 1) := by decide +kernel
theorem dX1_greatestDepth_13 : decode cX1_greatestDepth 13 = .ok (.aload_n 0, 1) := by decide +kernel
theorem dX1_greatestDepth_14 : decode cX1_greatestDepth 14 = .ok (.iload_n 2, 1) := by decide +kernel
theorem dX1_greatestDepth_15 : decode cX1_greatestDepth 15 = .ok (.invokevirtual 88, 3) := by decide +kernel
theorem dX1_greatestDepth_18 : decode cX1_greatestDepth 18 = .ok (.invokestatic 92, 3) := by decide +kernel
theorem dX1_greatestDepth_21 : decode cX1_greatestDepth 21 = .ok (.istore_n 1, 1) := by decide +kernel
theorem dX1_greatestDepth_22 : decode cX1_greatestDepth 22 = .ok (.iinc 2 1, 3) := by decide +kernel
theorem dX1_greatestDepth_25 : decode cX1_greatestDepth 25 = .ok (.goto (-21), 3) := by decide +kernel
theorem dX1_greatestDepth_28 : decode cX1_greatestDepth 28 = .ok (.iload_n 1, 1) := by decide +kernel
theorem dX1_greatestDepth_29 : decode cX1_greatestDepth 29 = .ok (.ireturn, 1) := by decide +kernel
theorem dX1_spanCount_0 : decode cX1_spanCount 0 = .ok (.iconst 0, 1) := by decide +kernel
theorem dX1_spanCount_1 : decode cX1_spanCount 1 = .ok (.istore_n 1, 1) := by decide +kernel
theorem dX1_spanCount_2 : decode cX1_spanCount 2 = .ok (.iconst 0, 1) := by decide +kernel
theorem dX1_spanCount_3 : decode cX1_spanCount 3 = .ok (.istore_n 2, 1) := by decide +kernel
theorem dX1_spanCount_4 : decode cX1_spanCount 4 = .ok (.iload_n 2, 1) := by decide +kernel
theorem dX1_spanCount_5 : decode cX1_spanCount 5 = .ok (.aload_n 0, 1) := by decide +kernel
theorem dX1_spanCount_6 : decode cX1_spanCount 6 = .ok (.getfield 35, 3) := by decide +kernel
theorem dX1_spanCount_9 : decode cX1_spanCount 9 = .ok (.if_icmp .ge 20, 3) := by decide +kernel
theorem dX1_spanCount_12 : decode cX1_spanCount 12 = .ok (.aload_n 0, 1) := by decide +kernel
theorem dX1_spanCount_13 : decode cX1_spanCount 13 = .ok (.iload_n 2, 1) := by decide +kernel
theorem dX1_spanCount_14 : decode cX1_spanCount 14 = .ok (.invokevirtual 98, 3) := by decide +kernel
theorem dX1_spanCount_17 : decode cX1_spanCount 17 = .ok (.ifCond .ne 6, 3) := by decide +kernel
theorem dX1_spanCount_20 : decode cX1_spanCount 20 = .ok (.iinc 1 1, 3) := by decide +kernel
theorem dX1_spanCount_23 : decode cX1_spanCount 23 = .ok (.iinc 2 1, 3) := by decide +kernel
theorem dX1_spanCount_26 : decode cX1_spanCount 26 = .ok (.goto (-22), 3) := by decide +kernel
theorem dX1_spanCount_29 : decode cX1_spanCount 29 = .ok (.iload_n 1, 1) := by decide +kernel
theorem dX1_spanCount_30 : decode cX1_spanCount 30 = .ok (.ireturn, 1) := by decide +kernel
theorem dX1_aboveCount_0 : decode cX1_aboveCount 0 = .ok (.iconst 0, 1) := by decide +kernel
theorem dX1_aboveCount_1 : decode cX1_aboveCount 1 = .ok (.istore_n 1, 1) := by decide +kernel
theorem dX1_aboveCount_2 : decode cX1_aboveCount 2 = .ok (.iconst 0, 1) := by decide +kernel
theorem dX1_aboveCount_3 : decode cX1_aboveCount 3 = .ok (.istore_n 2, 1) := by decide +kernel
theorem dX1_aboveCount_4 : decode cX1_aboveCount 4 = .ok (.iload_n 2, 1) := by decide +kernel
theorem dX1_aboveCount_5 : decode cX1_aboveCount 5 = .ok (.aload_n 0, 1) := by decide +kernel
theorem dX1_aboveCount_6 : decode cX1_aboveCount 6 = .ok (.getfield 35, 3) := by decide +kernel
theorem dX1_aboveCount_9 : decode cX1_aboveCount 9 = .ok (.if_icmp .ge 29, 3) := by decide +kernel
theorem dX1_aboveCount_12 : decode cX1_aboveCount 12 = .ok (.aload_n 0, 1) := by decide +kernel
theorem dX1_aboveCount_13 : decode cX1_aboveCount 13 = .ok (.iload_n 2, 1) := by decide +kernel
theorem dX1_aboveCount_14 : decode cX1_aboveCount 14 = .ok (.invokevirtual 58, 3) := by decide +kernel
theorem dX1_aboveCount_17 : decode cX1_aboveCount 17 = .ok (.astore_n 3, 1) := by decide +kernel
theorem dX1_aboveCount_18 : decode cX1_aboveCount 18 = .ok (.aload_n 3, 1) := by decide +kernel
theorem dX1_aboveCount_19 : decode cX1_aboveCount 19 = .ok (.ifnull 13, 3) := by decide +kernel
theorem dX1_aboveCount_22 : decode cX1_aboveCount 22 = .ok (.aload_n 3, 1) := by decide +kernel
theorem dX1_aboveCount_23 : decode cX1_aboveCount 23 = .ok (.getfield 68, 3) := by decide +kernel
theorem dX1_aboveCount_26 : decode cX1_aboveCount 26 = .ok (.ifCond .ne 6, 3) := by decide +kernel
theorem dX1_aboveCount_29 : decode cX1_aboveCount 29 = .ok (.iinc 1 1, 3) := by decide +kernel
theorem dX1_aboveCount_32 : decode cX1_aboveCount 32 = .ok (.iinc 2 1, 3) := by decide +kernel
theorem dX1_aboveCount_35 : decode cX1_aboveCount 35 = .ok (.goto (-31), 3) := by decide +kernel
theorem dX1_aboveCount_38 : decode cX1_aboveCount 38 = .ok (.iload_n 1, 1) := by decide +kernel
theorem dX1_aboveCount_39 : decode cX1_aboveCount 39 = .ok (.ireturn, 1) := by decide +kernel
theorem dX1_rowWords_0 : decode cX1_rowWords 0 = .ok (.iconst 0, 1) := by decide +kernel
theorem dX1_rowWords_1 : decode cX1_rowWords 1 = .ok (.istore_n 1, 1) := by decide +kernel
theorem dX1_rowWords_2 : decode cX1_rowWords 2 = .ok (.iconst 0, 1) := by decide +kernel
theorem dX1_rowWords_3 : decode cX1_rowWords 3 = .ok (.istore_n 2, 1) := by decide +kernel
theorem dX1_rowWords_4 : decode cX1_rowWords 4 = .ok (.iload_n 2, 1) := by decide +kernel
theorem dX1_rowWords_5 : decode cX1_rowWords 5 = .ok (.aload_n 0, 1) := by decide +kernel
theorem dX1_rowWords_6 : decode cX1_rowWords 6 = .ok (.getfield 35, 3) := by decide +kernel
theorem dX1_rowWords_9 : decode cX1_rowWords 9 = .ok (.if_icmp .ge 20, 3) := by decide +kernel
theorem dX1_rowWords_12 : decode cX1_rowWords 12 = .ok (.iload_n 1, 1) := by decide +kernel
theorem dX1_rowWords_13 : decode cX1_rowWords 13 = .ok (.aload_n 0, 1) := by decide +kernel
theorem dX1_rowWords_14 : decode cX1_rowWords 14 = .ok (.iload_n 2, 1) := by decide +kernel
theorem dX1_rowWords_15 : decode cX1_rowWords 15 = .ok (.invokevirtual 101, 3) := by decide +kernel
theorem dX1_rowWords_18 : decode cX1_rowWords 18 = .ok (.invokevirtual 105, 3) := by decide +kernel
theorem dX1_rowWords_21 : decode cX1_rowWords 21 = .ok (.iadd, 1) := by decide +kernel
theorem dX1_rowWords_22 : decode cX1_rowWords 22 = .ok (.istore_n 1, 1) := by decide +kernel
theorem dX1_rowWords_23 : decode cX1_rowWords 23 = .ok (.iinc 2 1, 3) := by decide +kernel
theorem dX1_rowWords_26 : decode cX1_rowWords 26 = .ok (.goto (-22), 3) := by decide +kernel
theorem dX1_rowWords_29 : decode cX1_rowWords 29 = .ok (.iload_n 1, 1) := by decide +kernel
theorem dX1_rowWords_30 : decode cX1_rowWords 30 = .ok (.ireturn, 1) := by decide +kernel
theorem dX1_isInSpanOfText_0 : decode cX1_isInSpanOfText 0 = .ok (.iconst 0, 1) := by decide +kernel
theorem dX1_isInSpanOfText_1 : decode cX1_isInSpanOfText 1 = .ok (.istore_n 2, 1) := by decide +kernel
theorem dX1_isInSpanOfText_2 : decode cX1_isInSpanOfText 2 = .ok (.iload_n 2, 1) := by decide +kernel
theorem dX1_isInSpanOfText_3 : decode cX1_isInSpanOfText 3 = .ok (.aload_n 0, 1) := by decide +kernel
theorem dX1_isInSpanOfText_4 : decode cX1_isInSpanOfText 4 = .ok (.getfield 35, 3) := by decide +kernel
theorem dX1_isInSpanOfText_7 : decode cX1_isInSpanOfText 7 = .ok (.if_icmp .ge 36, 3) := by decide +kernel
theorem dX1_isInSpanOfText_10 : decode cX1_isInSpanOfText 10 = .ok (.aload_n 0, 1) := by decide +kernel
theorem dX1_isInSpanOfText_11 : decode cX1_isInSpanOfText 11 = .ok (.iload_n 2, 1) := by decide +kernel
theorem dX1_isInSpanOfText_12 : decode cX1_isInSpanOfText 12 = .ok (.invokevirtual 58, 3) := by decide +kernel
theorem dX1_isInSpanOfText_15 : decode cX1_isInSpanOfText 15 = .ok (.astore_n 3, 1) := by decide +kernel
theorem dX1_isInSpanOfText_16 : decode cX1_isInSpanOfText 16 = .ok (.aload_n 3, 1) := by decide +kernel
theorem dX1_isInSpanOfText_17 : decode cX1_isInSpanOfText 17 = .ok (.ifnull 20, 3) := by decide +kernel
theorem dX1_isInSpanOfText_20 : decode cX1_isInSpanOfText 20 = .ok (.aload_n 3, 1) := by decide +kernel
theorem dX1_isInSpanOfText_21 : decode cX1_isInSpanOfText 21 = .ok (.invokevirtual 109, 3) := by decide +kernel
theorem dX1_isInSpanOfText_24 : decode cX1_isInSpanOfText 24 = .ok (.ifCond .eq 13, 3) := by decide +kernel
theorem dX1_isInSpanOfText_27 : decode cX1_isInSpanOfText 27 = .ok (.aload_n 3, 1) := by decide +kernel
theorem dX1_isInSpanOfText_28 : decode cX1_isInSpanOfText 28 = .ok (.iload_n 1, 1) := by decide +kernel
theorem dX1_isInSpanOfText_29 : decode cX1_isInSpanOfText 29 = .ok (.invokevirtual 113, 3) := by decide +kernel
theorem dX1_isInSpanOfText_32 : decode cX1_isInSpanOfText 32 = .ok (.ifCond .eq 5, 3) := by decide +kernel
theorem dX1_isInSpanOfText_35 : decode cX1_isInSpanOfText 35 = .ok (.iconst 1, 1) := by decide +kernel
theorem dX1_isInSpanOfText_36 : decode cX1_isInSpanOfText 36 = .ok (.ireturn, 1) := by decide +kernel
theorem dX1_isInSpanOfText_37 : decode cX1_isInSpanOfText 37 = .ok (.iinc 2 1, 3) := by decide +kernel
theorem dX1_isInSpanOfText_40 : decode cX1_isInSpanOfText 40 = .ok (.goto (-38), 3) := by decide +kernel
theorem dX1_isInSpanOfText_43 : decode cX1_isInSpanOfText 43 = .ok (.iconst 0, 1) := by decide +kernel
theorem dX1_isInSpanOfText_44 : decode cX1_isInSpanOfText 44 = .ok (.ireturn, 1) := by decide +kernel
theorem dX1_isAloneOnText_0 : decode cX1_isAloneOnText 0 = .ok (.iconst 0, 1) := by decide +kernel
theorem dX1_isAloneOnText_1 : decode cX1_isAloneOnText 1 = .ok (.istore_n 2, 1) := by decide +kernel
theorem dX1_isAloneOnText_2 : decode cX1_isAloneOnText 2 = .ok (.iconst 0, 1) := by decide +kernel
theorem dX1_isAloneOnText_3 : decode cX1_isAloneOnText 3 = .ok (.istore_n 3, 1) := by decide +kernel
theorem dX1_isAloneOnText_4 : decode cX1_isAloneOnText 4 = .ok (.iload_n 3, 1) := by decide +kernel
theorem dX1_isAloneOnText_5 : decode cX1_isAloneOnText 5 = .ok (.aload_n 0, 1) := by decide +kernel
theorem dX1_isAloneOnText_6 : decode cX1_isAloneOnText 6 = .ok (.getfield 35, 3) := by decide +kernel
theorem dX1_isAloneOnText_9 : decode cX1_isAloneOnText 9 = .ok (.if_icmp .ge 41, 3) := by decide +kernel
theorem dX1_isAloneOnText_12 : decode cX1_isAloneOnText 12 = .ok (.aload_n 0, 1) := by decide +kernel
theorem dX1_isAloneOnText_13 : decode cX1_isAloneOnText 13 = .ok (.iload_n 3, 1) := by decide +kernel
theorem dX1_isAloneOnText_14 : decode cX1_isAloneOnText 14 = .ok (.invokevirtual 58, 3) := by decide +kernel
theorem dX1_isAloneOnText_17 : decode cX1_isAloneOnText 17 = .ok (.astore 4, 2) := by decide +kernel
theorem dX1_isAloneOnText_19 : decode cX1_isAloneOnText 19 = .ok (.aload 4, 2) := by decide +kernel
theorem dX1_isAloneOnText_21 : decode cX1_isAloneOnText 21 = .ok (.ifnull 23, 3) := by decide +kernel
theorem dX1_isAloneOnText_24 : decode cX1_isAloneOnText 24 = .ok (.aload 4, 2) := by decide +kernel
theorem dX1_isAloneOnText_26 : decode cX1_isAloneOnText 26 = .ok (.invokevirtual 109, 3) := by decide +kernel
theorem dX1_isAloneOnText_29 : decode cX1_isAloneOnText 29 = .ok (.ifCond .eq 15, 3) := by decide +kernel
theorem dX1_isAloneOnText_32 : decode cX1_isAloneOnText 32 = .ok (.aload 4, 2) := by decide +kernel
theorem dX1_isAloneOnText_34 : decode cX1_isAloneOnText 34 = .ok (.aload_n 1, 1) := by decide +kernel
theorem dX1_isAloneOnText_35 : decode cX1_isAloneOnText 35 = .ok (.invokevirtual 84, 3) := by decide +kernel
theorem dX1_isAloneOnText_38 : decode cX1_isAloneOnText 38 = .ok (.ifCond .eq 6, 3) := by decide +kernel
theorem dX1_isAloneOnText_41 : decode cX1_isAloneOnText 41 = .ok (.iinc 2 1, 3) := by decide +kernel
theorem dX1_isAloneOnText_44 : decode cX1_isAloneOnText 44 = .ok (.iinc 3 1, 3) := by decide +kernel
theorem dX1_isAloneOnText_47 : decode cX1_isAloneOnText 47 = .ok (.goto (-43), 3) := by decide +kernel
theorem dX1_isAloneOnText_50 : decode cX1_isAloneOnText 50 = .ok (.iload_n 2, 1) := by decide +kernel
theorem dX1_isAloneOnText_51 : decode cX1_isAloneOnText 51 = .ok (.iconst 1, 1) := by decide +kernel
theorem dX1_isAloneOnText_52 : decode cX1_isAloneOnText 52 = .ok (.if_icmp .ne 7, 3) := by decide +kernel
theorem dX1_isAloneOnText_55 : decode cX1_isAloneOnText 55 = .ok (.iconst 1, 1) := by decide +kernel
theorem dX1_isAloneOnText_56 : decode cX1_isAloneOnText 56 = .ok (.goto 4, 3) := by decide +kernel
theorem dX1_isAloneOnText_59 : decode cX1_isAloneOnText 59 = .ok (.iconst 0, 1) := by decide +kernel
theorem dX1_isAloneOnText_60 : decode cX1_isAloneOnText 60 = .ok (.ireturn, 1) := by decide +kernel
theorem dX1_takeAway_0 : decode cX1_takeAway 0 = .ok (.aload_n 0, 1) := by decide +kernel
theorem dX1_takeAway_1 : decode cX1_takeAway 1 = .ok (.iload_n 1, 1) := by decide +kernel
theorem dX1_takeAway_2 : decode cX1_takeAway 2 = .ok (.invokevirtual 58, 3) := by decide +kernel
theorem dX1_takeAway_5 : decode cX1_takeAway 5 = .ok (.astore_n 2, 1) := by decide +kernel
theorem dX1_takeAway_6 : decode cX1_takeAway 6 = .ok (.aload_n 2, 1) := by decide +kernel
theorem dX1_takeAway_7 : decode cX1_takeAway 7 = .ok (.ifnonnull 4, 3) := by decide +kernel
theorem dX1_takeAway_10 : decode cX1_takeAway 10 = .ok (.return_, 1) := by decide +kernel
theorem dX1_takeAway_11 : decode cX1_takeAway 11 = .ok (.aload_n 2, 1) := by decide +kernel
theorem dX1_takeAway_12 : decode cX1_takeAway 12 = .ok (.iconst 1, 1) := by decide +kernel
theorem dX1_takeAway_13 : decode cX1_takeAway 13 = .ok (.putfield 80, 3) := by decide +kernel
theorem dX1_takeAway_16 : decode cX1_takeAway 16 = .ok (.iload_n 1, 1) := by decide +kernel
theorem dX1_takeAway_17 : decode cX1_takeAway 17 = .ok (.iconst 1, 1) := by decide +kernel
theorem dX1_takeAway_18 : decode cX1_takeAway 18 = .ok (.iadd, 1) := by decide +kernel
theorem dX1_takeAway_19 : decode cX1_takeAway 19 = .ok (.istore_n 3, 1) := by decide +kernel
theorem dX1_takeAway_20 : decode cX1_takeAway 20 = .ok (.iload_n 3, 1) := by decide +kernel
theorem dX1_takeAway_21 : decode cX1_takeAway 21 = .ok (.aload_n 0, 1) := by decide +kernel
theorem dX1_takeAway_22 : decode cX1_takeAway 22 = .ok (.getfield 35, 3) := by decide +kernel
theorem dX1_takeAway_25 : decode cX1_takeAway 25 = .ok (.if_icmp .ge 60, 3) := by decide +kernel
theorem dX1_takeAway_28 : decode cX1_takeAway 28 = .ok (.aload_n 0, 1) := by decide +kernel
theorem dX1_takeAway_29 : decode cX1_takeAway 29 = .ok (.iload_n 3, 1) := by decide +kernel
theorem dX1_takeAway_30 : decode cX1_takeAway 30 = .ok (.invokevirtual 58, 3) := by decide +kernel
theorem dX1_takeAway_33 : decode cX1_takeAway 33 = .ok (.astore 4, 2) := by decide +kernel
theorem dX1_takeAway_35 : decode cX1_takeAway 35 = .ok (.aload 4, 2) := by decide +kernel
theorem dX1_takeAway_37 : decode cX1_takeAway 37 = .ok (.ifnonnull 7, 3) := by decide +kernel
theorem dX1_takeAway_40 : decode cX1_takeAway 40 = .ok (.aconst_null, 1) := by decide +kernel
theorem dX1_takeAway_41 : decode cX1_takeAway 41 = .ok (.goto 12, 3) := by decide +kernel
theorem dX1_takeAway_44 : decode cX1_takeAway 44 = .ok (.aload_n 0, 1) := by decide +kernel
theorem dX1_takeAway_45 : decode cX1_takeAway 45 = .ok (.aload 4, 2) := by decide +kernel
theorem dX1_takeAway_47 : decode cX1_takeAway 47 = .ok (.getfield 71, 3) := by decide +kernel
theorem dX1_takeAway_50 : decode cX1_takeAway 50 = .ok (.invokevirtual 58, 3) := by decide +kernel
theorem dX1_takeAway_53 : decode cX1_takeAway 53 = .ok (.astore 5, 2) := by decide +kernel
theorem dX1_takeAway_55 : decode cX1_takeAway 55 = .ok (.aload 4, 2) := by decide +kernel
theorem dX1_takeAway_57 : decode cX1_takeAway 57 = .ok (.ifnull 22, 3) := by decide +kernel
theorem dX1_takeAway_60 : decode cX1_takeAway 60 = .ok (.aload 5, 2) := by decide +kernel
theorem dX1_takeAway_62 : decode cX1_takeAway 62 = .ok (.ifnull 17, 3) := by decide +kernel
theorem dX1_takeAway_65 : decode cX1_takeAway 65 = .ok (.aload 5, 2) := by decide +kernel
theorem dX1_takeAway_67 : decode cX1_takeAway 67 = .ok (.getfield 80, 3) := by decide +kernel
theorem dX1_takeAway_70 : decode cX1_takeAway 70 = .ok (.ifCond .eq 9, 3) := by decide +kernel
theorem dX1_takeAway_73 : decode cX1_takeAway 73 = .ok (.aload 4, 2) := by decide +kernel
theorem dX1_takeAway_75 : decode cX1_takeAway 75 = .ok (.iconst 1, 1) := by decide +kernel
theorem dX1_takeAway_76 : decode cX1_takeAway 76 = .ok (.putfield 80, 3) := by decide +kernel
theorem dX1_takeAway_79 : decode cX1_takeAway 79 = .ok (.iinc 3 1, 3) := by decide +kernel
theorem dX1_takeAway_82 : decode cX1_takeAway 82 = .ok (.goto (-62), 3) := by decide +kernel
theorem dX1_takeAway_85 : decode cX1_takeAway 85 = .ok (.return_, 1) := by decide +kernel
theorem dX1_numberAnew_0 : decode cX1_numberAnew 0 = .ok (.aload_n 0, 1) := by decide +kernel
theorem dX1_numberAnew_1 : decode cX1_numberAnew 1 = .ok (.getfield 26, 3) := by decide +kernel
theorem dX1_numberAnew_4 : decode cX1_numberAnew 4 = .ok (.aload_n 0, 1) := by decide +kernel
theorem dX1_numberAnew_5 : decode cX1_numberAnew 5 = .ok (.getfield 35, 3) := by decide +kernel
theorem dX1_numberAnew_8 : decode cX1_numberAnew 8 = .ok (.iconst (-1), 1) := by decide +kernel
theorem dX1_numberAnew_9 : decode cX1_numberAnew 9 = .ok (.invokevirtual 49, 3) := by decide +kernel
theorem dX1_numberAnew_12 : decode cX1_numberAnew 12 = .ok (.iconst 0, 1) := by decide +kernel
theorem dX1_numberAnew_13 : decode cX1_numberAnew 13 = .ok (.istore_n 1, 1) := by decide +kernel
theorem dX1_numberAnew_14 : decode cX1_numberAnew 14 = .ok (.iconst 0, 1) := by decide +kernel
theorem dX1_numberAnew_15 : decode cX1_numberAnew 15 = .ok (.istore_n 2, 1) := by decide +kernel
theorem dX1_numberAnew_16 : decode cX1_numberAnew 16 = .ok (.iload_n 2, 1) := by decide +kernel
theorem dX1_numberAnew_17 : decode cX1_numberAnew 17 = .ok (.aload_n 0, 1) := by decide +kernel
theorem dX1_numberAnew_18 : decode cX1_numberAnew 18 = .ok (.getfield 35, 3) := by decide +kernel
theorem dX1_numberAnew_21 : decode cX1_numberAnew 21 = .ok (.if_icmp .ge 73, 3) := by decide +kernel
theorem dX1_numberAnew_24 : decode cX1_numberAnew 24 = .ok (.aload_n 0, 1) := by decide +kernel
theorem dX1_numberAnew_25 : decode cX1_numberAnew 25 = .ok (.iload_n 2, 1) := by decide +kernel
theorem dX1_numberAnew_26 : decode cX1_numberAnew 26 = .ok (.invokevirtual 58, 3) := by decide +kernel
theorem dX1_numberAnew_29 : decode cX1_numberAnew 29 = .ok (.astore_n 3, 1) := by decide +kernel
theorem dX1_numberAnew_30 : decode cX1_numberAnew 30 = .ok (.aload_n 0, 1) := by decide +kernel
theorem dX1_numberAnew_31 : decode cX1_numberAnew 31 = .ok (.iload_n 1, 1) := by decide +kernel
theorem dX1_numberAnew_32 : decode cX1_numberAnew 32 = .ok (.invokevirtual 58, 3) := by decide +kernel
theorem dX1_numberAnew_35 : decode cX1_numberAnew 35 = .ok (.astore 4, 2) := by decide +kernel
theorem dX1_numberAnew_37 : decode cX1_numberAnew 37 = .ok (.aload_n 3, 1) := by decide +kernel
theorem dX1_numberAnew_38 : decode cX1_numberAnew 38 = .ok (.ifnull 50, 3) := by decide +kernel
theorem dX1_numberAnew_41 : decode cX1_numberAnew 41 = .ok (.aload 4, 2) := by decide +kernel
theorem dX1_numberAnew_43 : decode cX1_numberAnew 43 = .ok (.ifnull 45, 3) := by decide +kernel
theorem dX1_numberAnew_46 : decode cX1_numberAnew 46 = .ok (.aload_n 3, 1) := by decide +kernel
theorem dX1_numberAnew_47 : decode cX1_numberAnew 47 = .ok (.getfield 80, 3) := by decide +kernel
theorem dX1_numberAnew_50 : decode cX1_numberAnew 50 = .ok (.ifCond .ne 38, 3) := by decide +kernel
theorem dX1_numberAnew_53 : decode cX1_numberAnew 53 = .ok (.aload_n 0, 1) := by decide +kernel
theorem dX1_numberAnew_54 : decode cX1_numberAnew 54 = .ok (.getfield 26, 3) := by decide +kernel
theorem dX1_numberAnew_57 : decode cX1_numberAnew 57 = .ok (.iload_n 2, 1) := by decide +kernel
theorem dX1_numberAnew_58 : decode cX1_numberAnew 58 = .ok (.iload_n 1, 1) := by decide +kernel
theorem dX1_numberAnew_59 : decode cX1_numberAnew 59 = .ok (.invokevirtual 117, 3) := by decide +kernel
theorem dX1_numberAnew_62 : decode cX1_numberAnew 62 = .ok (.aload 4, 2) := by decide +kernel
theorem dX1_numberAnew_64 : decode cX1_numberAnew 64 = .ok (.aload_n 3, 1) := by decide +kernel
theorem dX1_numberAnew_65 : decode cX1_numberAnew 65 = .ok (.invokevirtual 62, 3) := by decide +kernel
theorem dX1_numberAnew_68 : decode cX1_numberAnew 68 = .ok (.aload 4, 2) := by decide +kernel
theorem dX1_numberAnew_70 : decode cX1_numberAnew 70 = .ok (.aload_n 0, 1) := by decide +kernel
theorem dX1_numberAnew_71 : decode cX1_numberAnew 71 = .ok (.getfield 26, 3) := by decide +kernel
theorem dX1_numberAnew_74 : decode cX1_numberAnew 74 = .ok (.aload 4, 2) := by decide +kernel
theorem dX1_numberAnew_76 : decode cX1_numberAnew 76 = .ok (.getfield 71, 3) := by decide +kernel
theorem dX1_numberAnew_79 : decode cX1_numberAnew 79 = .ok (.invokevirtual 120, 3) := by decide +kernel
theorem dX1_numberAnew_82 : decode cX1_numberAnew 82 = .ok (.putfield 71, 3) := by decide +kernel
theorem dX1_numberAnew_85 : decode cX1_numberAnew 85 = .ok (.iinc 1 1, 3) := by decide +kernel
theorem dX1_numberAnew_88 : decode cX1_numberAnew 88 = .ok (.iinc 2 1, 3) := by decide +kernel
theorem dX1_numberAnew_91 : decode cX1_numberAnew 91 = .ok (.goto (-75), 3) := by decide +kernel
theorem dX1_numberAnew_94 : decode cX1_numberAnew 94 = .ok (.aload_n 0, 1) := by decide +kernel
theorem dX1_numberAnew_95 : decode cX1_numberAnew 95 = .ok (.iload_n 1, 1) := by decide +kernel
theorem dX1_numberAnew_96 : decode cX1_numberAnew 96 = .ok (.putfield 35, 3) := by decide +kernel
theorem dX1_numberAnew_99 : decode cX1_numberAnew 99 = .ok (.return_, 1) := by decide +kernel
theorem dX1_printTo_0 : decode cX1_printTo 0 = .ok (.aload_n 1, 1) := by decide +kernel
theorem dX1_printTo_1 : decode cX1_printTo 1 = .ok (.invokevirtual 46, 3) := by decide +kernel
theorem dX1_printTo_4 : decode cX1_printTo 4 = .ok (.aload_n 0, 1) := by decide +kernel
theorem dX1_printTo_5 : decode cX1_printTo 5 = .ok (.iconst (-1), 1) := by decide +kernel
theorem dX1_printTo_6 : decode cX1_printTo 6 = .ok (.iconst 0, 1) := by decide +kernel
theorem dX1_printTo_7 : decode cX1_printTo 7 = .ok (.aload_n 1, 1) := by decide +kernel
theorem dX1_printTo_8 : decode cX1_printTo 8 = .ok (.iconst 0, 1) := by decide +kernel
theorem dX1_printTo_9 : decode cX1_printTo 9 = .ok (.invokevirtual 123, 3) := by decide +kernel
theorem dX1_printTo_12 : decode cX1_printTo 12 = .ok (.pop, 1) := by decide +kernel
theorem dX1_printTo_13 : decode cX1_printTo 13 = .ok (.return_, 1) := by decide +kernel
theorem dX1_printRow_0 : decode cX1_printRow 0 = .ok (.iload 4, 2) := by decide +kernel
theorem dX1_printRow_2 : decode cX1_printRow 2 = .ok (.iconst 4, 1) := by decide +kernel
theorem dX1_printRow_3 : decode cX1_printRow 3 = .ok (.if_icmp .le 5, 3) := by decide +kernel
theorem dX1_printRow_6 : decode cX1_printRow 6 = .ok (.iload_n 2, 1) := by decide +kernel
theorem dX1_printRow_7 : decode cX1_printRow 7 = .ok (.ireturn, 1) := by decide +kernel
theorem dX1_printRow_8 : decode cX1_printRow 8 = .ok (.aload_n 0, 1) := by decide +kernel
theorem dX1_printRow_9 : decode cX1_printRow 9 = .ok (.iload_n 1, 1) := by decide +kernel
theorem dX1_printRow_10 : decode cX1_printRow 10 = .ok (.invokevirtual 101, 3) := by decide +kernel
theorem dX1_printRow_13 : decode cX1_printRow 13 = .ok (.astore 5, 2) := by decide +kernel
theorem dX1_printRow_15 : decode cX1_printRow 15 = .ok (.iconst 0, 1) := by decide +kernel
theorem dX1_printRow_16 : decode cX1_printRow 16 = .ok (.istore 6, 2) := by decide +kernel
theorem dX1_printRow_18 : decode cX1_printRow 18 = .ok (.iload 6, 2) := by decide +kernel
theorem dX1_printRow_20 : decode cX1_printRow 20 = .ok (.aload 5, 2) := by decide +kernel
theorem dX1_printRow_22 : decode cX1_printRow 22 = .ok (.invokevirtual 105, 3) := by decide +kernel
theorem dX1_printRow_25 : decode cX1_printRow 25 = .ok (.if_icmp .ge 82, 3) := by decide +kernel
theorem dX1_printRow_28 : decode cX1_printRow 28 = .ok (.aload_n 0, 1) := by decide +kernel
theorem dX1_printRow_29 : decode cX1_printRow 29 = .ok (.iload_n 2, 1) := by decide +kernel
theorem dX1_printRow_30 : decode cX1_printRow 30 = .ok (.invokevirtual 58, 3) := by decide +kernel
theorem dX1_printRow_33 : decode cX1_printRow 33 = .ok (.astore 7, 2) := by decide +kernel
theorem dX1_printRow_35 : decode cX1_printRow 35 = .ok (.aload 7, 2) := by decide +kernel
theorem dX1_printRow_37 : decode cX1_printRow 37 = .ok (.ifnull 53, 3) := by decide +kernel
theorem dX1_printRow_40 : decode cX1_printRow 40 = .ok (.aload 7, 2) := by decide +kernel
theorem dX1_printRow_42 : decode cX1_printRow 42 = .ok (.getfield 71, 3) := by decide +kernel
theorem dX1_printRow_45 : decode cX1_printRow 45 = .ok (.iload_n 1, 1) := by decide +kernel
theorem dX1_printRow_46 : decode cX1_printRow 46 = .ok (.if_icmp .ne 44, 3) := by decide +kernel
theorem dX1_printRow_49 : decode cX1_printRow 49 = .ok (.aload 7, 2) := by decide +kernel
theorem dX1_printRow_51 : decode cX1_printRow 51 = .ok (.getfield 74, 3) := by decide +kernel
theorem dX1_printRow_54 : decode cX1_printRow 54 = .ok (.iload 6, 2) := by decide +kernel
theorem dX1_printRow_56 : decode cX1_printRow 56 = .ok (.if_icmp .ne 34, 3) := by decide +kernel
theorem dX1_printRow_59 : decode cX1_printRow 59 = .ok (.aload 7, 2) := by decide +kernel
theorem dX1_printRow_61 : decode cX1_printRow 61 = .ok (.getfield 77, 3) := by decide +kernel
theorem dX1_printRow_64 : decode cX1_printRow 64 = .ok (.iload 6, 2) := by decide +kernel
theorem dX1_printRow_66 : decode cX1_printRow 66 = .ok (.if_icmp .lt 24, 3) := by decide +kernel
theorem dX1_printRow_69 : decode cX1_printRow 69 = .ok (.aload_n 0, 1) := by decide +kernel
theorem dX1_printRow_70 : decode cX1_printRow 70 = .ok (.aload 7, 2) := by decide +kernel
theorem dX1_printRow_72 : decode cX1_printRow 72 = .ok (.iload_n 2, 1) := by decide +kernel
theorem dX1_printRow_73 : decode cX1_printRow 73 = .ok (.aload_n 3, 1) := by decide +kernel
theorem dX1_printRow_74 : decode cX1_printRow 74 = .ok (.iload 4, 2) := by decide +kernel
theorem dX1_printRow_76 : decode cX1_printRow 76 = .ok (.invokevirtual 127, 3) := by decide +kernel
theorem dX1_printRow_79 : decode cX1_printRow 79 = .ok (.istore_n 2, 1) := by decide +kernel
theorem dX1_printRow_80 : decode cX1_printRow 80 = .ok (.aload 7, 2) := by decide +kernel
theorem dX1_printRow_82 : decode cX1_printRow 82 = .ok (.getfield 77, 3) := by decide +kernel
theorem dX1_printRow_85 : decode cX1_printRow 85 = .ok (.istore 6, 2) := by decide +kernel
theorem dX1_printRow_87 : decode cX1_printRow 87 = .ok (.goto 14, 3) := by decide +kernel
theorem dX1_printRow_90 : decode cX1_printRow 90 = .ok (.aload 5, 2) := by decide +kernel
theorem dX1_printRow_92 : decode cX1_printRow 92 = .ok (.iload 6, 2) := by decide +kernel
theorem dX1_printRow_94 : decode cX1_printRow 94 = .ok (.invokevirtual 120, 3) := by decide +kernel
theorem dX1_printRow_97 : decode cX1_printRow 97 = .ok (.aload_n 3, 1) := by decide +kernel
theorem dX1_printRow_98 : decode cX1_printRow 98 = .ok (.invokestatic 131, 3) := by decide +kernel
theorem dX1_printRow_101 : decode cX1_printRow 101 = .ok (.iinc 6 1, 3) := by decide +kernel
theorem dX1_printRow_104 : decode cX1_printRow 104 = .ok (.goto (-86), 3) := by decide +kernel
theorem dX1_printRow_107 : decode cX1_printRow 107 = .ok (.iload_n 2, 1) := by decide +kernel
theorem dX1_printRow_108 : decode cX1_printRow 108 = .ok (.ireturn, 1) := by decide +kernel
theorem dX1_printSpan_0 : decode cX1_printSpan 0 = .ok (.aload_n 0, 1) := by decide +kernel
theorem dX1_printSpan_1 : decode cX1_printSpan 1 = .ok (.aload_n 1, 1) := by decide +kernel
theorem dX1_printSpan_2 : decode cX1_printSpan 2 = .ok (.getfield 71, 3) := by decide +kernel
theorem dX1_printSpan_5 : decode cX1_printSpan 5 = .ok (.invokevirtual 101, 3) := by decide +kernel
theorem dX1_printSpan_8 : decode cX1_printSpan 8 = .ok (.astore 5, 2) := by decide +kernel
theorem dX1_printSpan_10 : decode cX1_printSpan 10 = .ok (.aload_n 3, 1) := by decide +kernel
theorem dX1_printSpan_11 : decode cX1_printSpan 11 = .ok (.bipush 91, 2) := by decide +kernel
theorem dX1_printSpan_13 : decode cX1_printSpan 13 = .ok (.invokevirtual 135, 3) := by decide +kernel
theorem dX1_printSpan_16 : decode cX1_printSpan 16 = .ok (.aload_n 1, 1) := by decide +kernel
theorem dX1_printSpan_17 : decode cX1_printSpan 17 = .ok (.getfield 74, 3) := by decide +kernel
theorem dX1_printSpan_20 : decode cX1_printSpan 20 = .ok (.istore 6, 2) := by decide +kernel
theorem dX1_printSpan_22 : decode cX1_printSpan 22 = .ok (.iload 6, 2) := by decide +kernel
theorem dX1_printSpan_24 : decode cX1_printSpan 24 = .ok (.aload_n 1, 1) := by decide +kernel
theorem dX1_printSpan_25 : decode cX1_printSpan 25 = .ok (.getfield 77, 3) := by decide +kernel
theorem dX1_printSpan_28 : decode cX1_printSpan 28 = .ok (.if_icmp .gt 30, 3) := by decide +kernel
theorem dX1_printSpan_31 : decode cX1_printSpan 31 = .ok (.iload 6, 2) := by decide +kernel
theorem dX1_printSpan_33 : decode cX1_printSpan 33 = .ok (.aload 5, 2) := by decide +kernel
theorem dX1_printSpan_35 : decode cX1_printSpan 35 = .ok (.invokevirtual 105, 3) := by decide +kernel
theorem dX1_printSpan_38 : decode cX1_printSpan 38 = .ok (.if_icmp .ge 20, 3) := by decide +kernel
theorem dX1_printSpan_41 : decode cX1_printSpan 41 = .ok (.aload 5, 2) := by decide +kernel
theorem dX1_printSpan_43 : decode cX1_printSpan 43 = .ok (.iload 6, 2) := by decide +kernel
theorem dX1_printSpan_45 : decode cX1_printSpan 45 = .ok (.invokevirtual 120, 3) := by decide +kernel
theorem dX1_printSpan_48 : decode cX1_printSpan 48 = .ok (.aload_n 3, 1) := by decide +kernel
theorem dX1_printSpan_49 : decode cX1_printSpan 49 = .ok (.invokestatic 131, 3) := by decide +kernel
theorem dX1_printSpan_52 : decode cX1_printSpan 52 = .ok (.iinc 6 1, 3) := by decide +kernel
theorem dX1_printSpan_55 : decode cX1_printSpan 55 = .ok (.goto (-33), 3) := by decide +kernel
theorem dX1_printSpan_58 : decode cX1_printSpan 58 = .ok (.iconst 0, 1) := by decide +kernel
theorem dX1_printSpan_59 : decode cX1_printSpan 59 = .ok (.istore 6, 2) := by decide +kernel
theorem dX1_printSpan_61 : decode cX1_printSpan 61 = .ok (.iload 6, 2) := by decide +kernel
theorem dX1_printSpan_63 : decode cX1_printSpan 63 = .ok (.bipush 20, 2) := by decide +kernel
theorem dX1_printSpan_65 : decode cX1_printSpan 65 = .ok (.if_icmp .ge 72, 3) := by decide +kernel
theorem dX1_printSpan_68 : decode cX1_printSpan 68 = .ok (.aload_n 0, 1) := by decide +kernel
theorem dX1_printSpan_69 : decode cX1_printSpan 69 = .ok (.iload_n 2, 1) := by decide +kernel
theorem dX1_printSpan_70 : decode cX1_printSpan 70 = .ok (.invokevirtual 58, 3) := by decide +kernel
theorem dX1_printSpan_73 : decode cX1_printSpan 73 = .ok (.astore 7, 2) := by decide +kernel
theorem dX1_printSpan_75 : decode cX1_printSpan 75 = .ok (.aload 7, 2) := by decide +kernel
theorem dX1_printSpan_77 : decode cX1_printSpan 77 = .ok (.ifnull 60, 3) := by decide +kernel
theorem dX1_printSpan_80 : decode cX1_printSpan 80 = .ok (.aload 7, 2) := by decide +kernel
theorem dX1_printSpan_82 : decode cX1_printSpan 82 = .ok (.aload_n 1, 1) := by decide +kernel
theorem dX1_printSpan_83 : decode cX1_printSpan 83 = .ok (.invokevirtual 84, 3) := by decide +kernel
theorem dX1_printSpan_86 : decode cX1_printSpan 86 = .ok (.ifCond .ne 6, 3) := by decide +kernel
theorem dX1_printSpan_89 : decode cX1_printSpan 89 = .ok (.goto 48, 3) := by decide +kernel
theorem dX1_printSpan_92 : decode cX1_printSpan 92 = .ok (.aload_n 3, 1) := by decide +kernel
theorem dX1_printSpan_93 : decode cX1_printSpan 93 = .ok (.bipush 124, 2) := by decide +kernel
theorem dX1_printSpan_95 : decode cX1_printSpan 95 = .ok (.invokevirtual 135, 3) := by decide +kernel
theorem dX1_printSpan_98 : decode cX1_printSpan 98 = .ok (.aload_n 3, 1) := by decide +kernel
theorem dX1_printSpan_99 : decode cX1_printSpan 99 = .ok (.aload 7, 2) := by decide +kernel
theorem dX1_printSpan_101 : decode cX1_printSpan 101 = .ok (.getfield 68, 3) := by decide +kernel
theorem dX1_printSpan_104 : decode cX1_printSpan 104 = .ok (.ifCond .ne 8, 3) := by decide +kernel
theorem dX1_printSpan_107 : decode cX1_printSpan 107 = .ok (.bipush 97, 2) := by decide +kernel
theorem dX1_printSpan_109 : decode cX1_printSpan 109 = .ok (.goto 5, 3) := by decide +kernel
theorem dX1_printSpan_112 : decode cX1_printSpan 112 = .ok (.bipush 98, 2) := by decide +kernel
theorem dX1_printSpan_114 : decode cX1_printSpan 114 = .ok (.invokevirtual 135, 3) := by decide +kernel
theorem dX1_printSpan_117 : decode cX1_printSpan 117 = .ok (.aload_n 0, 1) := by decide +kernel
theorem dX1_printSpan_118 : decode cX1_printSpan 118 = .ok (.iload_n 2, 1) := by decide +kernel
theorem dX1_printSpan_119 : decode cX1_printSpan 119 = .ok (.iload_n 2, 1) := by decide +kernel
theorem dX1_printSpan_120 : decode cX1_printSpan 120 = .ok (.iconst 1, 1) := by decide +kernel
theorem dX1_printSpan_121 : decode cX1_printSpan 121 = .ok (.iadd, 1) := by decide +kernel
theorem dX1_printSpan_122 : decode cX1_printSpan 122 = .ok (.aload_n 3, 1) := by decide +kernel
theorem dX1_printSpan_123 : decode cX1_printSpan 123 = .ok (.iload 4, 2) := by decide +kernel
theorem dX1_printSpan_125 : decode cX1_printSpan 125 = .ok (.iconst 1, 1) := by decide +kernel
theorem dX1_printSpan_126 : decode cX1_printSpan 126 = .ok (.iadd, 1) := by decide +kernel
theorem dX1_printSpan_127 : decode cX1_printSpan 127 = .ok (.invokevirtual 123, 3) := by decide +kernel
theorem dX1_printSpan_130 : decode cX1_printSpan 130 = .ok (.istore_n 2, 1) := by decide +kernel
theorem dX1_printSpan_131 : decode cX1_printSpan 131 = .ok (.iinc 6 1, 3) := by decide +kernel
theorem dX1_printSpan_134 : decode cX1_printSpan 134 = .ok (.goto (-73), 3) := by decide +kernel
theorem dX1_printSpan_137 : decode cX1_printSpan 137 = .ok (.aload_n 3, 1) := by decide +kernel
theorem dX1_printSpan_138 : decode cX1_printSpan 138 = .ok (.bipush 93, 2) := by decide +kernel
theorem dX1_printSpan_140 : decode cX1_printSpan 140 = .ok (.invokevirtual 135, 3) := by decide +kernel
theorem dX1_printSpan_143 : decode cX1_printSpan 143 = .ok (.iload_n 2, 1) := by decide +kernel
theorem dX1_printSpan_144 : decode cX1_printSpan 144 = .ok (.ireturn, 1) := by decide +kernel
theorem dX1_printNumber_0 : decode cX1_printNumber 0 = .ok (.aload_n 1, 1) := by decide +kernel
theorem dX1_printNumber_1 : decode cX1_printNumber 1 = .ok (.aload_n 1, 1) := by decide +kernel
theorem dX1_printNumber_2 : decode cX1_printNumber 2 = .ok (.invokevirtual 105, 3) := by decide +kernel
theorem dX1_printNumber_5 : decode cX1_printNumber 5 = .ok (.iconst 1, 1) := by decide +kernel
theorem dX1_printNumber_6 : decode cX1_printNumber 6 = .ok (.isub, 1) := by decide +kernel
theorem dX1_printNumber_7 : decode cX1_printNumber 7 = .ok (.invokevirtual 120, 3) := by decide +kernel
theorem dX1_printNumber_10 : decode cX1_printNumber 10 = .ok (.invokestatic 138, 3) := by decide +kernel
theorem dX1_printNumber_13 : decode cX1_printNumber 13 = .ok (.ifCond .eq 9, 3) := by decide +kernel
theorem dX1_printNumber_16 : decode cX1_printNumber 16 = .ok (.aload_n 1, 1) := by decide +kernel
theorem dX1_printNumber_17 : decode cX1_printNumber 17 = .ok (.bipush 32, 2) := by decide +kernel
theorem dX1_printNumber_19 : decode cX1_printNumber 19 = .ok (.invokevirtual 135, 3) := by decide +kernel
theorem dX1_printNumber_22 : decode cX1_printNumber 22 = .ok (.iload_n 0, 1) := by decide +kernel
theorem dX1_printNumber_23 : decode cX1_printNumber 23 = .ok (.bipush 10, 2) := by decide +kernel
theorem dX1_printNumber_25 : decode cX1_printNumber 25 = .ok (.if_icmp .lt 14, 3) := by decide +kernel
theorem dX1_printNumber_28 : decode cX1_printNumber 28 = .ok (.aload_n 1, 1) := by decide +kernel
theorem dX1_printNumber_29 : decode cX1_printNumber 29 = .ok (.bipush 48, 2) := by decide +kernel
theorem dX1_printNumber_31 : decode cX1_printNumber 31 = .ok (.iload_n 0, 1) := by decide +kernel
theorem dX1_printNumber_32 : decode cX1_printNumber 32 = .ok (.bipush 10, 2) := by decide +kernel
theorem dX1_printNumber_34 : decode cX1_printNumber 34 = .ok (.idiv, 1) := by decide +kernel
theorem dX1_printNumber_35 : decode cX1_printNumber 35 = .ok (.iadd, 1) := by decide +kernel
theorem dX1_printNumber_36 : decode cX1_printNumber 36 = .ok (.invokevirtual 135, 3) := by decide +kernel
theorem dX1_printNumber_39 : decode cX1_printNumber 39 = .ok (.aload_n 1, 1) := by decide +kernel
theorem dX1_printNumber_40 : decode cX1_printNumber 40 = .ok (.bipush 48, 2) := by decide +kernel
theorem dX1_printNumber_42 : decode cX1_printNumber 42 = .ok (.iload_n 0, 1) := by decide +kernel
theorem dX1_printNumber_43 : decode cX1_printNumber 43 = .ok (.bipush 10, 2) := by decide +kernel
theorem dX1_printNumber_45 : decode cX1_printNumber 45 = .ok (.irem, 1) := by decide +kernel
theorem dX1_printNumber_46 : decode cX1_printNumber 46 = .ok (.iadd, 1) := by decide +kernel
theorem dX1_printNumber_47 : decode cX1_printNumber 47 = .ok (.invokevirtual 135, 3) := by decide +kernel
theorem dX1_printNumber_50 : decode cX1_printNumber 50 = .ok (.return_, 1) := by decide +kernel
theorem dX1_explainersOf_0 : decode cX1_explainersOf 0 = .ok (.lconst 0, 1) := by decide +kernel
theorem dX1_explainersOf_1 : decode cX1_explainersOf 1 = .ok (.lstore_n 3, 1) := by decide +kernel
theorem dX1_explainersOf_2 : decode cX1_explainersOf 2 = .ok (.iconst 0, 1) := by decide +kernel
theorem dX1_explainersOf_3 : decode cX1_explainersOf 3 = .ok (.istore 5, 2) := by decide +kernel
theorem dX1_explainersOf_5 : decode cX1_explainersOf 5 = .ok (.iload 5, 2) := by decide +kernel
theorem dX1_explainersOf_7 : decode cX1_explainersOf 7 = .ok (.aload_n 0, 1) := by decide +kernel
theorem dX1_explainersOf_8 : decode cX1_explainersOf 8 = .ok (.getfield 35, 3) := by decide +kernel
theorem dX1_explainersOf_11 : decode cX1_explainersOf 11 = .ok (.if_icmp .ge 107, 3) := by decide +kernel
theorem dX1_explainersOf_14 : decode cX1_explainersOf 14 = .ok (.aload_n 0, 1) := by decide +kernel
theorem dX1_explainersOf_15 : decode cX1_explainersOf 15 = .ok (.iload 5, 2) := by decide +kernel
theorem dX1_explainersOf_17 : decode cX1_explainersOf 17 = .ok (.invokevirtual 58, 3) := by decide +kernel
theorem dX1_explainersOf_20 : decode cX1_explainersOf 20 = .ok (.astore 6, 2) := by decide +kernel
theorem dX1_explainersOf_22 : decode cX1_explainersOf 22 = .ok (.aload 6, 2) := by decide +kernel
theorem dX1_explainersOf_24 : decode cX1_explainersOf 24 = .ok (.ifnull 88, 3) := by decide +kernel
theorem dX1_explainersOf_27 : decode cX1_explainersOf 27 = .ok (.aload 6, 2) := by decide +kernel
theorem dX1_explainersOf_29 : decode cX1_explainersOf 29 = .ok (.invokevirtual 143, 3) := by decide +kernel
theorem dX1_explainersOf_32 : decode cX1_explainersOf 32 = .ok (.iconst 1, 1) := by decide +kernel
theorem dX1_explainersOf_33 : decode cX1_explainersOf 33 = .ok (.if_icmp .ne 79, 3) := by decide +kernel
theorem dX1_explainersOf_36 : decode cX1_explainersOf 36 = .ok (.aload 6, 2) := by decide +kernel
theorem dX1_explainersOf_38 : decode cX1_explainersOf 38 = .ok (.getfield 65, 3) := by decide +kernel
theorem dX1_explainersOf_41 : decode cX1_explainersOf 41 = .ok (.invokevirtual 105, 3) := by decide +kernel
theorem dX1_explainersOf_44 : decode cX1_explainersOf 44 = .ok (.iconst 1, 1) := by decide +kernel
theorem dX1_explainersOf_45 : decode cX1_explainersOf 45 = .ok (.if_icmp .ne 67, 3) := by decide +kernel
theorem dX1_explainersOf_48 : decode cX1_explainersOf 48 = .ok (.aload_n 0, 1) := by decide +kernel
theorem dX1_explainersOf_49 : decode cX1_explainersOf 49 = .ok (.aload 6, 2) := by decide +kernel
theorem dX1_explainersOf_51 : decode cX1_explainersOf 51 = .ok (.getfield 71, 3) := by decide +kernel
theorem dX1_explainersOf_54 : decode cX1_explainersOf 54 = .ok (.invokevirtual 101, 3) := by decide +kernel
theorem dX1_explainersOf_57 : decode cX1_explainersOf 57 = .ok (.aload 6, 2) := by decide +kernel
theorem dX1_explainersOf_59 : decode cX1_explainersOf 59 = .ok (.getfield 74, 3) := by decide +kernel
theorem dX1_explainersOf_62 : decode cX1_explainersOf 62 = .ok (.invokevirtual 120, 3) := by decide +kernel
theorem dX1_explainersOf_65 : decode cX1_explainersOf 65 = .ok (.istore 7, 2) := by decide +kernel
theorem dX1_explainersOf_67 : decode cX1_explainersOf 67 = .ok (.aload 6, 2) := by decide +kernel
theorem dX1_explainersOf_69 : decode cX1_explainersOf 69 = .ok (.getfield 65, 3) := by decide +kernel
theorem dX1_explainersOf_72 : decode cX1_explainersOf 72 = .ok (.iconst 0, 1) := by decide +kernel
theorem dX1_explainersOf_73 : decode cX1_explainersOf 73 = .ok (.invokevirtual 120, 3) := by decide +kernel
theorem dX1_explainersOf_76 : decode cX1_explainersOf 76 = .ok (.istore 8, 2) := by decide +kernel
theorem dX1_explainersOf_78 : decode cX1_explainersOf 78 = .ok (.iload 7, 2) := by decide +kernel
theorem dX1_explainersOf_80 : decode cX1_explainersOf 80 = .ok (.invokestatic 146, 3) := by decide +kernel
theorem dX1_explainersOf_83 : decode cX1_explainersOf 83 = .ok (.ifCond .eq 29, 3) := by decide +kernel
theorem dX1_explainersOf_86 : decode cX1_explainersOf 86 = .ok (.iload 8, 2) := by decide +kernel
theorem dX1_explainersOf_88 : decode cX1_explainersOf 88 = .ok (.invokestatic 146, 3) := by decide +kernel
theorem dX1_explainersOf_91 : decode cX1_explainersOf 91 = .ok (.ifCond .eq 21, 3) := by decide +kernel
theorem dX1_explainersOf_94 : decode cX1_explainersOf 94 = .ok (.lload_n 1, 1) := by decide +kernel
theorem dX1_explainersOf_95 : decode cX1_explainersOf 95 = .ok (.iload 7, 2) := by decide +kernel
theorem dX1_explainersOf_97 : decode cX1_explainersOf 97 = .ok (.lushr, 1) := by decide +kernel
theorem dX1_explainersOf_98 : decode cX1_explainersOf 98 = .ok (.lconst 1, 1) := by decide +kernel
theorem dX1_explainersOf_99 : decode cX1_explainersOf 99 = .ok (.land, 1) := by decide +kernel
theorem dX1_explainersOf_100 : decode cX1_explainersOf 100 = .ok (.lconst 1, 1) := by decide +kernel
theorem dX1_explainersOf_101 : decode cX1_explainersOf 101 = .ok (.lcmp, 1) := by decide +kernel
theorem dX1_explainersOf_102 : decode cX1_explainersOf 102 = .ok (.ifCond .ne 10, 3) := by decide +kernel
theorem dX1_explainersOf_105 : decode cX1_explainersOf 105 = .ok (.lload_n 3, 1) := by decide +kernel
theorem dX1_explainersOf_106 : decode cX1_explainersOf 106 = .ok (.lconst 1, 1) := by decide +kernel
theorem dX1_explainersOf_107 : decode cX1_explainersOf 107 = .ok (.iload 8, 2) := by decide +kernel
theorem dX1_explainersOf_109 : decode cX1_explainersOf 109 = .ok (.lshl, 1) := by decide +kernel
theorem dX1_explainersOf_110 : decode cX1_explainersOf 110 = .ok (.lor, 1) := by decide +kernel
theorem dX1_explainersOf_111 : decode cX1_explainersOf 111 = .ok (.lstore_n 3, 1) := by decide +kernel
theorem dX1_explainersOf_112 : decode cX1_explainersOf 112 = .ok (.iinc 5 1, 3) := by decide +kernel
theorem dX1_explainersOf_115 : decode cX1_explainersOf 115 = .ok (.goto (-110), 3) := by decide +kernel
theorem dX1_explainersOf_118 : decode cX1_explainersOf 118 = .ok (.lload_n 3, 1) := by decide +kernel
theorem dX1_explainersOf_119 : decode cX1_explainersOf 119 = .ok (.lreturn, 1) := by decide +kernel
theorem dX1_stepsBetween_0 : decode cX1_stepsBetween 0 = .ok (.lconst 0, 1) := by decide +kernel
theorem dX1_stepsBetween_1 : decode cX1_stepsBetween 1 = .ok (.lstore_n 3, 1) := by decide +kernel
theorem dX1_stepsBetween_2 : decode cX1_stepsBetween 2 = .ok (.lconst 1, 1) := by decide +kernel
theorem dX1_stepsBetween_3 : decode cX1_stepsBetween 3 = .ok (.iload_n 1, 1) := by decide +kernel
theorem dX1_stepsBetween_4 : decode cX1_stepsBetween 4 = .ok (.lshl, 1) := by decide +kernel
theorem dX1_stepsBetween_5 : decode cX1_stepsBetween 5 = .ok (.lstore 5, 2) := by decide +kernel
theorem dX1_stepsBetween_7 : decode cX1_stepsBetween 7 = .ok (.iconst 1, 1) := by decide +kernel
theorem dX1_stepsBetween_8 : decode cX1_stepsBetween 8 = .ok (.istore 7, 2) := by decide +kernel
theorem dX1_stepsBetween_10 : decode cX1_stepsBetween 10 = .ok (.iload 7, 2) := by decide +kernel
theorem dX1_stepsBetween_12 : decode cX1_stepsBetween 12 = .ok (.bipush 64, 2) := by decide +kernel
theorem dX1_stepsBetween_14 : decode cX1_stepsBetween 14 = .ok (.if_icmp .gt 49, 3) := by decide +kernel
theorem dX1_stepsBetween_17 : decode cX1_stepsBetween 17 = .ok (.lload 5, 2) := by decide +kernel
theorem dX1_stepsBetween_19 : decode cX1_stepsBetween 19 = .ok (.lconst 0, 1) := by decide +kernel
theorem dX1_stepsBetween_20 : decode cX1_stepsBetween 20 = .ok (.lcmp, 1) := by decide +kernel
theorem dX1_stepsBetween_21 : decode cX1_stepsBetween 21 = .ok (.ifCond .eq 42, 3) := by decide +kernel
theorem dX1_stepsBetween_24 : decode cX1_stepsBetween 24 = .ok (.aload_n 0, 1) := by decide +kernel
theorem dX1_stepsBetween_25 : decode cX1_stepsBetween 25 = .ok (.lload 5, 2) := by decide +kernel
theorem dX1_stepsBetween_27 : decode cX1_stepsBetween 27 = .ok (.invokevirtual 149, 3) := by decide +kernel
theorem dX1_stepsBetween_30 : decode cX1_stepsBetween 30 = .ok (.lload_n 3, 1) := by decide +kernel
theorem dX1_stepsBetween_31 : decode cX1_stepsBetween 31 = .ok (.ldc2_w 153, 3) := by decide +kernel
theorem dX1_stepsBetween_34 : decode cX1_stepsBetween 34 = .ok (.lxor, 1) := by decide +kernel
theorem dX1_stepsBetween_35 : decode cX1_stepsBetween 35 = .ok (.land, 1) := by decide +kernel
theorem dX1_stepsBetween_36 : decode cX1_stepsBetween 36 = .ok (.lstore 5, 2) := by decide +kernel
theorem dX1_stepsBetween_38 : decode cX1_stepsBetween 38 = .ok (.lload 5, 2) := by decide +kernel
theorem dX1_stepsBetween_40 : decode cX1_stepsBetween 40 = .ok (.iload_n 2, 1) := by decide +kernel
theorem dX1_stepsBetween_41 : decode cX1_stepsBetween 41 = .ok (.lushr, 1) := by decide +kernel
theorem dX1_stepsBetween_42 : decode cX1_stepsBetween 42 = .ok (.lconst 1, 1) := by decide +kernel
theorem dX1_stepsBetween_43 : decode cX1_stepsBetween 43 = .ok (.land, 1) := by decide +kernel
theorem dX1_stepsBetween_44 : decode cX1_stepsBetween 44 = .ok (.lconst 1, 1) := by decide +kernel
theorem dX1_stepsBetween_45 : decode cX1_stepsBetween 45 = .ok (.lcmp, 1) := by decide +kernel
theorem dX1_stepsBetween_46 : decode cX1_stepsBetween 46 = .ok (.ifCond .ne 6, 3) := by decide +kernel
theorem dX1_stepsBetween_49 : decode cX1_stepsBetween 49 = .ok (.iload 7, 2) := by decide +kernel
theorem dX1_stepsBetween_51 : decode cX1_stepsBetween 51 = .ok (.ireturn, 1) := by decide +kernel
theorem dX1_stepsBetween_52 : decode cX1_stepsBetween 52 = .ok (.lload_n 3, 1) := by decide +kernel
theorem dX1_stepsBetween_53 : decode cX1_stepsBetween 53 = .ok (.lload 5, 2) := by decide +kernel
theorem dX1_stepsBetween_55 : decode cX1_stepsBetween 55 = .ok (.lor, 1) := by decide +kernel
theorem dX1_stepsBetween_56 : decode cX1_stepsBetween 56 = .ok (.lstore_n 3, 1) := by decide +kernel
theorem dX1_stepsBetween_57 : decode cX1_stepsBetween 57 = .ok (.iinc 7 1, 3) := by decide +kernel
theorem dX1_stepsBetween_60 : decode cX1_stepsBetween 60 = .ok (.goto (-50), 3) := by decide +kernel
theorem dX1_stepsBetween_63 : decode cX1_stepsBetween 63 = .ok (.iconst (-1), 1) := by decide +kernel
theorem dX1_stepsBetween_64 : decode cX1_stepsBetween 64 = .ok (.ireturn, 1) := by decide +kernel
theorem dX2_init_0 : decode cX2_init 0 = .ok (.aload_n 0, 1) := by decide +kernel
theorem dX2_init_1 : decode cX2_init 1 = .ok (.invokespecial 3, 3) := by decide +kernel
theorem dX2_init_4 : decode cX2_init 4 = .ok (.aload_n 0, 1) := by decide +kernel
theorem dX2_init_5 : decode cX2_init 5 = .ok (.iconst 0, 1) := by decide +kernel
theorem dX2_init_6 : decode cX2_init 6 = .ok (.putfield 11, 3) := by decide +kernel
theorem dX2_init_9 : decode cX2_init 9 = .ok (.aload_n 0, 1) := by decide +kernel
theorem dX2_init_10 : decode cX2_init 10 = .ok (.iconst (-1), 1) := by decide +kernel
theorem dX2_init_11 : decode cX2_init 11 = .ok (.putfield 15, 3) := by decide +kernel
theorem dX2_init_14 : decode cX2_init 14 = .ok (.aload_n 0, 1) := by decide +kernel
theorem dX2_init_15 : decode cX2_init 15 = .ok (.iconst 0, 1) := by decide +kernel
theorem dX2_init_16 : decode cX2_init 16 = .ok (.putfield 18, 3) := by decide +kernel
theorem dX2_init_19 : decode cX2_init 19 = .ok (.return_, 1) := by decide +kernel
theorem dX2_readBook_0 : decode cX2_readBook 0 = .ok (.aload_n 1, 1) := by decide +kernel
theorem dX2_readBook_1 : decode cX2_readBook 1 = .ok (.invokevirtual 21, 3) := by decide +kernel
theorem dX2_readBook_4 : decode cX2_readBook 4 = .ok (.aload_n 2, 1) := by decide +kernel
theorem dX2_readBook_5 : decode cX2_readBook 5 = .ok (.invokevirtual 26, 3) := by decide +kernel
theorem dX2_readBook_8 : decode cX2_readBook 8 = .ok (.aload_n 0, 1) := by decide +kernel
theorem dX2_readBook_9 : decode cX2_readBook 9 = .ok (.iconst 0, 1) := by decide +kernel
theorem dX2_readBook_10 : decode cX2_readBook 10 = .ok (.putfield 11, 3) := by decide +kernel
theorem dX2_readBook_13 : decode cX2_readBook 13 = .ok (.aload_n 0, 1) := by decide +kernel
theorem dX2_readBook_14 : decode cX2_readBook 14 = .ok (.iconst (-1), 1) := by decide +kernel
theorem dX2_readBook_15 : decode cX2_readBook 15 = .ok (.putfield 15, 3) := by decide +kernel
theorem dX2_readBook_18 : decode cX2_readBook 18 = .ok (.iconst 1, 1) := by decide +kernel
theorem dX2_readBook_19 : decode cX2_readBook 19 = .ok (.istore_n 3, 1) := by decide +kernel
theorem dX2_readBook_20 : decode cX2_readBook 20 = .ok (.iconst 0, 1) := by decide +kernel
theorem dX2_readBook_21 : decode cX2_readBook 21 = .ok (.istore 4, 2) := by decide +kernel
theorem dX2_readBook_23 : decode cX2_readBook 23 = .ok (.iload 4, 2) := by decide +kernel
theorem dX2_readBook_25 : decode cX2_readBook 25 = .ok (.sipush 320, 3) := by decide +kernel
theorem dX2_readBook_28 : decode cX2_readBook 28 = .ok (.if_icmp .ge 53, 3) := by decide +kernel
theorem dX2_readBook_31 : decode cX2_readBook 31 = .ok (.iload_n 3, 1) := by decide +kernel
theorem dX2_readBook_32 : decode cX2_readBook 32 = .ok (.ifCond .eq 49, 3) := by decide +kernel
theorem dX2_readBook_35 : decode cX2_readBook 35 = .ok (.aload_n 1, 1) := by decide +kernel
theorem dX2_readBook_36 : decode cX2_readBook 36 = .ok (.invokevirtual 31, 3) := by decide +kernel
theorem dX2_readBook_39 : decode cX2_readBook 39 = .ok (.iconst (-1), 1) := by decide +kernel
theorem dX2_readBook_40 : decode cX2_readBook 40 = .ok (.if_icmp .eq 41, 3) := by decide +kernel
theorem dX2_readBook_43 : decode cX2_readBook 43 = .ok (.aload_n 1, 1) := by decide +kernel
theorem dX2_readBook_44 : decode cX2_readBook 44 = .ok (.invokevirtual 31, 3) := by decide +kernel
theorem dX2_readBook_47 : decode cX2_readBook 47 = .ok (.istore 5, 2) := by decide +kernel
theorem dX2_readBook_49 : decode cX2_readBook 49 = .ok (.iload 5, 2) := by decide +kernel
theorem dX2_readBook_51 : decode cX2_readBook 51 = .ok (.invokestatic 35, 3) := by decide +kernel
theorem dX2_readBook_54 : decode cX2_readBook 54 = .ok (.ifCond .eq 12, 3) := by decide +kernel
theorem dX2_readBook_57 : decode cX2_readBook 57 = .ok (.aload_n 0, 1) := by decide +kernel
theorem dX2_readBook_58 : decode cX2_readBook 58 = .ok (.aload_n 1, 1) := by decide +kernel
theorem dX2_readBook_59 : decode cX2_readBook 59 = .ok (.aload_n 2, 1) := by decide +kernel
theorem dX2_readBook_60 : decode cX2_readBook 60 = .ok (.invokevirtual 39, 3) := by decide +kernel
theorem dX2_readBook_63 : decode cX2_readBook 63 = .ok (.goto 11, 3) := by decide +kernel
theorem dX2_readBook_66 : decode cX2_readBook 66 = .ok (.aload_n 0, 1) := by decide +kernel
theorem dX2_readBook_67 : decode cX2_readBook 67 = .ok (.iload 5, 2) := by decide +kernel
theorem dX2_readBook_69 : decode cX2_readBook 69 = .ok (.aload_n 1, 1) := by decide +kernel
theorem dX2_readBook_70 : decode cX2_readBook 70 = .ok (.aload_n 2, 1) := by decide +kernel
theorem dX2_readBook_71 : decode cX2_readBook 71 = .ok (.invokevirtual 43, 3) := by decide +kernel
theorem dX2_readBook_74 : decode cX2_readBook 74 = .ok (.istore_n 3, 1) := by decide +kernel
theorem dX2_readBook_75 : decode cX2_readBook 75 = .ok (.iinc 4 1, 3) := by decide +kernel
theorem dX2_readBook_78 : decode cX2_readBook 78 = .ok (.goto (-55), 3) := by decide +kernel
theorem dX2_readBook_81 : decode cX2_readBook 81 = .ok (.iload_n 3, 1) := by decide +kernel
theorem dX2_readBook_82 : decode cX2_readBook 82 = .ok (.ifCond .eq 28, 3) := by decide +kernel
theorem dX2_readBook_85 : decode cX2_readBook 85 = .ok (.aload_n 0, 1) := by decide +kernel
theorem dX2_readBook_86 : decode cX2_readBook 86 = .ok (.getfield 11, 3) := by decide +kernel
theorem dX2_readBook_89 : decode cX2_readBook 89 = .ok (.ifCond .ne 11, 3) := by decide +kernel
theorem dX2_readBook_92 : decode cX2_readBook 92 = .ok (.aload_n 0, 1) := by decide +kernel
theorem dX2_readBook_93 : decode cX2_readBook 93 = .ok (.getfield 15, 3) := by decide +kernel
theorem dX2_readBook_96 : decode cX2_readBook 96 = .ok (.iconst (-1), 1) := by decide +kernel
theorem dX2_readBook_97 : decode cX2_readBook 97 = .ok (.if_icmp .eq 13, 3) := by decide +kernel
theorem dX2_readBook_100 : decode cX2_readBook 100 = .ok (.aload_n 1, 1) := by decide +kernel
theorem dX2_readBook_101 : decode cX2_readBook 101 = .ok (.iconst 1, 1) := by decide +kernel
theorem dX2_readBook_102 : decode cX2_readBook 102 = .ok (.aload_n 1, 1) := by decide +kernel
theorem dX2_readBook_103 : decode cX2_readBook 103 = .ok (.getfield 47, 3) := by decide +kernel
theorem dX2_readBook_106 : decode cX2_readBook 106 = .ok (.invokevirtual 50, 3) := by decide +kernel
theorem dX2_readBook_109 : decode cX2_readBook 109 = .ok (.pop, 1) := by decide +kernel
theorem dX2_readBook_110 : decode cX2_readBook 110 = .ok (.return_, 1) := by decide +kernel
theorem dX2_readWord_0 : decode cX2_readWord 0 = .ok (.aload_n 0, 1) := by decide +kernel
theorem dX2_readWord_1 : decode cX2_readWord 1 = .ok (.getfield 11, 3) := by decide +kernel
theorem dX2_readWord_4 : decode cX2_readWord 4 = .ok (.iconst 4, 1) := by decide +kernel
theorem dX2_readWord_5 : decode cX2_readWord 5 = .ok (.if_icmp .ne 13, 3) := by decide +kernel
theorem dX2_readWord_8 : decode cX2_readWord 8 = .ok (.aload_n 1, 1) := by decide +kernel
theorem dX2_readWord_9 : decode cX2_readWord 9 = .ok (.iconst 1, 1) := by decide +kernel
theorem dX2_readWord_10 : decode cX2_readWord 10 = .ok (.aload_n 1, 1) := by decide +kernel
theorem dX2_readWord_11 : decode cX2_readWord 11 = .ok (.getfield 47, 3) := by decide +kernel
theorem dX2_readWord_14 : decode cX2_readWord 14 = .ok (.invokevirtual 50, 3) := by decide +kernel
theorem dX2_readWord_17 : decode cX2_readWord 17 = .ok (.ireturn, 1) := by decide +kernel
theorem dX2_readWord_18 : decode cX2_readWord 18 = .ok (.aload_n 1, 1) := by decide +kernel
theorem dX2_readWord_19 : decode cX2_readWord 19 = .ok (.iconst 0, 1) := by decide +kernel
theorem dX2_readWord_20 : decode cX2_readWord 20 = .ok (.bipush 63, 2) := by decide +kernel
theorem dX2_readWord_22 : decode cX2_readWord 22 = .ok (.invokevirtual 54, 3) := by decide +kernel
theorem dX2_readWord_25 : decode cX2_readWord 25 = .ok (.istore_n 3, 1) := by decide +kernel
theorem dX2_readWord_26 : decode cX2_readWord 26 = .ok (.iload_n 3, 1) := by decide +kernel
theorem dX2_readWord_27 : decode cX2_readWord 27 = .ok (.iconst (-1), 1) := by decide +kernel
theorem dX2_readWord_28 : decode cX2_readWord 28 = .ok (.if_icmp .ne 5, 3) := by decide +kernel
theorem dX2_readWord_31 : decode cX2_readWord 31 = .ok (.iconst 0, 1) := by decide +kernel
theorem dX2_readWord_32 : decode cX2_readWord 32 = .ok (.ireturn, 1) := by decide +kernel
theorem dX2_readWord_33 : decode cX2_readWord 33 = .ok (.aload_n 2, 1) := by decide +kernel
theorem dX2_readWord_34 : decode cX2_readWord 34 = .ok (.aload_n 0, 1) := by decide +kernel
theorem dX2_readWord_35 : decode cX2_readWord 35 = .ok (.getfield 15, 3) := by decide +kernel
theorem dX2_readWord_38 : decode cX2_readWord 38 = .ok (.invokevirtual 58, 3) := by decide +kernel
theorem dX2_readWord_41 : decode cX2_readWord 41 = .ok (.astore 4, 2) := by decide +kernel
theorem dX2_readWord_43 : decode cX2_readWord 43 = .ok (.aload 4, 2) := by decide +kernel
theorem dX2_readWord_45 : decode cX2_readWord 45 = .ok (.invokevirtual 62, 3) := by decide +kernel
theorem dX2_readWord_48 : decode cX2_readWord 48 = .ok (.aload_n 2, 1) := by decide +kernel
theorem dX2_readWord_49 : decode cX2_readWord 49 = .ok (.aload_n 0, 1) := by decide +kernel
theorem dX2_readWord_50 : decode cX2_readWord 50 = .ok (.getfield 15, 3) := by decide +kernel
theorem dX2_readWord_53 : decode cX2_readWord 53 = .ok (.invokevirtual 67, 3) := by decide +kernel
theorem dX2_readWord_56 : decode cX2_readWord 56 = .ok (.invokestatic 71, 3) := by decide +kernel
theorem dX2_readWord_59 : decode cX2_readWord 59 = .ok (.if_icmp .lt 13, 3) := by decide +kernel
theorem dX2_readWord_62 : decode cX2_readWord 62 = .ok (.aload_n 1, 1) := by decide +kernel
theorem dX2_readWord_63 : decode cX2_readWord 63 = .ok (.iconst 3, 1) := by decide +kernel
theorem dX2_readWord_64 : decode cX2_readWord 64 = .ok (.aload_n 1, 1) := by decide +kernel
theorem dX2_readWord_65 : decode cX2_readWord 65 = .ok (.getfield 75, 3) := by decide +kernel
theorem dX2_readWord_68 : decode cX2_readWord 68 = .ok (.invokevirtual 50, 3) := by decide +kernel
theorem dX2_readWord_71 : decode cX2_readWord 71 = .ok (.ireturn, 1) := by decide +kernel
theorem dX2_readWord_72 : decode cX2_readWord 72 = .ok (.aload 4, 2) := by decide +kernel
theorem dX2_readWord_74 : decode cX2_readWord 74 = .ok (.iload_n 3, 1) := by decide +kernel
theorem dX2_readWord_75 : decode cX2_readWord 75 = .ok (.invokevirtual 78, 3) := by decide +kernel
theorem dX2_readWord_78 : decode cX2_readWord 78 = .ok (.aload_n 0, 1) := by decide +kernel
theorem dX2_readWord_79 : decode cX2_readWord 79 = .ok (.aload_n 0, 1) := by decide +kernel
theorem dX2_readWord_80 : decode cX2_readWord 80 = .ok (.getfield 11, 3) := by decide +kernel
theorem dX2_readWord_83 : decode cX2_readWord 83 = .ok (.iconst 2, 1) := by decide +kernel
theorem dX2_readWord_84 : decode cX2_readWord 84 = .ok (.if_icmp .eq 11, 3) := by decide +kernel
theorem dX2_readWord_87 : decode cX2_readWord 87 = .ok (.aload_n 0, 1) := by decide +kernel
theorem dX2_readWord_88 : decode cX2_readWord 88 = .ok (.getfield 11, 3) := by decide +kernel
theorem dX2_readWord_91 : decode cX2_readWord 91 = .ok (.iconst 3, 1) := by decide +kernel
theorem dX2_readWord_92 : decode cX2_readWord 92 = .ok (.if_icmp .ne 7, 3) := by decide +kernel
theorem dX2_readWord_95 : decode cX2_readWord 95 = .ok (.iconst 3, 1) := by decide +kernel
theorem dX2_readWord_96 : decode cX2_readWord 96 = .ok (.goto 4, 3) := by decide +kernel
theorem dX2_readWord_99 : decode cX2_readWord 99 = .ok (.iconst 0, 1) := by decide +kernel
theorem dX2_readWord_100 : decode cX2_readWord 100 = .ok (.putfield 11, 3) := by decide +kernel
theorem dX2_readWord_103 : decode cX2_readWord 103 = .ok (.iconst 1, 1) := by decide +kernel
theorem dX2_readWord_104 : decode cX2_readWord 104 = .ok (.ireturn, 1) := by decide +kernel
theorem dX2_roomOf_0 : decode cX2_roomOf 0 = .ok (.aload_n 0, 1) := by decide +kernel
theorem dX2_roomOf_1 : decode cX2_roomOf 1 = .ok (.ifnonnull 6, 3) := by decide +kernel
theorem dX2_roomOf_4 : decode cX2_roomOf 4 = .ok (.bipush 40, 2) := by decide +kernel
theorem dX2_roomOf_6 : decode cX2_roomOf 6 = .ok (.ireturn, 1) := by decide +kernel
theorem dX2_roomOf_7 : decode cX2_roomOf 7 = .ok (.aload_n 0, 1) := by decide +kernel
theorem dX2_roomOf_8 : decode cX2_roomOf 8 = .ok (.getfield 82, 3) := by decide +kernel
theorem dX2_roomOf_11 : decode cX2_roomOf 11 = .ok (.ifCond .ne 7, 3) := by decide +kernel
theorem dX2_roomOf_14 : decode cX2_roomOf 14 = .ok (.iconst 4, 1) := by decide +kernel
theorem dX2_roomOf_15 : decode cX2_roomOf 15 = .ok (.goto 5, 3) := by decide +kernel
theorem dX2_roomOf_18 : decode cX2_roomOf 18 = .ok (.bipush 8, 2) := by decide +kernel
theorem dX2_roomOf_20 : decode cX2_roomOf 20 = .ok (.ireturn, 1) := by decide +kernel
theorem dX2_readSign_0 : decode cX2_readSign 0 = .ok (.iload_n 1, 1) := by decide +kernel
theorem dX2_readSign_1 : decode cX2_readSign 1 = .ok (.lookupswitch 108 #[(91, 51), (93, 73), (97, 84), (98, 96), (124, 62)], 51) := by decide +kernel
theorem dX2_readSign_52 : decode cX2_readSign 52 = .ok (.aload_n 0, 1) := by decide +kernel
theorem dX2_readSign_53 : decode cX2_readSign 53 = .ok (.aload_n 2, 1) := by decide +kernel
theorem dX2_readSign_54 : decode cX2_readSign 54 = .ok (.aload_n 3, 1) := by decide +kernel
theorem dX2_readSign_55 : decode cX2_readSign 55 = .ok (.invokevirtual 87, 3) := by decide +kernel
theorem dX2_readSign_58 : decode cX2_readSign 58 = .ok (.istore 4, 2) := by decide +kernel
theorem dX2_readSign_60 : decode cX2_readSign 60 = .ok (.goto 60, 3) := by decide +kernel
theorem dX2_readSign_63 : decode cX2_readSign 63 = .ok (.aload_n 0, 1) := by decide +kernel
theorem dX2_readSign_64 : decode cX2_readSign 64 = .ok (.aload_n 2, 1) := by decide +kernel
theorem dX2_readSign_65 : decode cX2_readSign 65 = .ok (.aload_n 3, 1) := by decide +kernel
theorem dX2_readSign_66 : decode cX2_readSign 66 = .ok (.invokevirtual 90, 3) := by decide +kernel
theorem dX2_readSign_69 : decode cX2_readSign 69 = .ok (.istore 4, 2) := by decide +kernel
theorem dX2_readSign_71 : decode cX2_readSign 71 = .ok (.goto 49, 3) := by decide +kernel
theorem dX2_readSign_74 : decode cX2_readSign 74 = .ok (.aload_n 0, 1) := by decide +kernel
theorem dX2_readSign_75 : decode cX2_readSign 75 = .ok (.aload_n 2, 1) := by decide +kernel
theorem dX2_readSign_76 : decode cX2_readSign 76 = .ok (.aload_n 3, 1) := by decide +kernel
theorem dX2_readSign_77 : decode cX2_readSign 77 = .ok (.invokevirtual 93, 3) := by decide +kernel
theorem dX2_readSign_80 : decode cX2_readSign 80 = .ok (.istore 4, 2) := by decide +kernel
theorem dX2_readSign_82 : decode cX2_readSign 82 = .ok (.goto 38, 3) := by decide +kernel
theorem dX2_readSign_85 : decode cX2_readSign 85 = .ok (.aload_n 0, 1) := by decide +kernel
theorem dX2_readSign_86 : decode cX2_readSign 86 = .ok (.iconst 0, 1) := by decide +kernel
theorem dX2_readSign_87 : decode cX2_readSign 87 = .ok (.aload_n 2, 1) := by decide +kernel
theorem dX2_readSign_88 : decode cX2_readSign 88 = .ok (.aload_n 3, 1) := by decide +kernel
theorem dX2_readSign_89 : decode cX2_readSign 89 = .ok (.invokevirtual 96, 3) := by decide +kernel
theorem dX2_readSign_92 : decode cX2_readSign 92 = .ok (.istore 4, 2) := by decide +kernel
theorem dX2_readSign_94 : decode cX2_readSign 94 = .ok (.goto 26, 3) := by decide +kernel
theorem dX2_readSign_97 : decode cX2_readSign 97 = .ok (.aload_n 0, 1) := by decide +kernel
theorem dX2_readSign_98 : decode cX2_readSign 98 = .ok (.iconst 1, 1) := by decide +kernel
theorem dX2_readSign_99 : decode cX2_readSign 99 = .ok (.aload_n 2, 1) := by decide +kernel
theorem dX2_readSign_100 : decode cX2_readSign 100 = .ok (.aload_n 3, 1) := by decide +kernel
theorem dX2_readSign_101 : decode cX2_readSign 101 = .ok (.invokevirtual 96, 3) := by decide +kernel
theorem dX2_readSign_104 : decode cX2_readSign 104 = .ok (.istore 4, 2) := by decide +kernel
theorem dX2_readSign_106 : decode cX2_readSign 106 = .ok (.goto 14, 3) := by decide +kernel
theorem dX2_readSign_109 : decode cX2_readSign 109 = .ok (.aload_n 2, 1) := by decide +kernel
theorem dX2_readSign_110 : decode cX2_readSign 110 = .ok (.iconst 1, 1) := by decide +kernel
theorem dX2_readSign_111 : decode cX2_readSign 111 = .ok (.aload_n 2, 1) := by decide +kernel
theorem dX2_readSign_112 : decode cX2_readSign 112 = .ok (.getfield 47, 3) := by decide +kernel
theorem dX2_readSign_115 : decode cX2_readSign 115 = .ok (.invokevirtual 50, 3) := by decide +kernel
theorem dX2_readSign_118 : decode cX2_readSign 118 = .ok (.istore 4, 2) := by decide +kernel
theorem dX2_readSign_120 : decode cX2_readSign 120 = .ok (.iload 4, 2) := by decide +kernel
theorem dX2_readSign_122 : decode cX2_readSign 122 = .ok (.ifCond .eq 15, 3) := by decide +kernel
theorem dX2_readSign_125 : decode cX2_readSign 125 = .ok (.aload_n 2, 1) := by decide +kernel
theorem dX2_readSign_126 : decode cX2_readSign 126 = .ok (.iload_n 1, 1) := by decide +kernel
theorem dX2_readSign_127 : decode cX2_readSign 127 = .ok (.invokevirtual 99, 3) := by decide +kernel
theorem dX2_readSign_130 : decode cX2_readSign 130 = .ok (.ifCond .eq 7, 3) := by decide +kernel
theorem dX2_readSign_133 : decode cX2_readSign 133 = .ok (.iconst 1, 1) := by decide +kernel
theorem dX2_readSign_134 : decode cX2_readSign 134 = .ok (.goto 4, 3) := by decide +kernel
theorem dX2_readSign_137 : decode cX2_readSign 137 = .ok (.iconst 0, 1) := by decide +kernel
theorem dX2_readSign_138 : decode cX2_readSign 138 = .ok (.ireturn, 1) := by decide +kernel
theorem dX2_openSpan_0 : decode cX2_openSpan 0 = .ok (.aload_n 0, 1) := by decide +kernel
theorem dX2_openSpan_1 : decode cX2_openSpan 1 = .ok (.getfield 11, 3) := by decide +kernel
theorem dX2_openSpan_4 : decode cX2_openSpan 4 = .ok (.ifCond .eq 21, 3) := by decide +kernel
theorem dX2_openSpan_7 : decode cX2_openSpan 7 = .ok (.aload_n 0, 1) := by decide +kernel
theorem dX2_openSpan_8 : decode cX2_openSpan 8 = .ok (.getfield 11, 3) := by decide +kernel
theorem dX2_openSpan_11 : decode cX2_openSpan 11 = .ok (.iconst 1, 1) := by decide +kernel
theorem dX2_openSpan_12 : decode cX2_openSpan 12 = .ok (.if_icmp .eq 13, 3) := by decide +kernel
theorem dX2_openSpan_15 : decode cX2_openSpan 15 = .ok (.aload_n 1, 1) := by decide +kernel
theorem dX2_openSpan_16 : decode cX2_openSpan 16 = .ok (.iconst 1, 1) := by decide +kernel
theorem dX2_openSpan_17 : decode cX2_openSpan 17 = .ok (.aload_n 1, 1) := by decide +kernel
theorem dX2_openSpan_18 : decode cX2_openSpan 18 = .ok (.getfield 47, 3) := by decide +kernel
theorem dX2_openSpan_21 : decode cX2_openSpan 21 = .ok (.invokevirtual 50, 3) := by decide +kernel
theorem dX2_openSpan_24 : decode cX2_openSpan 24 = .ok (.ireturn, 1) := by decide +kernel
theorem dX2_openSpan_25 : decode cX2_openSpan 25 = .ok (.aload_n 0, 1) := by decide +kernel
theorem dX2_openSpan_26 : decode cX2_openSpan 26 = .ok (.aload_n 2, 1) := by decide +kernel
theorem dX2_openSpan_27 : decode cX2_openSpan 27 = .ok (.aload_n 0, 1) := by decide +kernel
theorem dX2_openSpan_28 : decode cX2_openSpan 28 = .ok (.getfield 15, 3) := by decide +kernel
theorem dX2_openSpan_31 : decode cX2_openSpan 31 = .ok (.invokevirtual 58, 3) := by decide +kernel
theorem dX2_openSpan_34 : decode cX2_openSpan 34 = .ok (.invokevirtual 62, 3) := by decide +kernel
theorem dX2_openSpan_37 : decode cX2_openSpan 37 = .ok (.putfield 18, 3) := by decide +kernel
theorem dX2_openSpan_40 : decode cX2_openSpan 40 = .ok (.aload_n 0, 1) := by decide +kernel
theorem dX2_openSpan_41 : decode cX2_openSpan 41 = .ok (.iconst 2, 1) := by decide +kernel
theorem dX2_openSpan_42 : decode cX2_openSpan 42 = .ok (.putfield 11, 3) := by decide +kernel
theorem dX2_openSpan_45 : decode cX2_openSpan 45 = .ok (.iconst 1, 1) := by decide +kernel
theorem dX2_openSpan_46 : decode cX2_openSpan 46 = .ok (.ireturn, 1) := by decide +kernel
theorem dX2_openGloss_0 : decode cX2_openGloss 0 = .ok (.aload_n 0, 1) := by decide +kernel
theorem dX2_openGloss_1 : decode cX2_openGloss 1 = .ok (.getfield 11, 3) := by decide +kernel
theorem dX2_openGloss_4 : decode cX2_openGloss 4 = .ok (.ifCond .ne 14, 3) := by decide +kernel
theorem dX2_openGloss_7 : decode cX2_openGloss 7 = .ok (.aload_n 2, 1) := by decide +kernel
theorem dX2_openGloss_8 : decode cX2_openGloss 8 = .ok (.aload_n 0, 1) := by decide +kernel
theorem dX2_openGloss_9 : decode cX2_openGloss 9 = .ok (.getfield 15, 3) := by decide +kernel
theorem dX2_openGloss_12 : decode cX2_openGloss 12 = .ok (.invokevirtual 67, 3) := by decide +kernel
theorem dX2_openGloss_15 : decode cX2_openGloss 15 = .ok (.goto 4, 3) := by decide +kernel
theorem dX2_openGloss_18 : decode cX2_openGloss 18 = .ok (.aconst_null, 1) := by decide +kernel
theorem dX2_openGloss_19 : decode cX2_openGloss 19 = .ok (.astore_n 3, 1) := by decide +kernel
theorem dX2_openGloss_20 : decode cX2_openGloss 20 = .ok (.aload_n 3, 1) := by decide +kernel
theorem dX2_openGloss_21 : decode cX2_openGloss 21 = .ok (.ifnonnull 21, 3) := by decide +kernel
theorem dX2_openGloss_24 : decode cX2_openGloss 24 = .ok (.aload_n 0, 1) := by decide +kernel
theorem dX2_openGloss_25 : decode cX2_openGloss 25 = .ok (.getfield 11, 3) := by decide +kernel
theorem dX2_openGloss_28 : decode cX2_openGloss 28 = .ok (.iconst 3, 1) := by decide +kernel
theorem dX2_openGloss_29 : decode cX2_openGloss 29 = .ok (.if_icmp .eq 13, 3) := by decide +kernel
theorem dX2_openGloss_32 : decode cX2_openGloss 32 = .ok (.aload_n 1, 1) := by decide +kernel
theorem dX2_openGloss_33 : decode cX2_openGloss 33 = .ok (.iconst 1, 1) := by decide +kernel
theorem dX2_openGloss_34 : decode cX2_openGloss 34 = .ok (.aload_n 1, 1) := by decide +kernel
theorem dX2_openGloss_35 : decode cX2_openGloss 35 = .ok (.getfield 47, 3) := by decide +kernel
theorem dX2_openGloss_38 : decode cX2_openGloss 38 = .ok (.invokevirtual 50, 3) := by decide +kernel
theorem dX2_openGloss_41 : decode cX2_openGloss 41 = .ok (.ireturn, 1) := by decide +kernel
theorem dX2_openGloss_42 : decode cX2_openGloss 42 = .ok (.aload_n 2, 1) := by decide +kernel
theorem dX2_openGloss_43 : decode cX2_openGloss 43 = .ok (.getfield 102, 3) := by decide +kernel
theorem dX2_openGloss_46 : decode cX2_openGloss 46 = .ok (.bipush 20, 2) := by decide +kernel
theorem dX2_openGloss_48 : decode cX2_openGloss 48 = .ok (.if_icmp .lt 13, 3) := by decide +kernel
theorem dX2_openGloss_51 : decode cX2_openGloss 51 = .ok (.aload_n 1, 1) := by decide +kernel
theorem dX2_openGloss_52 : decode cX2_openGloss 52 = .ok (.iconst 4, 1) := by decide +kernel
theorem dX2_openGloss_53 : decode cX2_openGloss 53 = .ok (.aload_n 1, 1) := by decide +kernel
theorem dX2_openGloss_54 : decode cX2_openGloss 54 = .ok (.getfield 47, 3) := by decide +kernel
theorem dX2_openGloss_57 : decode cX2_openGloss 57 = .ok (.invokevirtual 50, 3) := by decide +kernel
theorem dX2_openGloss_60 : decode cX2_openGloss 60 = .ok (.ireturn, 1) := by decide +kernel
theorem dX2_openGloss_61 : decode cX2_openGloss 61 = .ok (.aload_n 3, 1) := by decide +kernel
theorem dX2_openGloss_62 : decode cX2_openGloss 62 = .ok (.ifnonnull 10, 3) := by decide +kernel
theorem dX2_openGloss_65 : decode cX2_openGloss 65 = .ok (.aload_n 0, 1) := by decide +kernel
theorem dX2_openGloss_66 : decode cX2_openGloss 66 = .ok (.getfield 15, 3) := by decide +kernel
theorem dX2_openGloss_69 : decode cX2_openGloss 69 = .ok (.goto 7, 3) := by decide +kernel
theorem dX2_openGloss_72 : decode cX2_openGloss 72 = .ok (.aload_n 3, 1) := by decide +kernel
theorem dX2_openGloss_73 : decode cX2_openGloss 73 = .ok (.getfield 105, 3) := by decide +kernel
theorem dX2_openGloss_76 : decode cX2_openGloss 76 = .ok (.istore 4, 2) := by decide +kernel
theorem dX2_openGloss_78 : decode cX2_openGloss 78 = .ok (.aload_n 2, 1) := by decide +kernel
theorem dX2_openGloss_79 : decode cX2_openGloss 79 = .ok (.iload 4, 2) := by decide +kernel
theorem dX2_openGloss_81 : decode cX2_openGloss 81 = .ok (.invokevirtual 108, 3) := by decide +kernel
theorem dX2_openGloss_84 : decode cX2_openGloss 84 = .ok (.iconst 4, 1) := by decide +kernel
theorem dX2_openGloss_85 : decode cX2_openGloss 85 = .ok (.if_icmp .lt 13, 3) := by decide +kernel
theorem dX2_openGloss_88 : decode cX2_openGloss 88 = .ok (.aload_n 1, 1) := by decide +kernel
theorem dX2_openGloss_89 : decode cX2_openGloss 89 = .ok (.iconst 5, 1) := by decide +kernel
theorem dX2_openGloss_90 : decode cX2_openGloss 90 = .ok (.aload_n 1, 1) := by decide +kernel
theorem dX2_openGloss_91 : decode cX2_openGloss 91 = .ok (.getfield 47, 3) := by decide +kernel
theorem dX2_openGloss_94 : decode cX2_openGloss 94 = .ok (.invokevirtual 50, 3) := by decide +kernel
theorem dX2_openGloss_97 : decode cX2_openGloss 97 = .ok (.ireturn, 1) := by decide +kernel
theorem dX2_openGloss_98 : decode cX2_openGloss 98 = .ok (.aload_n 3, 1) := by decide +kernel
theorem dX2_openGloss_99 : decode cX2_openGloss 99 = .ok (.ifnonnull 10, 3) := by decide +kernel
theorem dX2_openGloss_102 : decode cX2_openGloss 102 = .ok (.aload_n 0, 1) := by decide +kernel
theorem dX2_openGloss_103 : decode cX2_openGloss 103 = .ok (.getfield 18, 3) := by decide +kernel
theorem dX2_openGloss_106 : decode cX2_openGloss 106 = .ok (.goto 7, 3) := by decide +kernel
theorem dX2_openGloss_109 : decode cX2_openGloss 109 = .ok (.aload_n 3, 1) := by decide +kernel
theorem dX2_openGloss_110 : decode cX2_openGloss 110 = .ok (.getfield 112, 3) := by decide +kernel
theorem dX2_openGloss_113 : decode cX2_openGloss 113 = .ok (.istore 5, 2) := by decide +kernel
theorem dX2_openGloss_115 : decode cX2_openGloss 115 = .ok (.aload_n 3, 1) := by decide +kernel
theorem dX2_openGloss_116 : decode cX2_openGloss 116 = .ok (.ifnonnull 17, 3) := by decide +kernel
theorem dX2_openGloss_119 : decode cX2_openGloss 119 = .ok (.aload_n 2, 1) := by decide +kernel
theorem dX2_openGloss_120 : decode cX2_openGloss 120 = .ok (.iload 4, 2) := by decide +kernel
theorem dX2_openGloss_122 : decode cX2_openGloss 122 = .ok (.invokevirtual 58, 3) := by decide +kernel
theorem dX2_openGloss_125 : decode cX2_openGloss 125 = .ok (.invokevirtual 62, 3) := by decide +kernel
theorem dX2_openGloss_128 : decode cX2_openGloss 128 = .ok (.iconst 1, 1) := by decide +kernel
theorem dX2_openGloss_129 : decode cX2_openGloss 129 = .ok (.isub, 1) := by decide +kernel
theorem dX2_openGloss_130 : decode cX2_openGloss 130 = .ok (.goto 7, 3) := by decide +kernel
theorem dX2_openGloss_133 : decode cX2_openGloss 133 = .ok (.aload_n 3, 1) := by decide +kernel
theorem dX2_openGloss_134 : decode cX2_openGloss 134 = .ok (.getfield 115, 3) := by decide +kernel
theorem dX2_openGloss_137 : decode cX2_openGloss 137 = .ok (.istore 6, 2) := by decide +kernel
theorem dX2_openGloss_139 : decode cX2_openGloss 139 = .ok (.aload_n 0, 1) := by decide +kernel
theorem dX2_openGloss_140 : decode cX2_openGloss 140 = .ok (.aload_n 2, 1) := by decide +kernel
theorem dX2_openGloss_141 : decode cX2_openGloss 141 = .ok (.iload 4, 2) := by decide +kernel
theorem dX2_openGloss_143 : decode cX2_openGloss 143 = .ok (.iload 5, 2) := by decide +kernel
theorem dX2_openGloss_145 : decode cX2_openGloss 145 = .ok (.iload 6, 2) := by decide +kernel
theorem dX2_openGloss_147 : decode cX2_openGloss 147 = .ok (.invokevirtual 118, 3) := by decide +kernel
theorem dX2_openGloss_150 : decode cX2_openGloss 150 = .ok (.putfield 15, 3) := by decide +kernel
theorem dX2_openGloss_153 : decode cX2_openGloss 153 = .ok (.aload_n 0, 1) := by decide +kernel
theorem dX2_openGloss_154 : decode cX2_openGloss 154 = .ok (.iconst 4, 1) := by decide +kernel
theorem dX2_openGloss_155 : decode cX2_openGloss 155 = .ok (.putfield 11, 3) := by decide +kernel
theorem dX2_openGloss_158 : decode cX2_openGloss 158 = .ok (.iconst 1, 1) := by decide +kernel
theorem dX2_openGloss_159 : decode cX2_openGloss 159 = .ok (.ireturn, 1) := by decide +kernel
theorem dX2_nameKind_0 : decode cX2_nameKind 0 = .ok (.aload_n 3, 1) := by decide +kernel
theorem dX2_nameKind_1 : decode cX2_nameKind 1 = .ok (.aload_n 0, 1) := by decide +kernel
theorem dX2_nameKind_2 : decode cX2_nameKind 2 = .ok (.getfield 15, 3) := by decide +kernel
theorem dX2_nameKind_5 : decode cX2_nameKind 5 = .ok (.invokevirtual 67, 3) := by decide +kernel
theorem dX2_nameKind_8 : decode cX2_nameKind 8 = .ok (.astore 4, 2) := by decide +kernel
theorem dX2_nameKind_10 : decode cX2_nameKind 10 = .ok (.aload_n 0, 1) := by decide +kernel
theorem dX2_nameKind_11 : decode cX2_nameKind 11 = .ok (.getfield 11, 3) := by decide +kernel
theorem dX2_nameKind_14 : decode cX2_nameKind 14 = .ok (.iconst 4, 1) := by decide +kernel
theorem dX2_nameKind_15 : decode cX2_nameKind 15 = .ok (.if_icmp .ne 8, 3) := by decide +kernel
theorem dX2_nameKind_18 : decode cX2_nameKind 18 = .ok (.aload 4, 2) := by decide +kernel
theorem dX2_nameKind_20 : decode cX2_nameKind 20 = .ok (.ifnonnull 13, 3) := by decide +kernel
theorem dX2_nameKind_23 : decode cX2_nameKind 23 = .ok (.aload_n 2, 1) := by decide +kernel
theorem dX2_nameKind_24 : decode cX2_nameKind 24 = .ok (.iconst 1, 1) := by decide +kernel
theorem dX2_nameKind_25 : decode cX2_nameKind 25 = .ok (.aload_n 2, 1) := by decide +kernel
theorem dX2_nameKind_26 : decode cX2_nameKind 26 = .ok (.getfield 47, 3) := by decide +kernel
theorem dX2_nameKind_29 : decode cX2_nameKind 29 = .ok (.invokevirtual 50, 3) := by decide +kernel
theorem dX2_nameKind_32 : decode cX2_nameKind 32 = .ok (.ireturn, 1) := by decide +kernel
theorem dX2_nameKind_33 : decode cX2_nameKind 33 = .ok (.aload 4, 2) := by decide +kernel
theorem dX2_nameKind_35 : decode cX2_nameKind 35 = .ok (.iload_n 1, 1) := by decide +kernel
theorem dX2_nameKind_36 : decode cX2_nameKind 36 = .ok (.putfield 82, 3) := by decide +kernel
theorem dX2_nameKind_39 : decode cX2_nameKind 39 = .ok (.aload_n 0, 1) := by decide +kernel
theorem dX2_nameKind_40 : decode cX2_nameKind 40 = .ok (.iconst 1, 1) := by decide +kernel
theorem dX2_nameKind_41 : decode cX2_nameKind 41 = .ok (.putfield 11, 3) := by decide +kernel
theorem dX2_nameKind_44 : decode cX2_nameKind 44 = .ok (.iconst 1, 1) := by decide +kernel
theorem dX2_nameKind_45 : decode cX2_nameKind 45 = .ok (.ireturn, 1) := by decide +kernel
theorem dX2_closeSpan_0 : decode cX2_closeSpan 0 = .ok (.aload_n 2, 1) := by decide +kernel
theorem dX2_closeSpan_1 : decode cX2_closeSpan 1 = .ok (.aload_n 0, 1) := by decide +kernel
theorem dX2_closeSpan_2 : decode cX2_closeSpan 2 = .ok (.getfield 15, 3) := by decide +kernel
theorem dX2_closeSpan_5 : decode cX2_closeSpan 5 = .ok (.invokevirtual 67, 3) := by decide +kernel
theorem dX2_closeSpan_8 : decode cX2_closeSpan 8 = .ok (.astore_n 3, 1) := by decide +kernel
theorem dX2_closeSpan_9 : decode cX2_closeSpan 9 = .ok (.aload_n 0, 1) := by decide +kernel
theorem dX2_closeSpan_10 : decode cX2_closeSpan 10 = .ok (.getfield 11, 3) := by decide +kernel
theorem dX2_closeSpan_13 : decode cX2_closeSpan 13 = .ok (.ifCond .ne 7, 3) := by decide +kernel
theorem dX2_closeSpan_16 : decode cX2_closeSpan 16 = .ok (.aload_n 3, 1) := by decide +kernel
theorem dX2_closeSpan_17 : decode cX2_closeSpan 17 = .ok (.ifnonnull 13, 3) := by decide +kernel
theorem dX2_closeSpan_20 : decode cX2_closeSpan 20 = .ok (.aload_n 1, 1) := by decide +kernel
theorem dX2_closeSpan_21 : decode cX2_closeSpan 21 = .ok (.iconst 1, 1) := by decide +kernel
theorem dX2_closeSpan_22 : decode cX2_closeSpan 22 = .ok (.aload_n 1, 1) := by decide +kernel
theorem dX2_closeSpan_23 : decode cX2_closeSpan 23 = .ok (.getfield 47, 3) := by decide +kernel
theorem dX2_closeSpan_26 : decode cX2_closeSpan 26 = .ok (.invokevirtual 50, 3) := by decide +kernel
theorem dX2_closeSpan_29 : decode cX2_closeSpan 29 = .ok (.ireturn, 1) := by decide +kernel
theorem dX2_closeSpan_30 : decode cX2_closeSpan 30 = .ok (.aload_n 0, 1) := by decide +kernel
theorem dX2_closeSpan_31 : decode cX2_closeSpan 31 = .ok (.aload_n 3, 1) := by decide +kernel
theorem dX2_closeSpan_32 : decode cX2_closeSpan 32 = .ok (.getfield 105, 3) := by decide +kernel
theorem dX2_closeSpan_35 : decode cX2_closeSpan 35 = .ok (.putfield 15, 3) := by decide +kernel
theorem dX2_closeSpan_38 : decode cX2_closeSpan 38 = .ok (.iconst 1, 1) := by decide +kernel
theorem dX2_closeSpan_39 : decode cX2_closeSpan 39 = .ok (.ireturn, 1) := by decide +kernel
theorem dX3_init_0 : decode cX3_init 0 = .ok (.aload_n 0, 1) := by decide +kernel
theorem dX3_init_1 : decode cX3_init 1 = .ok (.invokespecial 3, 3) := by decide +kernel
theorem dX3_init_4 : decode cX3_init 4 = .ok (.aload_n 0, 1) := by decide +kernel
theorem dX3_init_5 : decode cX3_init 5 = .ok (.new 9, 3) := by decide +kernel
theorem dX3_init_8 : decode cX3_init 8 = .ok (.dup, 1) := by decide +kernel
theorem dX3_init_9 : decode cX3_init 9 = .ok (.bipush 8, 2) := by decide +kernel
theorem dX3_init_11 : decode cX3_init 11 = .ok (.invokespecial 11, 3) := by decide +kernel
theorem dX3_init_14 : decode cX3_init 14 = .ok (.putfield 14, 3) := by decide +kernel
theorem dX3_init_17 : decode cX3_init 17 = .ok (.aload_n 0, 1) := by decide +kernel
theorem dX3_init_18 : decode cX3_init 18 = .ok (.iconst 0, 1) := by decide +kernel
theorem dX3_init_19 : decode cX3_init 19 = .ok (.putfield 20, 3) := by decide +kernel
theorem dX3_init_22 : decode cX3_init 22 = .ok (.aload_n 0, 1) := by decide +kernel
theorem dX3_init_23 : decode cX3_init 23 = .ok (.iconst (-1), 1) := by decide +kernel
theorem dX3_init_24 : decode cX3_init 24 = .ok (.putfield 24, 3) := by decide +kernel
theorem dX3_init_27 : decode cX3_init 27 = .ok (.aload_n 0, 1) := by decide +kernel
theorem dX3_init_28 : decode cX3_init 28 = .ok (.iconst 0, 1) := by decide +kernel
theorem dX3_init_29 : decode cX3_init 29 = .ok (.putfield 27, 3) := by decide +kernel
theorem dX3_init_32 : decode cX3_init 32 = .ok (.aload_n 0, 1) := by decide +kernel
theorem dX3_init_33 : decode cX3_init 33 = .ok (.iconst 0, 1) := by decide +kernel
theorem dX3_init_34 : decode cX3_init 34 = .ok (.putfield 30, 3) := by decide +kernel
theorem dX3_init_37 : decode cX3_init 37 = .ok (.aload_n 0, 1) := by decide +kernel
theorem dX3_init_38 : decode cX3_init 38 = .ok (.iconst 0, 1) := by decide +kernel
theorem dX3_init_39 : decode cX3_init 39 = .ok (.putfield 33, 3) := by decide +kernel
theorem dX3_init_42 : decode cX3_init 42 = .ok (.return_, 1) := by decide +kernel
theorem dX3_takeFrom_0 : decode cX3_takeFrom 0 = .ok (.aload_n 0, 1) := by decide +kernel
theorem dX3_takeFrom_1 : decode cX3_takeFrom 1 = .ok (.getfield 14, 3) := by decide +kernel
theorem dX3_takeFrom_4 : decode cX3_takeFrom 4 = .ok (.aload_n 1, 1) := by decide +kernel
theorem dX3_takeFrom_5 : decode cX3_takeFrom 5 = .ok (.getfield 14, 3) := by decide +kernel
theorem dX3_takeFrom_8 : decode cX3_takeFrom 8 = .ok (.invokevirtual 37, 3) := by decide +kernel
theorem dX3_takeFrom_11 : decode cX3_takeFrom 11 = .ok (.aload_n 0, 1) := by decide +kernel
theorem dX3_takeFrom_12 : decode cX3_takeFrom 12 = .ok (.aload_n 1, 1) := by decide +kernel
theorem dX3_takeFrom_13 : decode cX3_takeFrom 13 = .ok (.getfield 20, 3) := by decide +kernel
theorem dX3_takeFrom_16 : decode cX3_takeFrom 16 = .ok (.putfield 20, 3) := by decide +kernel
theorem dX3_takeFrom_19 : decode cX3_takeFrom 19 = .ok (.aload_n 0, 1) := by decide +kernel
theorem dX3_takeFrom_20 : decode cX3_takeFrom 20 = .ok (.aload_n 1, 1) := by decide +kernel
theorem dX3_takeFrom_21 : decode cX3_takeFrom 21 = .ok (.getfield 24, 3) := by decide +kernel
theorem dX3_takeFrom_24 : decode cX3_takeFrom 24 = .ok (.putfield 24, 3) := by decide +kernel
theorem dX3_takeFrom_27 : decode cX3_takeFrom 27 = .ok (.aload_n 0, 1) := by decide +kernel
theorem dX3_takeFrom_28 : decode cX3_takeFrom 28 = .ok (.aload_n 1, 1) := by decide +kernel
theorem dX3_takeFrom_29 : decode cX3_takeFrom 29 = .ok (.getfield 27, 3) := by decide +kernel
theorem dX3_takeFrom_32 : decode cX3_takeFrom 32 = .ok (.putfield 27, 3) := by decide +kernel
theorem dX3_takeFrom_35 : decode cX3_takeFrom 35 = .ok (.aload_n 0, 1) := by decide +kernel
theorem dX3_takeFrom_36 : decode cX3_takeFrom 36 = .ok (.aload_n 1, 1) := by decide +kernel
theorem dX3_takeFrom_37 : decode cX3_takeFrom 37 = .ok (.getfield 30, 3) := by decide +kernel
theorem dX3_takeFrom_40 : decode cX3_takeFrom 40 = .ok (.putfield 30, 3) := by decide +kernel
theorem dX3_takeFrom_43 : decode cX3_takeFrom 43 = .ok (.aload_n 0, 1) := by decide +kernel
theorem dX3_takeFrom_44 : decode cX3_takeFrom 44 = .ok (.aload_n 1, 1) := by decide +kernel
theorem dX3_takeFrom_45 : decode cX3_takeFrom 45 = .ok (.getfield 33, 3) := by decide +kernel
theorem dX3_takeFrom_48 : decode cX3_takeFrom 48 = .ok (.putfield 33, 3) := by decide +kernel
theorem dX3_takeFrom_51 : decode cX3_takeFrom 51 = .ok (.return_, 1) := by decide +kernel
theorem dX3_isOnText_0 : decode cX3_isOnText 0 = .ok (.aload_n 0, 1) := by decide +kernel
theorem dX3_isOnText_1 : decode cX3_isOnText 1 = .ok (.getfield 33, 3) := by decide +kernel
theorem dX3_isOnText_4 : decode cX3_isOnText 4 = .ok (.ifCond .ne 15, 3) := by decide +kernel
theorem dX3_isOnText_7 : decode cX3_isOnText 7 = .ok (.aload_n 0, 1) := by decide +kernel
theorem dX3_isOnText_8 : decode cX3_isOnText 8 = .ok (.getfield 24, 3) := by decide +kernel
theorem dX3_isOnText_11 : decode cX3_isOnText 11 = .ok (.iconst (-1), 1) := by decide +kernel
theorem dX3_isOnText_12 : decode cX3_isOnText 12 = .ok (.if_icmp .ne 7, 3) := by decide +kernel
theorem dX3_isOnText_15 : decode cX3_isOnText 15 = .ok (.iconst 1, 1) := by decide +kernel
theorem dX3_isOnText_16 : decode cX3_isOnText 16 = .ok (.goto 4, 3) := by decide +kernel
theorem dX3_isOnText_19 : decode cX3_isOnText 19 = .ok (.iconst 0, 1) := by decide +kernel
theorem dX3_isOnText_20 : decode cX3_isOnText 20 = .ok (.ireturn, 1) := by decide +kernel
theorem dX3_sharesSpan_0 : decode cX3_sharesSpan 0 = .ok (.aload_n 0, 1) := by decide +kernel
theorem dX3_sharesSpan_1 : decode cX3_sharesSpan 1 = .ok (.getfield 24, 3) := by decide +kernel
theorem dX3_sharesSpan_4 : decode cX3_sharesSpan 4 = .ok (.aload_n 1, 1) := by decide +kernel
theorem dX3_sharesSpan_5 : decode cX3_sharesSpan 5 = .ok (.getfield 24, 3) := by decide +kernel
theorem dX3_sharesSpan_8 : decode cX3_sharesSpan 8 = .ok (.if_icmp .ne 18, 3) := by decide +kernel
theorem dX3_sharesSpan_11 : decode cX3_sharesSpan 11 = .ok (.aload_n 0, 1) := by decide +kernel
theorem dX3_sharesSpan_12 : decode cX3_sharesSpan 12 = .ok (.getfield 27, 3) := by decide +kernel
theorem dX3_sharesSpan_15 : decode cX3_sharesSpan 15 = .ok (.aload_n 1, 1) := by decide +kernel
theorem dX3_sharesSpan_16 : decode cX3_sharesSpan 16 = .ok (.getfield 27, 3) := by decide +kernel
theorem dX3_sharesSpan_19 : decode cX3_sharesSpan 19 = .ok (.if_icmp .ne 7, 3) := by decide +kernel
theorem dX3_sharesSpan_22 : decode cX3_sharesSpan 22 = .ok (.iconst 1, 1) := by decide +kernel
theorem dX3_sharesSpan_23 : decode cX3_sharesSpan 23 = .ok (.goto 4, 3) := by decide +kernel
theorem dX3_sharesSpan_26 : decode cX3_sharesSpan 26 = .ok (.iconst 0, 1) := by decide +kernel
theorem dX3_sharesSpan_27 : decode cX3_sharesSpan 27 = .ok (.ireturn, 1) := by decide +kernel
theorem dX3_covers_0 : decode cX3_covers 0 = .ok (.aload_n 0, 1) := by decide +kernel
theorem dX3_covers_1 : decode cX3_covers 1 = .ok (.getfield 27, 3) := by decide +kernel
theorem dX3_covers_4 : decode cX3_covers 4 = .ok (.iload_n 1, 1) := by decide +kernel
theorem dX3_covers_5 : decode cX3_covers 5 = .ok (.if_icmp .gt 15, 3) := by decide +kernel
theorem dX3_covers_8 : decode cX3_covers 8 = .ok (.iload_n 1, 1) := by decide +kernel
theorem dX3_covers_9 : decode cX3_covers 9 = .ok (.aload_n 0, 1) := by decide +kernel
theorem dX3_covers_10 : decode cX3_covers 10 = .ok (.getfield 30, 3) := by decide +kernel
theorem dX3_covers_13 : decode cX3_covers 13 = .ok (.if_icmp .gt 7, 3) := by decide +kernel
theorem dX3_covers_16 : decode cX3_covers 16 = .ok (.iconst 1, 1) := by decide +kernel
theorem dX3_covers_17 : decode cX3_covers 17 = .ok (.goto 4, 3) := by decide +kernel
theorem dX3_covers_20 : decode cX3_covers 20 = .ok (.iconst 0, 1) := by decide +kernel
theorem dX3_covers_21 : decode cX3_covers 21 = .ok (.ireturn, 1) := by decide +kernel
theorem dX3_lemmaLength_0 : decode cX3_lemmaLength 0 = .ok (.aload_n 0, 1) := by decide +kernel
theorem dX3_lemmaLength_1 : decode cX3_lemmaLength 1 = .ok (.getfield 30, 3) := by decide +kernel
theorem dX3_lemmaLength_4 : decode cX3_lemmaLength 4 = .ok (.aload_n 0, 1) := by decide +kernel
theorem dX3_lemmaLength_5 : decode cX3_lemmaLength 5 = .ok (.getfield 27, 3) := by decide +kernel
theorem dX3_lemmaLength_8 : decode cX3_lemmaLength 8 = .ok (.isub, 1) := by decide +kernel
theorem dX3_lemmaLength_9 : decode cX3_lemmaLength 9 = .ok (.iconst 1, 1) := by decide +kernel
theorem dX3_lemmaLength_10 : decode cX3_lemmaLength 10 = .ok (.iadd, 1) := by decide +kernel
theorem dX3_lemmaLength_11 : decode cX3_lemmaLength 11 = .ok (.ireturn, 1) := by decide +kernel
theorem dX3_shift_0 : decode cX3_shift 0 = .ok (.aload_n 0, 1) := by decide +kernel
theorem dX3_shift_1 : decode cX3_shift 1 = .ok (.dup, 1) := by decide +kernel
theorem dX3_shift_2 : decode cX3_shift 2 = .ok (.getfield 27, 3) := by decide +kernel
theorem dX3_shift_5 : decode cX3_shift 5 = .ok (.iload_n 1, 1) := by decide +kernel
theorem dX3_shift_6 : decode cX3_shift 6 = .ok (.iadd, 1) := by decide +kernel
theorem dX3_shift_7 : decode cX3_shift 7 = .ok (.putfield 27, 3) := by decide +kernel
theorem dX3_shift_10 : decode cX3_shift 10 = .ok (.aload_n 0, 1) := by decide +kernel
theorem dX3_shift_11 : decode cX3_shift 11 = .ok (.dup, 1) := by decide +kernel
theorem dX3_shift_12 : decode cX3_shift 12 = .ok (.getfield 30, 3) := by decide +kernel
theorem dX3_shift_15 : decode cX3_shift 15 = .ok (.iload_n 1, 1) := by decide +kernel
theorem dX3_shift_16 : decode cX3_shift 16 = .ok (.iadd, 1) := by decide +kernel
theorem dX3_shift_17 : decode cX3_shift 17 = .ok (.putfield 30, 3) := by decide +kernel
theorem dX3_shift_20 : decode cX3_shift 20 = .ok (.return_, 1) := by decide +kernel
theorem dX4_init_0 : decode cX4_init 0 = .ok (.aload_n 0, 1) := by decide +kernel
theorem dX4_init_1 : decode cX4_init 1 = .ok (.invokespecial 3, 3) := by decide +kernel
theorem dX4_init_4 : decode cX4_init 4 = .ok (.aload_n 0, 1) := by decide +kernel
theorem dX4_init_5 : decode cX4_init 5 = .ok (.new 9, 3) := by decide +kernel
theorem dX4_init_8 : decode cX4_init 8 = .ok (.dup, 1) := by decide +kernel
theorem dX4_init_9 : decode cX4_init 9 = .ok (.iconst 4, 1) := by decide +kernel
theorem dX4_init_10 : decode cX4_init 10 = .ok (.invokespecial 11, 3) := by decide +kernel
theorem dX4_init_13 : decode cX4_init 13 = .ok (.putfield 14, 3) := by decide +kernel
theorem dX4_init_16 : decode cX4_init 16 = .ok (.aload_n 0, 1) := by decide +kernel
theorem dX4_init_17 : decode cX4_init 17 = .ok (.new 9, 3) := by decide +kernel
theorem dX4_init_20 : decode cX4_init 20 = .ok (.dup, 1) := by decide +kernel
theorem dX4_init_21 : decode cX4_init 21 = .ok (.iconst 4, 1) := by decide +kernel
theorem dX4_init_22 : decode cX4_init 22 = .ok (.invokespecial 11, 3) := by decide +kernel
theorem dX4_init_25 : decode cX4_init 25 = .ok (.putfield 20, 3) := by decide +kernel
theorem dX4_init_28 : decode cX4_init 28 = .ok (.aload_n 0, 1) := by decide +kernel
theorem dX4_init_29 : decode cX4_init 29 = .ok (.new 9, 3) := by decide +kernel
theorem dX4_init_32 : decode cX4_init 32 = .ok (.dup, 1) := by decide +kernel
theorem dX4_init_33 : decode cX4_init 33 = .ok (.iconst 4, 1) := by decide +kernel
theorem dX4_init_34 : decode cX4_init 34 = .ok (.invokespecial 11, 3) := by decide +kernel
theorem dX4_init_37 : decode cX4_init 37 = .ok (.putfield 23, 3) := by decide +kernel
theorem dX4_init_40 : decode cX4_init 40 = .ok (.aload_n 0, 1) := by decide +kernel
theorem dX4_init_41 : decode cX4_init 41 = .ok (.new 9, 3) := by decide +kernel
theorem dX4_init_44 : decode cX4_init 44 = .ok (.dup, 1) := by decide +kernel
theorem dX4_init_45 : decode cX4_init 45 = .ok (.bipush 6, 2) := by decide +kernel
theorem dX4_init_47 : decode cX4_init 47 = .ok (.invokespecial 11, 3) := by decide +kernel
theorem dX4_init_50 : decode cX4_init 50 = .ok (.putfield 26, 3) := by decide +kernel
theorem dX4_init_53 : decode cX4_init 53 = .ok (.aload_n 0, 1) := by decide +kernel
theorem dX4_init_54 : decode cX4_init 54 = .ok (.iconst (-1), 1) := by decide +kernel
theorem dX4_init_55 : decode cX4_init 55 = .ok (.putfield 29, 3) := by decide +kernel
theorem dX4_init_58 : decode cX4_init 58 = .ok (.aload_n 0, 1) := by decide +kernel
theorem dX4_init_59 : decode cX4_init 59 = .ok (.iconst (-1), 1) := by decide +kernel
theorem dX4_init_60 : decode cX4_init 60 = .ok (.putfield 33, 3) := by decide +kernel
theorem dX4_init_63 : decode cX4_init 63 = .ok (.aload_n 0, 1) := by decide +kernel
theorem dX4_init_64 : decode cX4_init 64 = .ok (.getfield 26, 3) := by decide +kernel
theorem dX4_init_67 : decode cX4_init 67 = .ok (.bipush 6, 2) := by decide +kernel
theorem dX4_init_69 : decode cX4_init 69 = .ok (.iconst (-1), 1) := by decide +kernel
theorem dX4_init_70 : decode cX4_init 70 = .ok (.invokevirtual 36, 3) := by decide +kernel
theorem dX4_init_73 : decode cX4_init 73 = .ok (.return_, 1) := by decide +kernel
theorem dX4_clear_0 : decode cX4_clear 0 = .ok (.aload_n 0, 1) := by decide +kernel
theorem dX4_clear_1 : decode cX4_clear 1 = .ok (.getfield 14, 3) := by decide +kernel
theorem dX4_clear_4 : decode cX4_clear 4 = .ok (.invokevirtual 40, 3) := by decide +kernel
theorem dX4_clear_7 : decode cX4_clear 7 = .ok (.aload_n 0, 1) := by decide +kernel
theorem dX4_clear_8 : decode cX4_clear 8 = .ok (.getfield 20, 3) := by decide +kernel
theorem dX4_clear_11 : decode cX4_clear 11 = .ok (.invokevirtual 40, 3) := by decide +kernel
theorem dX4_clear_14 : decode cX4_clear 14 = .ok (.aload_n 0, 1) := by decide +kernel
theorem dX4_clear_15 : decode cX4_clear 15 = .ok (.getfield 23, 3) := by decide +kernel
theorem dX4_clear_18 : decode cX4_clear 18 = .ok (.invokevirtual 40, 3) := by decide +kernel
theorem dX4_clear_21 : decode cX4_clear 21 = .ok (.aload_n 0, 1) := by decide +kernel
theorem dX4_clear_22 : decode cX4_clear 22 = .ok (.getfield 26, 3) := by decide +kernel
theorem dX4_clear_25 : decode cX4_clear 25 = .ok (.bipush 6, 2) := by decide +kernel
theorem dX4_clear_27 : decode cX4_clear 27 = .ok (.iconst (-1), 1) := by decide +kernel
theorem dX4_clear_28 : decode cX4_clear 28 = .ok (.invokevirtual 36, 3) := by decide +kernel
theorem dX4_clear_31 : decode cX4_clear 31 = .ok (.aload_n 0, 1) := by decide +kernel
theorem dX4_clear_32 : decode cX4_clear 32 = .ok (.iconst (-1), 1) := by decide +kernel
theorem dX4_clear_33 : decode cX4_clear 33 = .ok (.putfield 29, 3) := by decide +kernel
theorem dX4_clear_36 : decode cX4_clear 36 = .ok (.aload_n 0, 1) := by decide +kernel
theorem dX4_clear_37 : decode cX4_clear 37 = .ok (.iconst (-1), 1) := by decide +kernel
theorem dX4_clear_38 : decode cX4_clear 38 = .ok (.putfield 33, 3) := by decide +kernel
theorem dX4_clear_41 : decode cX4_clear 41 = .ok (.return_, 1) := by decide +kernel
theorem dX4_takeFrom_0 : decode cX4_takeFrom 0 = .ok (.aload_n 0, 1) := by decide +kernel
theorem dX4_takeFrom_1 : decode cX4_takeFrom 1 = .ok (.getfield 14, 3) := by decide +kernel
theorem dX4_takeFrom_4 : decode cX4_takeFrom 4 = .ok (.aload_n 1, 1) := by decide +kernel
theorem dX4_takeFrom_5 : decode cX4_takeFrom 5 = .ok (.getfield 14, 3) := by decide +kernel
theorem dX4_takeFrom_8 : decode cX4_takeFrom 8 = .ok (.invokevirtual 43, 3) := by decide +kernel
theorem dX4_takeFrom_11 : decode cX4_takeFrom 11 = .ok (.aload_n 0, 1) := by decide +kernel
theorem dX4_takeFrom_12 : decode cX4_takeFrom 12 = .ok (.getfield 20, 3) := by decide +kernel
theorem dX4_takeFrom_15 : decode cX4_takeFrom 15 = .ok (.aload_n 1, 1) := by decide +kernel
theorem dX4_takeFrom_16 : decode cX4_takeFrom 16 = .ok (.getfield 20, 3) := by decide +kernel
theorem dX4_takeFrom_19 : decode cX4_takeFrom 19 = .ok (.invokevirtual 43, 3) := by decide +kernel
theorem dX4_takeFrom_22 : decode cX4_takeFrom 22 = .ok (.aload_n 0, 1) := by decide +kernel
theorem dX4_takeFrom_23 : decode cX4_takeFrom 23 = .ok (.getfield 23, 3) := by decide +kernel
theorem dX4_takeFrom_26 : decode cX4_takeFrom 26 = .ok (.aload_n 1, 1) := by decide +kernel
theorem dX4_takeFrom_27 : decode cX4_takeFrom 27 = .ok (.getfield 23, 3) := by decide +kernel
theorem dX4_takeFrom_30 : decode cX4_takeFrom 30 = .ok (.invokevirtual 43, 3) := by decide +kernel
theorem dX4_takeFrom_33 : decode cX4_takeFrom 33 = .ok (.aload_n 0, 1) := by decide +kernel
theorem dX4_takeFrom_34 : decode cX4_takeFrom 34 = .ok (.getfield 26, 3) := by decide +kernel
theorem dX4_takeFrom_37 : decode cX4_takeFrom 37 = .ok (.aload_n 1, 1) := by decide +kernel
theorem dX4_takeFrom_38 : decode cX4_takeFrom 38 = .ok (.getfield 26, 3) := by decide +kernel
theorem dX4_takeFrom_41 : decode cX4_takeFrom 41 = .ok (.invokevirtual 43, 3) := by decide +kernel
theorem dX4_takeFrom_44 : decode cX4_takeFrom 44 = .ok (.aload_n 0, 1) := by decide +kernel
theorem dX4_takeFrom_45 : decode cX4_takeFrom 45 = .ok (.aload_n 1, 1) := by decide +kernel
theorem dX4_takeFrom_46 : decode cX4_takeFrom 46 = .ok (.getfield 29, 3) := by decide +kernel
theorem dX4_takeFrom_49 : decode cX4_takeFrom 49 = .ok (.putfield 29, 3) := by decide +kernel
theorem dX4_takeFrom_52 : decode cX4_takeFrom 52 = .ok (.aload_n 0, 1) := by decide +kernel
theorem dX4_takeFrom_53 : decode cX4_takeFrom 53 = .ok (.aload_n 1, 1) := by decide +kernel
theorem dX4_takeFrom_54 : decode cX4_takeFrom 54 = .ok (.getfield 33, 3) := by decide +kernel
theorem dX4_takeFrom_57 : decode cX4_takeFrom 57 = .ok (.putfield 33, 3) := by decide +kernel
theorem dX4_takeFrom_60 : decode cX4_takeFrom 60 = .ok (.return_, 1) := by decide +kernel
theorem dX4_hasNoRoomFor_0 : decode cX4_hasNoRoomFor 0 = .ok (.iload_n 1, 1) := by decide +kernel
theorem dX4_hasNoRoomFor_1 : decode cX4_hasNoRoomFor 1 = .ok (.ifCond .ne 22, 3) := by decide +kernel
theorem dX4_hasNoRoomFor_4 : decode cX4_hasNoRoomFor 4 = .ok (.aload_n 0, 1) := by decide +kernel
theorem dX4_hasNoRoomFor_5 : decode cX4_hasNoRoomFor 5 = .ok (.getfield 14, 3) := by decide +kernel
theorem dX4_hasNoRoomFor_8 : decode cX4_hasNoRoomFor 8 = .ok (.invokevirtual 47, 3) := by decide +kernel
theorem dX4_hasNoRoomFor_11 : decode cX4_hasNoRoomFor 11 = .ok (.iconst 4, 1) := by decide +kernel
theorem dX4_hasNoRoomFor_12 : decode cX4_hasNoRoomFor 12 = .ok (.if_icmp .lt 7, 3) := by decide +kernel
theorem dX4_hasNoRoomFor_15 : decode cX4_hasNoRoomFor 15 = .ok (.iconst 1, 1) := by decide +kernel
theorem dX4_hasNoRoomFor_16 : decode cX4_hasNoRoomFor 16 = .ok (.goto 24, 3) := by decide +kernel
theorem dX4_hasNoRoomFor_19 : decode cX4_hasNoRoomFor 19 = .ok (.iconst 0, 1) := by decide +kernel
theorem dX4_hasNoRoomFor_20 : decode cX4_hasNoRoomFor 20 = .ok (.goto 20, 3) := by decide +kernel
theorem dX4_hasNoRoomFor_23 : decode cX4_hasNoRoomFor 23 = .ok (.aload_n 0, 1) := by decide +kernel
theorem dX4_hasNoRoomFor_24 : decode cX4_hasNoRoomFor 24 = .ok (.getfield 26, 3) := by decide +kernel
theorem dX4_hasNoRoomFor_27 : decode cX4_hasNoRoomFor 27 = .ok (.iload_n 1, 1) := by decide +kernel
theorem dX4_hasNoRoomFor_28 : decode cX4_hasNoRoomFor 28 = .ok (.invokevirtual 51, 3) := by decide +kernel
theorem dX4_hasNoRoomFor_31 : decode cX4_hasNoRoomFor 31 = .ok (.iconst (-1), 1) := by decide +kernel
theorem dX4_hasNoRoomFor_32 : decode cX4_hasNoRoomFor 32 = .ok (.if_icmp .eq 7, 3) := by decide +kernel
theorem dX4_hasNoRoomFor_35 : decode cX4_hasNoRoomFor 35 = .ok (.iconst 1, 1) := by decide +kernel
theorem dX4_hasNoRoomFor_36 : decode cX4_hasNoRoomFor 36 = .ok (.goto 4, 3) := by decide +kernel
theorem dX4_hasNoRoomFor_39 : decode cX4_hasNoRoomFor 39 = .ok (.iconst 0, 1) := by decide +kernel
theorem dX4_hasNoRoomFor_40 : decode cX4_hasNoRoomFor 40 = .ok (.ireturn, 1) := by decide +kernel
theorem dX4_clauses_0 : decode cX4_clauses 0 = .ok (.aload_n 0, 1) := by decide +kernel
theorem dX4_clauses_1 : decode cX4_clauses 1 = .ok (.getfield 14, 3) := by decide +kernel
theorem dX4_clauses_4 : decode cX4_clauses 4 = .ok (.invokevirtual 47, 3) := by decide +kernel
theorem dX4_clauses_7 : decode cX4_clauses 7 = .ok (.istore_n 1, 1) := by decide +kernel
theorem dX4_clauses_8 : decode cX4_clauses 8 = .ok (.iconst 1, 1) := by decide +kernel
theorem dX4_clauses_9 : decode cX4_clauses 9 = .ok (.istore_n 2, 1) := by decide +kernel
theorem dX4_clauses_10 : decode cX4_clauses 10 = .ok (.iload_n 2, 1) := by decide +kernel
theorem dX4_clauses_11 : decode cX4_clauses 11 = .ok (.iconst 5, 1) := by decide +kernel
theorem dX4_clauses_12 : decode cX4_clauses 12 = .ok (.if_icmp .gt 24, 3) := by decide +kernel
theorem dX4_clauses_15 : decode cX4_clauses 15 = .ok (.aload_n 0, 1) := by decide +kernel
theorem dX4_clauses_16 : decode cX4_clauses 16 = .ok (.getfield 26, 3) := by decide +kernel
theorem dX4_clauses_19 : decode cX4_clauses 19 = .ok (.iload_n 2, 1) := by decide +kernel
theorem dX4_clauses_20 : decode cX4_clauses 20 = .ok (.invokevirtual 51, 3) := by decide +kernel
theorem dX4_clauses_23 : decode cX4_clauses 23 = .ok (.iconst (-1), 1) := by decide +kernel
theorem dX4_clauses_24 : decode cX4_clauses 24 = .ok (.if_icmp .eq 6, 3) := by decide +kernel
theorem dX4_clauses_27 : decode cX4_clauses 27 = .ok (.iinc 1 1, 3) := by decide +kernel
theorem dX4_clauses_30 : decode cX4_clauses 30 = .ok (.iinc 2 1, 3) := by decide +kernel
theorem dX4_clauses_33 : decode cX4_clauses 33 = .ok (.goto (-23), 3) := by decide +kernel
theorem dX4_clauses_36 : decode cX4_clauses 36 = .ok (.iload_n 1, 1) := by decide +kernel
theorem dX4_clauses_37 : decode cX4_clauses 37 = .ok (.ireturn, 1) := by decide +kernel
theorem dX5_readHand_0 : decode cX5_readHand 0 = .ok (.aload_n 0, 1) := by decide +kernel
theorem dX5_readHand_1 : decode cX5_readHand 1 = .ok (.invokevirtual 9, 3) := by decide +kernel
theorem dX5_readHand_4 : decode cX5_readHand 4 = .ok (.aload_n 1, 1) := by decide +kernel
theorem dX5_readHand_5 : decode cX5_readHand 5 = .ok (.invokevirtual 14, 3) := by decide +kernel
theorem dX5_readHand_8 : decode cX5_readHand 8 = .ok (.iconst 1, 1) := by decide +kernel
theorem dX5_readHand_9 : decode cX5_readHand 9 = .ok (.istore_n 2, 1) := by decide +kernel
theorem dX5_readHand_10 : decode cX5_readHand 10 = .ok (.iconst 0, 1) := by decide +kernel
theorem dX5_readHand_11 : decode cX5_readHand 11 = .ok (.istore_n 3, 1) := by decide +kernel
theorem dX5_readHand_12 : decode cX5_readHand 12 = .ok (.iload_n 3, 1) := by decide +kernel
theorem dX5_readHand_13 : decode cX5_readHand 13 = .ok (.sipush 160, 3) := by decide +kernel
theorem dX5_readHand_16 : decode cX5_readHand 16 = .ok (.if_icmp .ge 27, 3) := by decide +kernel
theorem dX5_readHand_19 : decode cX5_readHand 19 = .ok (.iload_n 2, 1) := by decide +kernel
theorem dX5_readHand_20 : decode cX5_readHand 20 = .ok (.ifCond .eq 23, 3) := by decide +kernel
theorem dX5_readHand_23 : decode cX5_readHand 23 = .ok (.aload_n 0, 1) := by decide +kernel
theorem dX5_readHand_24 : decode cX5_readHand 24 = .ok (.invokevirtual 19, 3) := by decide +kernel
theorem dX5_readHand_27 : decode cX5_readHand 27 = .ok (.iconst (-1), 1) := by decide +kernel
theorem dX5_readHand_28 : decode cX5_readHand 28 = .ok (.if_icmp .eq 15, 3) := by decide +kernel
theorem dX5_readHand_31 : decode cX5_readHand 31 = .ok (.aload_n 0, 1) := by decide +kernel
theorem dX5_readHand_32 : decode cX5_readHand 32 = .ok (.aload_n 1, 1) := by decide +kernel
theorem dX5_readHand_33 : decode cX5_readHand 33 = .ok (.invokestatic 23, 3) := by decide +kernel
theorem dX5_readHand_36 : decode cX5_readHand 36 = .ok (.istore_n 2, 1) := by decide +kernel
theorem dX5_readHand_37 : decode cX5_readHand 37 = .ok (.iinc 3 1, 3) := by decide +kernel
theorem dX5_readHand_40 : decode cX5_readHand 40 = .ok (.goto (-28), 3) := by decide +kernel
theorem dX5_readHand_43 : decode cX5_readHand 43 = .ok (.return_, 1) := by decide +kernel
theorem dX5_readClause_0 : decode cX5_readClause 0 = .ok (.aload_n 0, 1) := by decide +kernel
theorem dX5_readClause_1 : decode cX5_readClause 1 = .ok (.invokevirtual 29, 3) := by decide +kernel
theorem dX5_readClause_4 : decode cX5_readClause 4 = .ok (.aload_n 0, 1) := by decide +kernel
theorem dX5_readClause_5 : decode cX5_readClause 5 = .ok (.invokestatic 32, 3) := by decide +kernel
theorem dX5_readClause_8 : decode cX5_readClause 8 = .ok (.istore_n 2, 1) := by decide +kernel
theorem dX5_readClause_9 : decode cX5_readClause 9 = .ok (.iload_n 2, 1) := by decide +kernel
theorem dX5_readClause_10 : decode cX5_readClause 10 = .ok (.iconst (-1), 1) := by decide +kernel
theorem dX5_readClause_11 : decode cX5_readClause 11 = .ok (.if_icmp .ne 13, 3) := by decide +kernel
theorem dX5_readClause_14 : decode cX5_readClause 14 = .ok (.aload_n 0, 1) := by decide +kernel
theorem dX5_readClause_15 : decode cX5_readClause 15 = .ok (.iconst 1, 1) := by decide +kernel
theorem dX5_readClause_16 : decode cX5_readClause 16 = .ok (.aload_n 0, 1) := by decide +kernel
theorem dX5_readClause_17 : decode cX5_readClause 17 = .ok (.getfield 36, 3) := by decide +kernel
theorem dX5_readClause_20 : decode cX5_readClause 20 = .ok (.invokevirtual 40, 3) := by decide +kernel
theorem dX5_readClause_23 : decode cX5_readClause 23 = .ok (.ireturn, 1) := by decide +kernel
theorem dX5_readClause_24 : decode cX5_readClause 24 = .ok (.aload_n 1, 1) := by decide +kernel
theorem dX5_readClause_25 : decode cX5_readClause 25 = .ok (.iload_n 2, 1) := by decide +kernel
theorem dX5_readClause_26 : decode cX5_readClause 26 = .ok (.invokevirtual 44, 3) := by decide +kernel
theorem dX5_readClause_29 : decode cX5_readClause 29 = .ok (.ifCond .eq 13, 3) := by decide +kernel
theorem dX5_readClause_32 : decode cX5_readClause 32 = .ok (.aload_n 0, 1) := by decide +kernel
theorem dX5_readClause_33 : decode cX5_readClause 33 = .ok (.iconst 3, 1) := by decide +kernel
theorem dX5_readClause_34 : decode cX5_readClause 34 = .ok (.aload_n 0, 1) := by decide +kernel
theorem dX5_readClause_35 : decode cX5_readClause 35 = .ok (.getfield 36, 3) := by decide +kernel
theorem dX5_readClause_38 : decode cX5_readClause 38 = .ok (.invokevirtual 40, 3) := by decide +kernel
theorem dX5_readClause_41 : decode cX5_readClause 41 = .ok (.ireturn, 1) := by decide +kernel
theorem dX5_readClause_42 : decode cX5_readClause 42 = .ok (.iload_n 2, 1) := by decide +kernel
theorem dX5_readClause_43 : decode cX5_readClause 43 = .ok (.ifCond .ne 11, 3) := by decide +kernel
theorem dX5_readClause_46 : decode cX5_readClause 46 = .ok (.aload_n 0, 1) := by decide +kernel
theorem dX5_readClause_47 : decode cX5_readClause 47 = .ok (.aload_n 1, 1) := by decide +kernel
theorem dX5_readClause_48 : decode cX5_readClause 48 = .ok (.invokestatic 48, 3) := by decide +kernel
theorem dX5_readClause_51 : decode cX5_readClause 51 = .ok (.goto 9, 3) := by decide +kernel
theorem dX5_readClause_54 : decode cX5_readClause 54 = .ok (.iload_n 2, 1) := by decide +kernel
theorem dX5_readClause_55 : decode cX5_readClause 55 = .ok (.aload_n 0, 1) := by decide +kernel
theorem dX5_readClause_56 : decode cX5_readClause 56 = .ok (.aload_n 1, 1) := by decide +kernel
theorem dX5_readClause_57 : decode cX5_readClause 57 = .ok (.invokestatic 51, 3) := by decide +kernel
theorem dX5_readClause_60 : decode cX5_readClause 60 = .ok (.istore_n 3, 1) := by decide +kernel
theorem dX5_readClause_61 : decode cX5_readClause 61 = .ok (.iload_n 3, 1) := by decide +kernel
theorem dX5_readClause_62 : decode cX5_readClause 62 = .ok (.ifCond .eq 16, 3) := by decide +kernel
theorem dX5_readClause_65 : decode cX5_readClause 65 = .ok (.aload_n 0, 1) := by decide +kernel
theorem dX5_readClause_66 : decode cX5_readClause 66 = .ok (.bipush 59, 2) := by decide +kernel
theorem dX5_readClause_68 : decode cX5_readClause 68 = .ok (.invokevirtual 55, 3) := by decide +kernel
theorem dX5_readClause_71 : decode cX5_readClause 71 = .ok (.ifCond .eq 7, 3) := by decide +kernel
theorem dX5_readClause_74 : decode cX5_readClause 74 = .ok (.iconst 1, 1) := by decide +kernel
theorem dX5_readClause_75 : decode cX5_readClause 75 = .ok (.goto 4, 3) := by decide +kernel
theorem dX5_readClause_78 : decode cX5_readClause 78 = .ok (.iconst 0, 1) := by decide +kernel
theorem dX5_readClause_79 : decode cX5_readClause 79 = .ok (.ireturn, 1) := by decide +kernel
theorem dX5_clauseTold_0 : decode cX5_clauseTold 0 = .ok (.iconst 0, 1) := by decide +kernel
theorem dX5_clauseTold_1 : decode cX5_clauseTold 1 = .ok (.istore_n 1, 1) := by decide +kernel
theorem dX5_clauseTold_2 : decode cX5_clauseTold 2 = .ok (.iload_n 1, 1) := by decide +kernel
theorem dX5_clauseTold_3 : decode cX5_clauseTold 3 = .ok (.iconst 5, 1) := by decide +kernel
theorem dX5_clauseTold_4 : decode cX5_clauseTold 4 = .ok (.if_icmp .gt 22, 3) := by decide +kernel
theorem dX5_clauseTold_7 : decode cX5_clauseTold 7 = .ok (.aload_n 0, 1) := by decide +kernel
theorem dX5_clauseTold_8 : decode cX5_clauseTold 8 = .ok (.iload_n 1, 1) := by decide +kernel
theorem dX5_clauseTold_9 : decode cX5_clauseTold 9 = .ok (.invokestatic 58, 3) := by decide +kernel
theorem dX5_clauseTold_12 : decode cX5_clauseTold 12 = .ok (.invokevirtual 62, 3) := by decide +kernel
theorem dX5_clauseTold_15 : decode cX5_clauseTold 15 = .ok (.ifCond .eq 5, 3) := by decide +kernel
theorem dX5_clauseTold_18 : decode cX5_clauseTold 18 = .ok (.iload_n 1, 1) := by decide +kernel
theorem dX5_clauseTold_19 : decode cX5_clauseTold 19 = .ok (.ireturn, 1) := by decide +kernel
theorem dX5_clauseTold_20 : decode cX5_clauseTold 20 = .ok (.iinc 1 1, 3) := by decide +kernel
theorem dX5_clauseTold_23 : decode cX5_clauseTold 23 = .ok (.goto (-21), 3) := by decide +kernel
theorem dX5_clauseTold_26 : decode cX5_clauseTold 26 = .ok (.iconst (-1), 1) := by decide +kernel
theorem dX5_clauseTold_27 : decode cX5_clauseTold 27 = .ok (.ireturn, 1) := by decide +kernel
theorem dX5_clauseName_0 : decode cX5_clauseName 0 = .ok (.iload_n 0, 1) := by decide +kernel
theorem dX5_clauseName_1 : decode cX5_clauseName 1 = .ok (.tableswitch 50 0 4 #[35, 38, 41, 44, 47], 35) := by decide +kernel
theorem dX5_clauseName_36 : decode cX5_clauseName 36 = .ok (.ldc 66, 2) := by decide +kernel
theorem dX5_clauseName_38 : decode cX5_clauseName 38 = .ok (.areturn, 1) := by decide +kernel
theorem dX5_clauseName_39 : decode cX5_clauseName 39 = .ok (.ldc 68, 2) := by decide +kernel
theorem dX5_clauseName_41 : decode cX5_clauseName 41 = .ok (.areturn, 1) := by decide +kernel
theorem dX5_clauseName_42 : decode cX5_clauseName 42 = .ok (.ldc 70, 2) := by decide +kernel
theorem dX5_clauseName_44 : decode cX5_clauseName 44 = .ok (.areturn, 1) := by decide +kernel
theorem dX5_clauseName_45 : decode cX5_clauseName 45 = .ok (.ldc 72, 2) := by decide +kernel
theorem dX5_clauseName_47 : decode cX5_clauseName 47 = .ok (.areturn, 1) := by decide +kernel
theorem dX5_clauseName_48 : decode cX5_clauseName 48 = .ok (.ldc 74, 2) := by decide +kernel
theorem dX5_clauseName_50 : decode cX5_clauseName 50 = .ok (.areturn, 1) := by decide +kernel
theorem dX5_clauseName_51 : decode cX5_clauseName 51 = .ok (.ldc 76, 2) := by decide +kernel
theorem dX5_clauseName_53 : decode cX5_clauseName 53 = .ok (.areturn, 1) := by decide +kernel
theorem dX5_readFor_0 : decode cX5_readFor 0 = .ok (.aload_n 0, 1) := by decide +kernel
theorem dX5_readFor_1 : decode cX5_readFor 1 = .ok (.iconst 0, 1) := by decide +kernel
theorem dX5_readFor_2 : decode cX5_readFor 2 = .ok (.bipush 63, 2) := by decide +kernel
theorem dX5_readFor_4 : decode cX5_readFor 4 = .ok (.invokevirtual 78, 3) := by decide +kernel
theorem dX5_readFor_7 : decode cX5_readFor 7 = .ok (.istore_n 2, 1) := by decide +kernel
theorem dX5_readFor_8 : decode cX5_readFor 8 = .ok (.iload_n 2, 1) := by decide +kernel
theorem dX5_readFor_9 : decode cX5_readFor 9 = .ok (.iconst (-1), 1) := by decide +kernel
theorem dX5_readFor_10 : decode cX5_readFor 10 = .ok (.if_icmp .ne 5, 3) := by decide +kernel
theorem dX5_readFor_13 : decode cX5_readFor 13 = .ok (.iconst 0, 1) := by decide +kernel
theorem dX5_readFor_14 : decode cX5_readFor 14 = .ok (.ireturn, 1) := by decide +kernel
theorem dX5_readFor_15 : decode cX5_readFor 15 = .ok (.aload_n 1, 1) := by decide +kernel
theorem dX5_readFor_16 : decode cX5_readFor 16 = .ok (.getfield 82, 3) := by decide +kernel
theorem dX5_readFor_19 : decode cX5_readFor 19 = .ok (.iload_n 2, 1) := by decide +kernel
theorem dX5_readFor_20 : decode cX5_readFor 20 = .ok (.invokevirtual 86, 3) := by decide +kernel
theorem dX5_readFor_23 : decode cX5_readFor 23 = .ok (.ifCond .eq 13, 3) := by decide +kernel
theorem dX5_readFor_26 : decode cX5_readFor 26 = .ok (.aload_n 0, 1) := by decide +kernel
theorem dX5_readFor_27 : decode cX5_readFor 27 = .ok (.iconst 3, 1) := by decide +kernel
theorem dX5_readFor_28 : decode cX5_readFor 28 = .ok (.aload_n 0, 1) := by decide +kernel
theorem dX5_readFor_29 : decode cX5_readFor 29 = .ok (.getfield 36, 3) := by decide +kernel
theorem dX5_readFor_32 : decode cX5_readFor 32 = .ok (.invokevirtual 40, 3) := by decide +kernel
theorem dX5_readFor_35 : decode cX5_readFor 35 = .ok (.ireturn, 1) := by decide +kernel
theorem dX5_readFor_36 : decode cX5_readFor 36 = .ok (.aload_n 0, 1) := by decide +kernel
theorem dX5_readFor_37 : decode cX5_readFor 37 = .ok (.iconst 0, 1) := by decide +kernel
theorem dX5_readFor_38 : decode cX5_readFor 38 = .ok (.bipush 63, 2) := by decide +kernel
theorem dX5_readFor_40 : decode cX5_readFor 40 = .ok (.invokevirtual 78, 3) := by decide +kernel
theorem dX5_readFor_43 : decode cX5_readFor 43 = .ok (.istore_n 3, 1) := by decide +kernel
theorem dX5_readFor_44 : decode cX5_readFor 44 = .ok (.iload_n 3, 1) := by decide +kernel
theorem dX5_readFor_45 : decode cX5_readFor 45 = .ok (.iconst (-1), 1) := by decide +kernel
theorem dX5_readFor_46 : decode cX5_readFor 46 = .ok (.if_icmp .ne 5, 3) := by decide +kernel
theorem dX5_readFor_49 : decode cX5_readFor 49 = .ok (.iconst 0, 1) := by decide +kernel
theorem dX5_readFor_50 : decode cX5_readFor 50 = .ok (.ireturn, 1) := by decide +kernel
theorem dX5_readFor_51 : decode cX5_readFor 51 = .ok (.iload_n 3, 1) := by decide +kernel
theorem dX5_readFor_52 : decode cX5_readFor 52 = .ok (.iload_n 2, 1) := by decide +kernel
theorem dX5_readFor_53 : decode cX5_readFor 53 = .ok (.if_icmp .ne 13, 3) := by decide +kernel
theorem dX5_readFor_56 : decode cX5_readFor 56 = .ok (.aload_n 0, 1) := by decide +kernel
theorem dX5_readFor_57 : decode cX5_readFor 57 = .ok (.iconst 3, 1) := by decide +kernel
theorem dX5_readFor_58 : decode cX5_readFor 58 = .ok (.aload_n 0, 1) := by decide +kernel
theorem dX5_readFor_59 : decode cX5_readFor 59 = .ok (.getfield 36, 3) := by decide +kernel
theorem dX5_readFor_62 : decode cX5_readFor 62 = .ok (.invokevirtual 40, 3) := by decide +kernel
theorem dX5_readFor_65 : decode cX5_readFor 65 = .ok (.ireturn, 1) := by decide +kernel
theorem dX5_readFor_66 : decode cX5_readFor 66 = .ok (.aload_n 0, 1) := by decide +kernel
theorem dX5_readFor_67 : decode cX5_readFor 67 = .ok (.iconst 1, 1) := by decide +kernel
theorem dX5_readFor_68 : decode cX5_readFor 68 = .ok (.bipush 99, 2) := by decide +kernel
theorem dX5_readFor_70 : decode cX5_readFor 70 = .ok (.invokevirtual 78, 3) := by decide +kernel
theorem dX5_readFor_73 : decode cX5_readFor 73 = .ok (.istore 4, 2) := by decide +kernel
theorem dX5_readFor_75 : decode cX5_readFor 75 = .ok (.iload 4, 2) := by decide +kernel
theorem dX5_readFor_77 : decode cX5_readFor 77 = .ok (.iconst (-1), 1) := by decide +kernel
theorem dX5_readFor_78 : decode cX5_readFor 78 = .ok (.if_icmp .ne 5, 3) := by decide +kernel
theorem dX5_readFor_81 : decode cX5_readFor 81 = .ok (.iconst 0, 1) := by decide +kernel
theorem dX5_readFor_82 : decode cX5_readFor 82 = .ok (.ireturn, 1) := by decide +kernel
theorem dX5_readFor_83 : decode cX5_readFor 83 = .ok (.aload_n 1, 1) := by decide +kernel
theorem dX5_readFor_84 : decode cX5_readFor 84 = .ok (.getfield 82, 3) := by decide +kernel
theorem dX5_readFor_87 : decode cX5_readFor 87 = .ok (.iload_n 2, 1) := by decide +kernel
theorem dX5_readFor_88 : decode cX5_readFor 88 = .ok (.invokevirtual 91, 3) := by decide +kernel
theorem dX5_readFor_91 : decode cX5_readFor 91 = .ok (.aload_n 1, 1) := by decide +kernel
theorem dX5_readFor_92 : decode cX5_readFor 92 = .ok (.getfield 95, 3) := by decide +kernel
theorem dX5_readFor_95 : decode cX5_readFor 95 = .ok (.iload_n 3, 1) := by decide +kernel
theorem dX5_readFor_96 : decode cX5_readFor 96 = .ok (.invokevirtual 91, 3) := by decide +kernel
theorem dX5_readFor_99 : decode cX5_readFor 99 = .ok (.aload_n 1, 1) := by decide +kernel
theorem dX5_readFor_100 : decode cX5_readFor 100 = .ok (.getfield 98, 3) := by decide +kernel
theorem dX5_readFor_103 : decode cX5_readFor 103 = .ok (.iload 4, 2) := by decide +kernel
theorem dX5_readFor_105 : decode cX5_readFor 105 = .ok (.invokevirtual 91, 3) := by decide +kernel
theorem dX5_readFor_108 : decode cX5_readFor 108 = .ok (.iconst 1, 1) := by decide +kernel
theorem dX5_readFor_109 : decode cX5_readFor 109 = .ok (.ireturn, 1) := by decide +kernel
theorem dX5_readHabit_0 : decode cX5_readHabit 0 = .ok (.iload_n 0, 1) := by decide +kernel
theorem dX5_readHabit_1 : decode cX5_readHabit 1 = .ok (.iconst 1, 1) := by decide +kernel
theorem dX5_readHabit_2 : decode cX5_readHabit 2 = .ok (.if_icmp .ne 24, 3) := by decide +kernel
theorem dX5_readHabit_5 : decode cX5_readHabit 5 = .ok (.aload_n 2, 1) := by decide +kernel
theorem dX5_readHabit_6 : decode cX5_readHabit 6 = .ok (.aload_n 1, 1) := by decide +kernel
theorem dX5_readHabit_7 : decode cX5_readHabit 7 = .ok (.iconst 1, 1) := by decide +kernel
theorem dX5_readHabit_8 : decode cX5_readHabit 8 = .ok (.bipush 20, 2) := by decide +kernel
theorem dX5_readHabit_10 : decode cX5_readHabit 10 = .ok (.invokevirtual 78, 3) := by decide +kernel
theorem dX5_readHabit_13 : decode cX5_readHabit 13 = .ok (.putfield 101, 3) := by decide +kernel
theorem dX5_readHabit_16 : decode cX5_readHabit 16 = .ok (.aload_n 2, 1) := by decide +kernel
theorem dX5_readHabit_17 : decode cX5_readHabit 17 = .ok (.getfield 101, 3) := by decide +kernel
theorem dX5_readHabit_20 : decode cX5_readHabit 20 = .ok (.iconst (-1), 1) := by decide +kernel
theorem dX5_readHabit_21 : decode cX5_readHabit 21 = .ok (.if_icmp .ne 5, 3) := by decide +kernel
theorem dX5_readHabit_24 : decode cX5_readHabit 24 = .ok (.iconst 0, 1) := by decide +kernel
theorem dX5_readHabit_25 : decode cX5_readHabit 25 = .ok (.ireturn, 1) := by decide +kernel
theorem dX5_readHabit_26 : decode cX5_readHabit 26 = .ok (.iload_n 0, 1) := by decide +kernel
theorem dX5_readHabit_27 : decode cX5_readHabit 27 = .ok (.iconst 3, 1) := by decide +kernel
theorem dX5_readHabit_28 : decode cX5_readHabit 28 = .ok (.if_icmp .ne 33, 3) := by decide +kernel
theorem dX5_readHabit_31 : decode cX5_readHabit 31 = .ok (.aload_n 1, 1) := by decide +kernel
theorem dX5_readHabit_32 : decode cX5_readHabit 32 = .ok (.invokevirtual 29, 3) := by decide +kernel
theorem dX5_readHabit_35 : decode cX5_readHabit 35 = .ok (.aload_n 2, 1) := by decide +kernel
theorem dX5_readHabit_36 : decode cX5_readHabit 36 = .ok (.aload_n 1, 1) := by decide +kernel
theorem dX5_readHabit_37 : decode cX5_readHabit 37 = .ok (.invokestatic 104, 3) := by decide +kernel
theorem dX5_readHabit_40 : decode cX5_readHabit 40 = .ok (.putfield 107, 3) := by decide +kernel
theorem dX5_readHabit_43 : decode cX5_readHabit 43 = .ok (.aload_n 2, 1) := by decide +kernel
theorem dX5_readHabit_44 : decode cX5_readHabit 44 = .ok (.getfield 107, 3) := by decide +kernel
theorem dX5_readHabit_47 : decode cX5_readHabit 47 = .ok (.iconst (-1), 1) := by decide +kernel
theorem dX5_readHabit_48 : decode cX5_readHabit 48 = .ok (.if_icmp .ne 13, 3) := by decide +kernel
theorem dX5_readHabit_51 : decode cX5_readHabit 51 = .ok (.aload_n 1, 1) := by decide +kernel
theorem dX5_readHabit_52 : decode cX5_readHabit 52 = .ok (.iconst 1, 1) := by decide +kernel
theorem dX5_readHabit_53 : decode cX5_readHabit 53 = .ok (.aload_n 1, 1) := by decide +kernel
theorem dX5_readHabit_54 : decode cX5_readHabit 54 = .ok (.getfield 36, 3) := by decide +kernel
theorem dX5_readHabit_57 : decode cX5_readHabit 57 = .ok (.invokevirtual 40, 3) := by decide +kernel
theorem dX5_readHabit_60 : decode cX5_readHabit 60 = .ok (.ireturn, 1) := by decide +kernel
theorem dX5_readHabit_61 : decode cX5_readHabit 61 = .ok (.aload_n 1, 1) := by decide +kernel
theorem dX5_readHabit_62 : decode cX5_readHabit 62 = .ok (.iconst 1, 1) := by decide +kernel
theorem dX5_readHabit_63 : decode cX5_readHabit 63 = .ok (.bipush 99, 2) := by decide +kernel
theorem dX5_readHabit_65 : decode cX5_readHabit 65 = .ok (.invokevirtual 78, 3) := by decide +kernel
theorem dX5_readHabit_68 : decode cX5_readHabit 68 = .ok (.istore_n 3, 1) := by decide +kernel
theorem dX5_readHabit_69 : decode cX5_readHabit 69 = .ok (.aload_n 2, 1) := by decide +kernel
theorem dX5_readHabit_70 : decode cX5_readHabit 70 = .ok (.getfield 110, 3) := by decide +kernel
theorem dX5_readHabit_73 : decode cX5_readHabit 73 = .ok (.iload_n 0, 1) := by decide +kernel
theorem dX5_readHabit_74 : decode cX5_readHabit 74 = .ok (.iload_n 3, 1) := by decide +kernel
theorem dX5_readHabit_75 : decode cX5_readHabit 75 = .ok (.invokevirtual 113, 3) := by decide +kernel
theorem dX5_readHabit_78 : decode cX5_readHabit 78 = .ok (.iload_n 3, 1) := by decide +kernel
theorem dX5_readHabit_79 : decode cX5_readHabit 79 = .ok (.iconst (-1), 1) := by decide +kernel
theorem dX5_readHabit_80 : decode cX5_readHabit 80 = .ok (.if_icmp .eq 7, 3) := by decide +kernel
theorem dX5_readHabit_83 : decode cX5_readHabit 83 = .ok (.iconst 1, 1) := by decide +kernel
theorem dX5_readHabit_84 : decode cX5_readHabit 84 = .ok (.goto 4, 3) := by decide +kernel
theorem dX5_readHabit_87 : decode cX5_readHabit 87 = .ok (.iconst 0, 1) := by decide +kernel
theorem dX5_readHabit_88 : decode cX5_readHabit 88 = .ok (.ireturn, 1) := by decide +kernel
theorem dX5_wayTold_0 : decode cX5_wayTold 0 = .ok (.iconst 0, 1) := by decide +kernel
theorem dX5_wayTold_1 : decode cX5_wayTold 1 = .ok (.istore_n 1, 1) := by decide +kernel
theorem dX5_wayTold_2 : decode cX5_wayTold 2 = .ok (.iload_n 1, 1) := by decide +kernel
theorem dX5_wayTold_3 : decode cX5_wayTold 3 = .ok (.iconst 3, 1) := by decide +kernel
theorem dX5_wayTold_4 : decode cX5_wayTold 4 = .ok (.if_icmp .ge 22, 3) := by decide +kernel
theorem dX5_wayTold_7 : decode cX5_wayTold 7 = .ok (.aload_n 0, 1) := by decide +kernel
theorem dX5_wayTold_8 : decode cX5_wayTold 8 = .ok (.iload_n 1, 1) := by decide +kernel
theorem dX5_wayTold_9 : decode cX5_wayTold 9 = .ok (.invokestatic 117, 3) := by decide +kernel
theorem dX5_wayTold_12 : decode cX5_wayTold 12 = .ok (.invokevirtual 62, 3) := by decide +kernel
theorem dX5_wayTold_15 : decode cX5_wayTold 15 = .ok (.ifCond .eq 5, 3) := by decide +kernel
theorem dX5_wayTold_18 : decode cX5_wayTold 18 = .ok (.iload_n 1, 1) := by decide +kernel
theorem dX5_wayTold_19 : decode cX5_wayTold 19 = .ok (.ireturn, 1) := by decide +kernel
theorem dX5_wayTold_20 : decode cX5_wayTold 20 = .ok (.iinc 1 1, 3) := by decide +kernel
theorem dX5_wayTold_23 : decode cX5_wayTold 23 = .ok (.goto (-21), 3) := by decide +kernel
theorem dX5_wayTold_26 : decode cX5_wayTold 26 = .ok (.iconst (-1), 1) := by decide +kernel
theorem dX5_wayTold_27 : decode cX5_wayTold 27 = .ok (.ireturn, 1) := by decide +kernel
theorem dX5_wayName_0 : decode cX5_wayName 0 = .ok (.iload_n 0, 1) := by decide +kernel
theorem dX5_wayName_1 : decode cX5_wayName 1 = .ok (.lookupswitch 33 #[(0, 27), (1, 30)], 27) := by decide +kernel
theorem dX5_wayName_28 : decode cX5_wayName 28 = .ok (.ldc 120, 2) := by decide +kernel
theorem dX5_wayName_30 : decode cX5_wayName 30 = .ok (.areturn, 1) := by decide +kernel
theorem dX5_wayName_31 : decode cX5_wayName 31 = .ok (.ldc 122, 2) := by decide +kernel
theorem dX5_wayName_33 : decode cX5_wayName 33 = .ok (.areturn, 1) := by decide +kernel
theorem dX5_wayName_34 : decode cX5_wayName 34 = .ok (.ldc 124, 2) := by decide +kernel
theorem dX5_wayName_36 : decode cX5_wayName 36 = .ok (.areturn, 1) := by decide +kernel
theorem dX6_init_0 : decode cX6_init 0 = .ok (.aload_n 0, 1) := by decide +kernel
theorem dX6_init_1 : decode cX6_init 1 = .ok (.invokespecial 3, 3) := by decide +kernel
theorem dX6_init_4 : decode cX6_init 4 = .ok (.aload_n 0, 1) := by decide +kernel
theorem dX6_init_5 : decode cX6_init 5 = .ok (.iconst 0, 1) := by decide +kernel
theorem dX6_init_6 : decode cX6_init 6 = .ok (.putfield 9, 3) := by decide +kernel
theorem dX6_init_9 : decode cX6_init 9 = .ok (.aload_n 0, 1) := by decide +kernel
