theorem dX12_doTurn_99 : decode cX12_doTurn 99 = .ok (.iconst 0, 1) := by decide +kernel
theorem dX12_doTurn_100 : decode cX12_doTurn 100 = .ok (.iadd, 1) := by decide +kernel
theorem dX12_doTurn_101 : decode cX12_doTurn 101 = .ok (.istore_n 3, 1) := by decide +kernel
theorem dX12_doTurn_102 : decode cX12_doTurn 102 = .ok (.iload 5, 2) := by decide +kernel
theorem dX12_doTurn_104 : decode cX12_doTurn 104 = .ok (.ifCond .eq 17, 3) := by decide +kernel
theorem dX12_doTurn_107 : decode cX12_doTurn 107 = .ok (.aload_n 0, 1) := by decide +kernel
theorem dX12_doTurn_108 : decode cX12_doTurn 108 = .ok (.iconst 2, 1) := by decide +kernel
theorem dX12_doTurn_109 : decode cX12_doTurn 109 = .ok (.iload_n 3, 1) := by decide +kernel
theorem dX12_doTurn_110 : decode cX12_doTurn 110 = .ok (.iload_n 2, 1) := by decide +kernel
theorem dX12_doTurn_111 : decode cX12_doTurn 111 = .ok (.invokevirtual 342, 3) := by decide +kernel
theorem dX12_doTurn_114 : decode cX12_doTurn 114 = .ok (.ifCond .eq 7, 3) := by decide +kernel
theorem dX12_doTurn_117 : decode cX12_doTurn 117 = .ok (.iconst 1, 1) := by decide +kernel
theorem dX12_doTurn_118 : decode cX12_doTurn 118 = .ok (.goto 4, 3) := by decide +kernel
theorem dX12_doTurn_121 : decode cX12_doTurn 121 = .ok (.iconst 0, 1) := by decide +kernel
theorem dX12_doTurn_122 : decode cX12_doTurn 122 = .ok (.istore 6, 2) := by decide +kernel
theorem dX12_doTurn_124 : decode cX12_doTurn 124 = .ok (.iload 6, 2) := by decide +kernel
theorem dX12_doTurn_126 : decode cX12_doTurn 126 = .ok (.ifCond .eq 39, 3) := by decide +kernel
theorem dX12_doTurn_129 : decode cX12_doTurn 129 = .ok (.aload_n 0, 1) := by decide +kernel
theorem dX12_doTurn_130 : decode cX12_doTurn 130 = .ok (.getfield 13, 3) := by decide +kernel
theorem dX12_doTurn_133 : decode cX12_doTurn 133 = .ok (.iload 4, 2) := by decide +kernel
theorem dX12_doTurn_135 : decode cX12_doTurn 135 = .ok (.iaload, 1) := by decide +kernel
theorem dX12_doTurn_136 : decode cX12_doTurn 136 = .ok (.istore 7, 2) := by decide +kernel
theorem dX12_doTurn_138 : decode cX12_doTurn 138 = .ok (.aload_n 0, 1) := by decide +kernel
theorem dX12_doTurn_139 : decode cX12_doTurn 139 = .ok (.getfield 13, 3) := by decide +kernel
theorem dX12_doTurn_142 : decode cX12_doTurn 142 = .ok (.iload 4, 2) := by decide +kernel
theorem dX12_doTurn_144 : decode cX12_doTurn 144 = .ok (.aload_n 0, 1) := by decide +kernel
theorem dX12_doTurn_145 : decode cX12_doTurn 145 = .ok (.getfield 13, 3) := by decide +kernel
theorem dX12_doTurn_148 : decode cX12_doTurn 148 = .ok (.iload 4, 2) := by decide +kernel
theorem dX12_doTurn_150 : decode cX12_doTurn 150 = .ok (.iconst 1, 1) := by decide +kernel
theorem dX12_doTurn_151 : decode cX12_doTurn 151 = .ok (.iadd, 1) := by decide +kernel
theorem dX12_doTurn_152 : decode cX12_doTurn 152 = .ok (.iaload, 1) := by decide +kernel
theorem dX12_doTurn_153 : decode cX12_doTurn 153 = .ok (.iastore, 1) := by decide +kernel
theorem dX12_doTurn_154 : decode cX12_doTurn 154 = .ok (.aload_n 0, 1) := by decide +kernel
theorem dX12_doTurn_155 : decode cX12_doTurn 155 = .ok (.getfield 13, 3) := by decide +kernel
theorem dX12_doTurn_158 : decode cX12_doTurn 158 = .ok (.iload 4, 2) := by decide +kernel
theorem dX12_doTurn_160 : decode cX12_doTurn 160 = .ok (.iconst 1, 1) := by decide +kernel
theorem dX12_doTurn_161 : decode cX12_doTurn 161 = .ok (.iadd, 1) := by decide +kernel
theorem dX12_doTurn_162 : decode cX12_doTurn 162 = .ok (.iload 7, 2) := by decide +kernel
theorem dX12_doTurn_164 : decode cX12_doTurn 164 = .ok (.iastore, 1) := by decide +kernel
theorem dX12_doTurn_165 : decode cX12_doTurn 165 = .ok (.iload 4, 2) := by decide +kernel
theorem dX12_doTurn_167 : decode cX12_doTurn 167 = .ok (.iload 6, 2) := by decide +kernel
theorem dX12_doTurn_169 : decode cX12_doTurn 169 = .ok (.ifCond .eq 7, 3) := by decide +kernel
theorem dX12_doTurn_172 : decode cX12_doTurn 172 = .ok (.iconst 2, 1) := by decide +kernel
theorem dX12_doTurn_173 : decode cX12_doTurn 173 = .ok (.goto 4, 3) := by decide +kernel
theorem dX12_doTurn_176 : decode cX12_doTurn 176 = .ok (.iconst 1, 1) := by decide +kernel
theorem dX12_doTurn_177 : decode cX12_doTurn 177 = .ok (.iadd, 1) := by decide +kernel
theorem dX12_doTurn_178 : decode cX12_doTurn 178 = .ok (.istore 4, 2) := by decide +kernel
theorem dX12_doTurn_180 : decode cX12_doTurn 180 = .ok (.goto (-161), 3) := by decide +kernel
theorem dX12_doTurn_183 : decode cX12_doTurn 183 = .ok (.return_, 1) := by decide +kernel
theorem dX12_firstOf_0 : decode cX12_firstOf 0 = .ok (.iconst 0, 1) := by decide +kernel
theorem dX12_firstOf_1 : decode cX12_firstOf 1 = .ok (.istore 4, 2) := by decide +kernel
theorem dX12_firstOf_3 : decode cX12_firstOf 3 = .ok (.aload_n 0, 1) := by decide +kernel
theorem dX12_firstOf_4 : decode cX12_firstOf 4 = .ok (.iload_n 1, 1) := by decide +kernel
theorem dX12_firstOf_5 : decode cX12_firstOf 5 = .ok (.iload_n 2, 1) := by decide +kernel
theorem dX12_firstOf_6 : decode cX12_firstOf 6 = .ok (.iload 4, 2) := by decide +kernel
theorem dX12_firstOf_8 : decode cX12_firstOf 8 = .ok (.invokevirtual 308, 3) := by decide +kernel
theorem dX12_firstOf_11 : decode cX12_firstOf 11 = .ok (.iload_n 3, 1) := by decide +kernel
theorem dX12_firstOf_12 : decode cX12_firstOf 12 = .ok (.if_icmp .eq 9, 3) := by decide +kernel
theorem dX12_firstOf_15 : decode cX12_firstOf 15 = .ok (.iinc 4 1, 3) := by decide +kernel
theorem dX12_firstOf_18 : decode cX12_firstOf 18 = .ok (.goto (-15), 3) := by decide +kernel
theorem dX12_firstOf_21 : decode cX12_firstOf 21 = .ok (.iload 4, 2) := by decide +kernel
theorem dX12_firstOf_23 : decode cX12_firstOf 23 = .ok (.ireturn, 1) := by decide +kernel
theorem dX12_lemmaSize_0 : decode cX12_lemmaSize 0 = .ok (.iconst 0, 1) := by decide +kernel
theorem dX12_lemmaSize_1 : decode cX12_lemmaSize 1 = .ok (.istore 4, 2) := by decide +kernel
theorem dX12_lemmaSize_3 : decode cX12_lemmaSize 3 = .ok (.iconst 0, 1) := by decide +kernel
theorem dX12_lemmaSize_4 : decode cX12_lemmaSize 4 = .ok (.istore 5, 2) := by decide +kernel
theorem dX12_lemmaSize_6 : decode cX12_lemmaSize 6 = .ok (.iload 5, 2) := by decide +kernel
theorem dX12_lemmaSize_8 : decode cX12_lemmaSize 8 = .ok (.aload_n 0, 1) := by decide +kernel
theorem dX12_lemmaSize_9 : decode cX12_lemmaSize 9 = .ok (.iload_n 1, 1) := by decide +kernel
theorem dX12_lemmaSize_10 : decode cX12_lemmaSize 10 = .ok (.iload_n 2, 1) := by decide +kernel
theorem dX12_lemmaSize_11 : decode cX12_lemmaSize 11 = .ok (.invokevirtual 194, 3) := by decide +kernel
theorem dX12_lemmaSize_14 : decode cX12_lemmaSize 14 = .ok (.if_icmp .ge 31, 3) := by decide +kernel
theorem dX12_lemmaSize_17 : decode cX12_lemmaSize 17 = .ok (.iload 4, 2) := by decide +kernel
theorem dX12_lemmaSize_19 : decode cX12_lemmaSize 19 = .ok (.aload_n 0, 1) := by decide +kernel
theorem dX12_lemmaSize_20 : decode cX12_lemmaSize 20 = .ok (.iload_n 1, 1) := by decide +kernel
theorem dX12_lemmaSize_21 : decode cX12_lemmaSize 21 = .ok (.iload_n 2, 1) := by decide +kernel
theorem dX12_lemmaSize_22 : decode cX12_lemmaSize 22 = .ok (.iload 5, 2) := by decide +kernel
theorem dX12_lemmaSize_24 : decode cX12_lemmaSize 24 = .ok (.invokevirtual 308, 3) := by decide +kernel
theorem dX12_lemmaSize_27 : decode cX12_lemmaSize 27 = .ok (.iload_n 3, 1) := by decide +kernel
theorem dX12_lemmaSize_28 : decode cX12_lemmaSize 28 = .ok (.if_icmp .ne 7, 3) := by decide +kernel
theorem dX12_lemmaSize_31 : decode cX12_lemmaSize 31 = .ok (.iconst 1, 1) := by decide +kernel
theorem dX12_lemmaSize_32 : decode cX12_lemmaSize 32 = .ok (.goto 4, 3) := by decide +kernel
theorem dX12_lemmaSize_35 : decode cX12_lemmaSize 35 = .ok (.iconst 0, 1) := by decide +kernel
theorem dX12_lemmaSize_36 : decode cX12_lemmaSize 36 = .ok (.iadd, 1) := by decide +kernel
theorem dX12_lemmaSize_37 : decode cX12_lemmaSize 37 = .ok (.istore 4, 2) := by decide +kernel
theorem dX12_lemmaSize_39 : decode cX12_lemmaSize 39 = .ok (.iinc 5 1, 3) := by decide +kernel
theorem dX12_lemmaSize_42 : decode cX12_lemmaSize 42 = .ok (.goto (-36), 3) := by decide +kernel
theorem dX12_lemmaSize_45 : decode cX12_lemmaSize 45 = .ok (.iload 4, 2) := by decide +kernel
theorem dX12_lemmaSize_47 : decode cX12_lemmaSize 47 = .ok (.ireturn, 1) := by decide +kernel
theorem dX12_makeRoom_0 : decode cX12_makeRoom 0 = .ok (.aload_n 0, 1) := by decide +kernel
theorem dX12_makeRoom_1 : decode cX12_makeRoom 1 = .ok (.getfield 7, 3) := by decide +kernel
theorem dX12_makeRoom_4 : decode cX12_makeRoom 4 = .ok (.bipush 10, 2) := by decide +kernel
theorem dX12_makeRoom_6 : decode cX12_makeRoom 6 = .ok (.iaload, 1) := by decide +kernel
theorem dX12_makeRoom_7 : decode cX12_makeRoom 7 = .ok (.iconst 1, 1) := by decide +kernel
theorem dX12_makeRoom_8 : decode cX12_makeRoom 8 = .ok (.isub, 1) := by decide +kernel
theorem dX12_makeRoom_9 : decode cX12_makeRoom 9 = .ok (.istore_n 3, 1) := by decide +kernel
theorem dX12_makeRoom_10 : decode cX12_makeRoom 10 = .ok (.iload_n 3, 1) := by decide +kernel
theorem dX12_makeRoom_11 : decode cX12_makeRoom 11 = .ok (.iload_n 1, 1) := by decide +kernel
theorem dX12_makeRoom_12 : decode cX12_makeRoom 12 = .ok (.if_icmp .lt 53, 3) := by decide +kernel
theorem dX12_makeRoom_15 : decode cX12_makeRoom 15 = .ok (.aload_n 0, 1) := by decide +kernel
theorem dX12_makeRoom_16 : decode cX12_makeRoom 16 = .ok (.getfield 13, 3) := by decide +kernel
theorem dX12_makeRoom_19 : decode cX12_makeRoom 19 = .ok (.sipush 400, 3) := by decide +kernel
theorem dX12_makeRoom_22 : decode cX12_makeRoom 22 = .ok (.iload_n 3, 1) := by decide +kernel
theorem dX12_makeRoom_23 : decode cX12_makeRoom 23 = .ok (.iadd, 1) := by decide +kernel
theorem dX12_makeRoom_24 : decode cX12_makeRoom 24 = .ok (.iload_n 2, 1) := by decide +kernel
theorem dX12_makeRoom_25 : decode cX12_makeRoom 25 = .ok (.iadd, 1) := by decide +kernel
theorem dX12_makeRoom_26 : decode cX12_makeRoom 26 = .ok (.aload_n 0, 1) := by decide +kernel
theorem dX12_makeRoom_27 : decode cX12_makeRoom 27 = .ok (.getfield 13, 3) := by decide +kernel
theorem dX12_makeRoom_30 : decode cX12_makeRoom 30 = .ok (.sipush 400, 3) := by decide +kernel
theorem dX12_makeRoom_33 : decode cX12_makeRoom 33 = .ok (.iload_n 3, 1) := by decide +kernel
theorem dX12_makeRoom_34 : decode cX12_makeRoom 34 = .ok (.iadd, 1) := by decide +kernel
theorem dX12_makeRoom_35 : decode cX12_makeRoom 35 = .ok (.iaload, 1) := by decide +kernel
theorem dX12_makeRoom_36 : decode cX12_makeRoom 36 = .ok (.iastore, 1) := by decide +kernel
theorem dX12_makeRoom_37 : decode cX12_makeRoom 37 = .ok (.aload_n 0, 1) := by decide +kernel
theorem dX12_makeRoom_38 : decode cX12_makeRoom 38 = .ok (.getfield 16, 3) := by decide +kernel
theorem dX12_makeRoom_41 : decode cX12_makeRoom 41 = .ok (.sipush 400, 3) := by decide +kernel
theorem dX12_makeRoom_44 : decode cX12_makeRoom 44 = .ok (.iload_n 3, 1) := by decide +kernel
theorem dX12_makeRoom_45 : decode cX12_makeRoom 45 = .ok (.iadd, 1) := by decide +kernel
theorem dX12_makeRoom_46 : decode cX12_makeRoom 46 = .ok (.iload_n 2, 1) := by decide +kernel
theorem dX12_makeRoom_47 : decode cX12_makeRoom 47 = .ok (.iadd, 1) := by decide +kernel
theorem dX12_makeRoom_48 : decode cX12_makeRoom 48 = .ok (.aload_n 0, 1) := by decide +kernel
theorem dX12_makeRoom_49 : decode cX12_makeRoom 49 = .ok (.getfield 16, 3) := by decide +kernel
theorem dX12_makeRoom_52 : decode cX12_makeRoom 52 = .ok (.sipush 400, 3) := by decide +kernel
theorem dX12_makeRoom_55 : decode cX12_makeRoom 55 = .ok (.iload_n 3, 1) := by decide +kernel
theorem dX12_makeRoom_56 : decode cX12_makeRoom 56 = .ok (.iadd, 1) := by decide +kernel
theorem dX12_makeRoom_57 : decode cX12_makeRoom 57 = .ok (.iaload, 1) := by decide +kernel
theorem dX12_makeRoom_58 : decode cX12_makeRoom 58 = .ok (.iastore, 1) := by decide +kernel
theorem dX12_makeRoom_59 : decode cX12_makeRoom 59 = .ok (.iinc 3 (-1), 3) := by decide +kernel
theorem dX12_makeRoom_62 : decode cX12_makeRoom 62 = .ok (.goto (-52), 3) := by decide +kernel
theorem dX12_makeRoom_65 : decode cX12_makeRoom 65 = .ok (.aload_n 0, 1) := by decide +kernel
theorem dX12_makeRoom_66 : decode cX12_makeRoom 66 = .ok (.getfield 7, 3) := by decide +kernel
theorem dX12_makeRoom_69 : decode cX12_makeRoom 69 = .ok (.bipush 10, 2) := by decide +kernel
theorem dX12_makeRoom_71 : decode cX12_makeRoom 71 = .ok (.dup2, 1) := by decide +kernel
theorem dX12_makeRoom_72 : decode cX12_makeRoom 72 = .ok (.iaload, 1) := by decide +kernel
theorem dX12_makeRoom_73 : decode cX12_makeRoom 73 = .ok (.iload_n 2, 1) := by decide +kernel
theorem dX12_makeRoom_74 : decode cX12_makeRoom 74 = .ok (.iadd, 1) := by decide +kernel
theorem dX12_makeRoom_75 : decode cX12_makeRoom 75 = .ok (.iastore, 1) := by decide +kernel
theorem dX12_makeRoom_76 : decode cX12_makeRoom 76 = .ok (.return_, 1) := by decide +kernel
theorem dX12_slips_0 : decode cX12_slips 0 = .ok (.sipush 200, 3) := by decide +kernel
theorem dX12_slips_3 : decode cX12_slips 3 = .ok (.iload_n 1, 1) := by decide +kernel
theorem dX12_slips_4 : decode cX12_slips 4 = .ok (.iadd, 1) := by decide +kernel
theorem dX12_slips_5 : decode cX12_slips 5 = .ok (.istore_n 3, 1) := by decide +kernel
theorem dX12_slips_6 : decode cX12_slips 6 = .ok (.aload_n 0, 1) := by decide +kernel
theorem dX12_slips_7 : decode cX12_slips 7 = .ok (.getfield 28, 3) := by decide +kernel
theorem dX12_slips_10 : decode cX12_slips 10 = .ok (.iload_n 3, 1) := by decide +kernel
theorem dX12_slips_11 : decode cX12_slips 11 = .ok (.iaload, 1) := by decide +kernel
theorem dX12_slips_12 : decode cX12_slips 12 = .ok (.istore 4, 2) := by decide +kernel
theorem dX12_slips_14 : decode cX12_slips 14 = .ok (.aload_n 0, 1) := by decide +kernel
theorem dX12_slips_15 : decode cX12_slips 15 = .ok (.bipush 10, 2) := by decide +kernel
theorem dX12_slips_17 : decode cX12_slips 17 = .ok (.iconst (-1), 1) := by decide +kernel
theorem dX12_slips_18 : decode cX12_slips 18 = .ok (.iload 4, 2) := by decide +kernel
theorem dX12_slips_20 : decode cX12_slips 20 = .ok (.invokevirtual 359, 3) := by decide +kernel
theorem dX12_slips_23 : decode cX12_slips 23 = .ok (.istore 5, 2) := by decide +kernel
theorem dX12_slips_25 : decode cX12_slips 25 = .ok (.aload_n 0, 1) := by decide +kernel
theorem dX12_slips_26 : decode cX12_slips 26 = .ok (.bipush 10, 2) := by decide +kernel
theorem dX12_slips_28 : decode cX12_slips 28 = .ok (.iconst (-1), 1) := by decide +kernel
theorem dX12_slips_29 : decode cX12_slips 29 = .ok (.iload 4, 2) := by decide +kernel
theorem dX12_slips_31 : decode cX12_slips 31 = .ok (.invokevirtual 362, 3) := by decide +kernel
theorem dX12_slips_34 : decode cX12_slips 34 = .ok (.istore 6, 2) := by decide +kernel
theorem dX12_slips_36 : decode cX12_slips 36 = .ok (.iload_n 2, 1) := by decide +kernel
theorem dX12_slips_37 : decode cX12_slips 37 = .ok (.iconst 1, 1) := by decide +kernel
theorem dX12_slips_38 : decode cX12_slips 38 = .ok (.if_icmp .ne 11, 3) := by decide +kernel
theorem dX12_slips_41 : decode cX12_slips 41 = .ok (.iload 5, 2) := by decide +kernel
theorem dX12_slips_43 : decode cX12_slips 43 = .ok (.iload 6, 2) := by decide +kernel
theorem dX12_slips_45 : decode cX12_slips 45 = .ok (.iadd, 1) := by decide +kernel
theorem dX12_slips_46 : decode cX12_slips 46 = .ok (.goto 5, 3) := by decide +kernel
theorem dX12_slips_49 : decode cX12_slips 49 = .ok (.iload 5, 2) := by decide +kernel
theorem dX12_slips_51 : decode cX12_slips 51 = .ok (.istore 7, 2) := by decide +kernel
theorem dX12_slips_53 : decode cX12_slips 53 = .ok (.iload_n 2, 1) := by decide +kernel
theorem dX12_slips_54 : decode cX12_slips 54 = .ok (.iconst 2, 1) := by decide +kernel
theorem dX12_slips_55 : decode cX12_slips 55 = .ok (.if_icmp .ne 82, 3) := by decide +kernel
theorem dX12_slips_58 : decode cX12_slips 58 = .ok (.sipush 400, 3) := by decide +kernel
theorem dX12_slips_61 : decode cX12_slips 61 = .ok (.iload 5, 2) := by decide +kernel
theorem dX12_slips_63 : decode cX12_slips 63 = .ok (.iadd, 1) := by decide +kernel
theorem dX12_slips_64 : decode cX12_slips 64 = .ok (.istore 8, 2) := by decide +kernel
theorem dX12_slips_66 : decode cX12_slips 66 = .ok (.iload 8, 2) := by decide +kernel
theorem dX12_slips_68 : decode cX12_slips 68 = .ok (.iload 6, 2) := by decide +kernel
theorem dX12_slips_70 : decode cX12_slips 70 = .ok (.iadd, 1) := by decide +kernel
theorem dX12_slips_71 : decode cX12_slips 71 = .ok (.sipush 400, 3) := by decide +kernel
theorem dX12_slips_74 : decode cX12_slips 74 = .ok (.aload_n 0, 1) := by decide +kernel
theorem dX12_slips_75 : decode cX12_slips 75 = .ok (.getfield 7, 3) := by decide +kernel
theorem dX12_slips_78 : decode cX12_slips 78 = .ok (.bipush 10, 2) := by decide +kernel
theorem dX12_slips_80 : decode cX12_slips 80 = .ok (.iaload, 1) := by decide +kernel
theorem dX12_slips_81 : decode cX12_slips 81 = .ok (.iadd, 1) := by decide +kernel
theorem dX12_slips_82 : decode cX12_slips 82 = .ok (.if_icmp .ge 43, 3) := by decide +kernel
theorem dX12_slips_85 : decode cX12_slips 85 = .ok (.aload_n 0, 1) := by decide +kernel
theorem dX12_slips_86 : decode cX12_slips 86 = .ok (.getfield 13, 3) := by decide +kernel
theorem dX12_slips_89 : decode cX12_slips 89 = .ok (.iload 8, 2) := by decide +kernel
theorem dX12_slips_91 : decode cX12_slips 91 = .ok (.aload_n 0, 1) := by decide +kernel
theorem dX12_slips_92 : decode cX12_slips 92 = .ok (.getfield 13, 3) := by decide +kernel
theorem dX12_slips_95 : decode cX12_slips 95 = .ok (.iload 8, 2) := by decide +kernel
theorem dX12_slips_97 : decode cX12_slips 97 = .ok (.iload 6, 2) := by decide +kernel
theorem dX12_slips_99 : decode cX12_slips 99 = .ok (.iadd, 1) := by decide +kernel
theorem dX12_slips_100 : decode cX12_slips 100 = .ok (.iaload, 1) := by decide +kernel
theorem dX12_slips_101 : decode cX12_slips 101 = .ok (.iastore, 1) := by decide +kernel
theorem dX12_slips_102 : decode cX12_slips 102 = .ok (.aload_n 0, 1) := by decide +kernel
theorem dX12_slips_103 : decode cX12_slips 103 = .ok (.getfield 16, 3) := by decide +kernel
theorem dX12_slips_106 : decode cX12_slips 106 = .ok (.iload 8, 2) := by decide +kernel
theorem dX12_slips_108 : decode cX12_slips 108 = .ok (.aload_n 0, 1) := by decide +kernel
theorem dX12_slips_109 : decode cX12_slips 109 = .ok (.getfield 16, 3) := by decide +kernel
theorem dX12_slips_112 : decode cX12_slips 112 = .ok (.iload 8, 2) := by decide +kernel
theorem dX12_slips_114 : decode cX12_slips 114 = .ok (.iload 6, 2) := by decide +kernel
theorem dX12_slips_116 : decode cX12_slips 116 = .ok (.iadd, 1) := by decide +kernel
theorem dX12_slips_117 : decode cX12_slips 117 = .ok (.iaload, 1) := by decide +kernel
theorem dX12_slips_118 : decode cX12_slips 118 = .ok (.iastore, 1) := by decide +kernel
theorem dX12_slips_119 : decode cX12_slips 119 = .ok (.iinc 8 1, 3) := by decide +kernel
theorem dX12_slips_122 : decode cX12_slips 122 = .ok (.goto (-56), 3) := by decide +kernel
theorem dX12_slips_125 : decode cX12_slips 125 = .ok (.aload_n 0, 1) := by decide +kernel
theorem dX12_slips_126 : decode cX12_slips 126 = .ok (.getfield 7, 3) := by decide +kernel
theorem dX12_slips_129 : decode cX12_slips 129 = .ok (.bipush 10, 2) := by decide +kernel
theorem dX12_slips_131 : decode cX12_slips 131 = .ok (.dup2, 1) := by decide +kernel
theorem dX12_slips_132 : decode cX12_slips 132 = .ok (.iaload, 1) := by decide +kernel
theorem dX12_slips_133 : decode cX12_slips 133 = .ok (.iload 6, 2) := by decide +kernel
theorem dX12_slips_135 : decode cX12_slips 135 = .ok (.isub, 1) := by decide +kernel
theorem dX12_slips_136 : decode cX12_slips 136 = .ok (.iastore, 1) := by decide +kernel
theorem dX12_slips_137 : decode cX12_slips 137 = .ok (.aload_n 0, 1) := by decide +kernel
theorem dX12_slips_138 : decode cX12_slips 138 = .ok (.iload 7, 2) := by decide +kernel
theorem dX12_slips_140 : decode cX12_slips 140 = .ok (.aload_n 0, 1) := by decide +kernel
theorem dX12_slips_141 : decode cX12_slips 141 = .ok (.getfield 31, 3) := by decide +kernel
theorem dX12_slips_144 : decode cX12_slips 144 = .ok (.iload_n 3, 1) := by decide +kernel
theorem dX12_slips_145 : decode cX12_slips 145 = .ok (.iaload, 1) := by decide +kernel
theorem dX12_slips_146 : decode cX12_slips 146 = .ok (.invokevirtual 365, 3) := by decide +kernel
theorem dX12_slips_149 : decode cX12_slips 149 = .ok (.iconst 0, 1) := by decide +kernel
theorem dX12_slips_150 : decode cX12_slips 150 = .ok (.istore 8, 2) := by decide +kernel
theorem dX12_slips_152 : decode cX12_slips 152 = .ok (.iload 8, 2) := by decide +kernel
theorem dX12_slips_154 : decode cX12_slips 154 = .ok (.aload_n 0, 1) := by decide +kernel
theorem dX12_slips_155 : decode cX12_slips 155 = .ok (.getfield 31, 3) := by decide +kernel
theorem dX12_slips_158 : decode cX12_slips 158 = .ok (.iload_n 3, 1) := by decide +kernel
theorem dX12_slips_159 : decode cX12_slips 159 = .ok (.iaload, 1) := by decide +kernel
theorem dX12_slips_160 : decode cX12_slips 160 = .ok (.if_icmp .ge 60, 3) := by decide +kernel
theorem dX12_slips_163 : decode cX12_slips 163 = .ok (.aload_n 0, 1) := by decide +kernel
theorem dX12_slips_164 : decode cX12_slips 164 = .ok (.getfield 13, 3) := by decide +kernel
theorem dX12_slips_167 : decode cX12_slips 167 = .ok (.sipush 400, 3) := by decide +kernel
theorem dX12_slips_170 : decode cX12_slips 170 = .ok (.iload 7, 2) := by decide +kernel
theorem dX12_slips_172 : decode cX12_slips 172 = .ok (.iadd, 1) := by decide +kernel
theorem dX12_slips_173 : decode cX12_slips 173 = .ok (.iload 8, 2) := by decide +kernel
theorem dX12_slips_175 : decode cX12_slips 175 = .ok (.iadd, 1) := by decide +kernel
theorem dX12_slips_176 : decode cX12_slips 176 = .ok (.aload_n 0, 1) := by decide +kernel
theorem dX12_slips_177 : decode cX12_slips 177 = .ok (.getfield 34, 3) := by decide +kernel
theorem dX12_slips_180 : decode cX12_slips 180 = .ok (.bipush 8, 2) := by decide +kernel
theorem dX12_slips_182 : decode cX12_slips 182 = .ok (.iload_n 3, 1) := by decide +kernel
theorem dX12_slips_183 : decode cX12_slips 183 = .ok (.imul, 1) := by decide +kernel
theorem dX12_slips_184 : decode cX12_slips 184 = .ok (.iload 8, 2) := by decide +kernel
theorem dX12_slips_186 : decode cX12_slips 186 = .ok (.iadd, 1) := by decide +kernel
theorem dX12_slips_187 : decode cX12_slips 187 = .ok (.iaload, 1) := by decide +kernel
theorem dX12_slips_188 : decode cX12_slips 188 = .ok (.iastore, 1) := by decide +kernel
theorem dX12_slips_189 : decode cX12_slips 189 = .ok (.aload_n 0, 1) := by decide +kernel
theorem dX12_slips_190 : decode cX12_slips 190 = .ok (.getfield 16, 3) := by decide +kernel
theorem dX12_slips_193 : decode cX12_slips 193 = .ok (.sipush 400, 3) := by decide +kernel
theorem dX12_slips_196 : decode cX12_slips 196 = .ok (.iload 7, 2) := by decide +kernel
theorem dX12_slips_198 : decode cX12_slips 198 = .ok (.iadd, 1) := by decide +kernel
theorem dX12_slips_199 : decode cX12_slips 199 = .ok (.iload 8, 2) := by decide +kernel
theorem dX12_slips_201 : decode cX12_slips 201 = .ok (.iadd, 1) := by decide +kernel
theorem dX12_slips_202 : decode cX12_slips 202 = .ok (.iload_n 2, 1) := by decide +kernel
theorem dX12_slips_203 : decode cX12_slips 203 = .ok (.iconst 2, 1) := by decide +kernel
theorem dX12_slips_204 : decode cX12_slips 204 = .ok (.if_icmp .ne 8, 3) := by decide +kernel
theorem dX12_slips_207 : decode cX12_slips 207 = .ok (.iload 4, 2) := by decide +kernel
theorem dX12_slips_209 : decode cX12_slips 209 = .ok (.goto 4, 3) := by decide +kernel
theorem dX12_slips_212 : decode cX12_slips 212 = .ok (.iconst (-1), 1) := by decide +kernel
theorem dX12_slips_213 : decode cX12_slips 213 = .ok (.iastore, 1) := by decide +kernel
theorem dX12_slips_214 : decode cX12_slips 214 = .ok (.iinc 8 1, 3) := by decide +kernel
theorem dX12_slips_217 : decode cX12_slips 217 = .ok (.goto (-65), 3) := by decide +kernel
theorem dX12_slips_220 : decode cX12_slips 220 = .ok (.aload_n 0, 1) := by decide +kernel
theorem dX12_slips_221 : decode cX12_slips 221 = .ok (.iload_n 1, 1) := by decide +kernel
theorem dX12_slips_222 : decode cX12_slips 222 = .ok (.invokevirtual 353, 3) := by decide +kernel
theorem dX12_slips_225 : decode cX12_slips 225 = .ok (.return_, 1) := by decide +kernel
theorem dX12_doInto_0 : decode cX12_doInto 0 = .ok (.aload_n 0, 1) := by decide +kernel
theorem dX12_doInto_1 : decode cX12_doInto 1 = .ok (.getfield 77, 3) := by decide +kernel
theorem dX12_doInto_4 : decode cX12_doInto 4 = .ok (.bipush 6, 2) := by decide +kernel
theorem dX12_doInto_6 : decode cX12_doInto 6 = .ok (.iload_n 1, 1) := by decide +kernel
theorem dX12_doInto_7 : decode cX12_doInto 7 = .ok (.imul, 1) := by decide +kernel
theorem dX12_doInto_8 : decode cX12_doInto 8 = .ok (.iconst 3, 1) := by decide +kernel
theorem dX12_doInto_9 : decode cX12_doInto 9 = .ok (.iadd, 1) := by decide +kernel
theorem dX12_doInto_10 : decode cX12_doInto 10 = .ok (.iaload, 1) := by decide +kernel
theorem dX12_doInto_11 : decode cX12_doInto 11 = .ok (.istore_n 2, 1) := by decide +kernel
theorem dX12_doInto_12 : decode cX12_doInto 12 = .ok (.aload_n 0, 1) := by decide +kernel
theorem dX12_doInto_13 : decode cX12_doInto 13 = .ok (.getfield 83, 3) := by decide +kernel
theorem dX12_doInto_16 : decode cX12_doInto 16 = .ok (.iload_n 1, 1) := by decide +kernel
theorem dX12_doInto_17 : decode cX12_doInto 17 = .ok (.iaload, 1) := by decide +kernel
theorem dX12_doInto_18 : decode cX12_doInto 18 = .ok (.istore_n 3, 1) := by decide +kernel
theorem dX12_doInto_19 : decode cX12_doInto 19 = .ok (.iconst 0, 1) := by decide +kernel
theorem dX12_doInto_20 : decode cX12_doInto 20 = .ok (.istore 4, 2) := by decide +kernel
theorem dX12_doInto_22 : decode cX12_doInto 22 = .ok (.iconst 0, 1) := by decide +kernel
theorem dX12_doInto_23 : decode cX12_doInto 23 = .ok (.istore 5, 2) := by decide +kernel
theorem dX12_doInto_25 : decode cX12_doInto 25 = .ok (.iload 5, 2) := by decide +kernel
theorem dX12_doInto_27 : decode cX12_doInto 27 = .ok (.aload_n 0, 1) := by decide +kernel
theorem dX12_doInto_28 : decode cX12_doInto 28 = .ok (.getfield 19, 3) := by decide +kernel
theorem dX12_doInto_31 : decode cX12_doInto 31 = .ok (.bipush 10, 2) := by decide +kernel
theorem dX12_doInto_33 : decode cX12_doInto 33 = .ok (.iaload, 1) := by decide +kernel
theorem dX12_doInto_34 : decode cX12_doInto 34 = .ok (.if_icmp .ge 134, 3) := by decide +kernel
theorem dX12_doInto_37 : decode cX12_doInto 37 = .ok (.iload_n 2, 1) := by decide +kernel
theorem dX12_doInto_38 : decode cX12_doInto 38 = .ok (.ifCond .le 130, 3) := by decide +kernel
theorem dX12_doInto_41 : decode cX12_doInto 41 = .ok (.sipush 200, 3) := by decide +kernel
theorem dX12_doInto_44 : decode cX12_doInto 44 = .ok (.iload 5, 2) := by decide +kernel
theorem dX12_doInto_46 : decode cX12_doInto 46 = .ok (.iadd, 1) := by decide +kernel
theorem dX12_doInto_47 : decode cX12_doInto 47 = .ok (.istore 6, 2) := by decide +kernel
theorem dX12_doInto_49 : decode cX12_doInto 49 = .ok (.aload_n 0, 1) := by decide +kernel
theorem dX12_doInto_50 : decode cX12_doInto 50 = .ok (.getfield 98, 3) := by decide +kernel
theorem dX12_doInto_53 : decode cX12_doInto 53 = .ok (.iload 5, 2) := by decide +kernel
theorem dX12_doInto_55 : decode cX12_doInto 55 = .ok (.baload, 1) := by decide +kernel
theorem dX12_doInto_56 : decode cX12_doInto 56 = .ok (.ifCond .ne 106, 3) := by decide +kernel
theorem dX12_doInto_59 : decode cX12_doInto 59 = .ok (.aload_n 0, 1) := by decide +kernel
theorem dX12_doInto_60 : decode cX12_doInto 60 = .ok (.getfield 25, 3) := by decide +kernel
theorem dX12_doInto_63 : decode cX12_doInto 63 = .ok (.iload 6, 2) := by decide +kernel
theorem dX12_doInto_65 : decode cX12_doInto 65 = .ok (.iaload, 1) := by decide +kernel
theorem dX12_doInto_66 : decode cX12_doInto 66 = .ok (.ifCond .ge 96, 3) := by decide +kernel
theorem dX12_doInto_69 : decode cX12_doInto 69 = .ok (.aload_n 0, 1) := by decide +kernel
theorem dX12_doInto_70 : decode cX12_doInto 70 = .ok (.getfield 22, 3) := by decide +kernel
theorem dX12_doInto_73 : decode cX12_doInto 73 = .ok (.iload 6, 2) := by decide +kernel
theorem dX12_doInto_75 : decode cX12_doInto 75 = .ok (.iaload, 1) := by decide +kernel
theorem dX12_doInto_76 : decode cX12_doInto 76 = .ok (.ifCond .ne 86, 3) := by decide +kernel
theorem dX12_doInto_79 : decode cX12_doInto 79 = .ok (.aload_n 0, 1) := by decide +kernel
theorem dX12_doInto_80 : decode cX12_doInto 80 = .ok (.getfield 7, 3) := by decide +kernel
theorem dX12_doInto_83 : decode cX12_doInto 83 = .ok (.bipush 10, 2) := by decide +kernel
theorem dX12_doInto_85 : decode cX12_doInto 85 = .ok (.iaload, 1) := by decide +kernel
theorem dX12_doInto_86 : decode cX12_doInto 86 = .ok (.aload_n 0, 1) := by decide +kernel
theorem dX12_doInto_87 : decode cX12_doInto 87 = .ok (.getfield 31, 3) := by decide +kernel
theorem dX12_doInto_90 : decode cX12_doInto 90 = .ok (.iload 6, 2) := by decide +kernel
theorem dX12_doInto_92 : decode cX12_doInto 92 = .ok (.iaload, 1) := by decide +kernel
theorem dX12_doInto_93 : decode cX12_doInto 93 = .ok (.iadd, 1) := by decide +kernel
theorem dX12_doInto_94 : decode cX12_doInto 94 = .ok (.iload_n 3, 1) := by decide +kernel
theorem dX12_doInto_95 : decode cX12_doInto 95 = .ok (.iconst 2, 1) := by decide +kernel
theorem dX12_doInto_96 : decode cX12_doInto 96 = .ok (.if_icmp .ne 20, 3) := by decide +kernel
theorem dX12_doInto_99 : decode cX12_doInto 99 = .ok (.aload_n 0, 1) := by decide +kernel
theorem dX12_doInto_100 : decode cX12_doInto 100 = .ok (.bipush 10, 2) := by decide +kernel
theorem dX12_doInto_102 : decode cX12_doInto 102 = .ok (.iconst (-1), 1) := by decide +kernel
theorem dX12_doInto_103 : decode cX12_doInto 103 = .ok (.aload_n 0, 1) := by decide +kernel
theorem dX12_doInto_104 : decode cX12_doInto 104 = .ok (.getfield 28, 3) := by decide +kernel
theorem dX12_doInto_107 : decode cX12_doInto 107 = .ok (.iload 6, 2) := by decide +kernel
theorem dX12_doInto_109 : decode cX12_doInto 109 = .ok (.iaload, 1) := by decide +kernel
theorem dX12_doInto_110 : decode cX12_doInto 110 = .ok (.invokevirtual 362, 3) := by decide +kernel
theorem dX12_doInto_113 : decode cX12_doInto 113 = .ok (.goto 4, 3) := by decide +kernel
theorem dX12_doInto_116 : decode cX12_doInto 116 = .ok (.iconst 0, 1) := by decide +kernel
theorem dX12_doInto_117 : decode cX12_doInto 117 = .ok (.isub, 1) := by decide +kernel
theorem dX12_doInto_118 : decode cX12_doInto 118 = .ok (.istore 7, 2) := by decide +kernel
theorem dX12_doInto_120 : decode cX12_doInto 120 = .ok (.iload 4, 2) := by decide +kernel
theorem dX12_doInto_122 : decode cX12_doInto 122 = .ok (.iload 7, 2) := by decide +kernel
theorem dX12_doInto_124 : decode cX12_doInto 124 = .ok (.bipush 40, 2) := by decide +kernel
theorem dX12_doInto_126 : decode cX12_doInto 126 = .ok (.if_icmp .gt 7, 3) := by decide +kernel
theorem dX12_doInto_129 : decode cX12_doInto 129 = .ok (.iconst 1, 1) := by decide +kernel
theorem dX12_doInto_130 : decode cX12_doInto 130 = .ok (.goto 4, 3) := by decide +kernel
theorem dX12_doInto_133 : decode cX12_doInto 133 = .ok (.iconst 0, 1) := by decide +kernel
theorem dX12_doInto_134 : decode cX12_doInto 134 = .ok (.iadd, 1) := by decide +kernel
theorem dX12_doInto_135 : decode cX12_doInto 135 = .ok (.istore 4, 2) := by decide +kernel
theorem dX12_doInto_137 : decode cX12_doInto 137 = .ok (.iload 7, 2) := by decide +kernel
theorem dX12_doInto_139 : decode cX12_doInto 139 = .ok (.bipush 40, 2) := by decide +kernel
theorem dX12_doInto_141 : decode cX12_doInto 141 = .ok (.if_icmp .gt 21, 3) := by decide +kernel
theorem dX12_doInto_144 : decode cX12_doInto 144 = .ok (.aload_n 0, 1) := by decide +kernel
theorem dX12_doInto_145 : decode cX12_doInto 145 = .ok (.iconst 3, 1) := by decide +kernel
theorem dX12_doInto_146 : decode cX12_doInto 146 = .ok (.iload 4, 2) := by decide +kernel
theorem dX12_doInto_148 : decode cX12_doInto 148 = .ok (.iload_n 2, 1) := by decide +kernel
theorem dX12_doInto_149 : decode cX12_doInto 149 = .ok (.invokevirtual 342, 3) := by decide +kernel
theorem dX12_doInto_152 : decode cX12_doInto 152 = .ok (.ifCond .eq 10, 3) := by decide +kernel
theorem dX12_doInto_155 : decode cX12_doInto 155 = .ok (.aload_n 0, 1) := by decide +kernel
theorem dX12_doInto_156 : decode cX12_doInto 156 = .ok (.iload 5, 2) := by decide +kernel
theorem dX12_doInto_158 : decode cX12_doInto 158 = .ok (.iload_n 3, 1) := by decide +kernel
theorem dX12_doInto_159 : decode cX12_doInto 159 = .ok (.invokevirtual 368, 3) := by decide +kernel
theorem dX12_doInto_162 : decode cX12_doInto 162 = .ok (.iinc 5 1, 3) := by decide +kernel
theorem dX12_doInto_165 : decode cX12_doInto 165 = .ok (.goto (-140), 3) := by decide +kernel
theorem dX12_doInto_168 : decode cX12_doInto 168 = .ok (.return_, 1) := by decide +kernel
theorem dX12_doDrop_0 : decode cX12_doDrop 0 = .ok (.aload_n 0, 1) := by decide +kernel
theorem dX12_doDrop_1 : decode cX12_doDrop 1 = .ok (.getfield 77, 3) := by decide +kernel
theorem dX12_doDrop_4 : decode cX12_doDrop 4 = .ok (.bipush 6, 2) := by decide +kernel
theorem dX12_doDrop_6 : decode cX12_doDrop 6 = .ok (.iload_n 1, 1) := by decide +kernel
theorem dX12_doDrop_7 : decode cX12_doDrop 7 = .ok (.imul, 1) := by decide +kernel
theorem dX12_doDrop_8 : decode cX12_doDrop 8 = .ok (.iconst 4, 1) := by decide +kernel
theorem dX12_doDrop_9 : decode cX12_doDrop 9 = .ok (.iadd, 1) := by decide +kernel
theorem dX12_doDrop_10 : decode cX12_doDrop 10 = .ok (.iaload, 1) := by decide +kernel
theorem dX12_doDrop_11 : decode cX12_doDrop 11 = .ok (.istore_n 2, 1) := by decide +kernel
theorem dX12_doDrop_12 : decode cX12_doDrop 12 = .ok (.iconst 0, 1) := by decide +kernel
theorem dX12_doDrop_13 : decode cX12_doDrop 13 = .ok (.istore_n 3, 1) := by decide +kernel
theorem dX12_doDrop_14 : decode cX12_doDrop 14 = .ok (.iconst 0, 1) := by decide +kernel
theorem dX12_doDrop_15 : decode cX12_doDrop 15 = .ok (.istore 4, 2) := by decide +kernel
theorem dX12_doDrop_17 : decode cX12_doDrop 17 = .ok (.iload 4, 2) := by decide +kernel
theorem dX12_doDrop_19 : decode cX12_doDrop 19 = .ok (.aload_n 0, 1) := by decide +kernel
theorem dX12_doDrop_20 : decode cX12_doDrop 20 = .ok (.getfield 19, 3) := by decide +kernel
theorem dX12_doDrop_23 : decode cX12_doDrop 23 = .ok (.bipush 10, 2) := by decide +kernel
theorem dX12_doDrop_25 : decode cX12_doDrop 25 = .ok (.iaload, 1) := by decide +kernel
theorem dX12_doDrop_26 : decode cX12_doDrop 26 = .ok (.if_icmp .ge 42, 3) := by decide +kernel
theorem dX12_doDrop_29 : decode cX12_doDrop 29 = .ok (.iload_n 2, 1) := by decide +kernel
theorem dX12_doDrop_30 : decode cX12_doDrop 30 = .ok (.ifCond .le 38, 3) := by decide +kernel
theorem dX12_doDrop_33 : decode cX12_doDrop 33 = .ok (.aload_n 0, 1) := by decide +kernel
theorem dX12_doDrop_34 : decode cX12_doDrop 34 = .ok (.getfield 98, 3) := by decide +kernel
theorem dX12_doDrop_37 : decode cX12_doDrop 37 = .ok (.iload 4, 2) := by decide +kernel
theorem dX12_doDrop_39 : decode cX12_doDrop 39 = .ok (.baload, 1) := by decide +kernel
theorem dX12_doDrop_40 : decode cX12_doDrop 40 = .ok (.ifCond .ne 22, 3) := by decide +kernel
theorem dX12_doDrop_43 : decode cX12_doDrop 43 = .ok (.iinc 3 1, 3) := by decide +kernel
theorem dX12_doDrop_46 : decode cX12_doDrop 46 = .ok (.aload_n 0, 1) := by decide +kernel
theorem dX12_doDrop_47 : decode cX12_doDrop 47 = .ok (.iconst 4, 1) := by decide +kernel
theorem dX12_doDrop_48 : decode cX12_doDrop 48 = .ok (.iload_n 3, 1) := by decide +kernel
theorem dX12_doDrop_49 : decode cX12_doDrop 49 = .ok (.iload_n 2, 1) := by decide +kernel
theorem dX12_doDrop_50 : decode cX12_doDrop 50 = .ok (.invokevirtual 342, 3) := by decide +kernel
theorem dX12_doDrop_53 : decode cX12_doDrop 53 = .ok (.ifCond .eq 9, 3) := by decide +kernel
theorem dX12_doDrop_56 : decode cX12_doDrop 56 = .ok (.aload_n 0, 1) := by decide +kernel
theorem dX12_doDrop_57 : decode cX12_doDrop 57 = .ok (.iload 4, 2) := by decide +kernel
theorem dX12_doDrop_59 : decode cX12_doDrop 59 = .ok (.invokevirtual 353, 3) := by decide +kernel
theorem dX12_doDrop_62 : decode cX12_doDrop 62 = .ok (.iinc 4 1, 3) := by decide +kernel
theorem dX12_doDrop_65 : decode cX12_doDrop 65 = .ok (.goto (-48), 3) := by decide +kernel
theorem dX12_doDrop_68 : decode cX12_doDrop 68 = .ok (.return_, 1) := by decide +kernel
theorem dX12_doMove_0 : decode cX12_doMove 0 = .ok (.aload_n 0, 1) := by decide +kernel
theorem dX12_doMove_1 : decode cX12_doMove 1 = .ok (.getfield 77, 3) := by decide +kernel
theorem dX12_doMove_4 : decode cX12_doMove 4 = .ok (.bipush 6, 2) := by decide +kernel
theorem dX12_doMove_6 : decode cX12_doMove 6 = .ok (.iload_n 1, 1) := by decide +kernel
theorem dX12_doMove_7 : decode cX12_doMove 7 = .ok (.imul, 1) := by decide +kernel
theorem dX12_doMove_8 : decode cX12_doMove 8 = .ok (.iconst 5, 1) := by decide +kernel
theorem dX12_doMove_9 : decode cX12_doMove 9 = .ok (.iadd, 1) := by decide +kernel
theorem dX12_doMove_10 : decode cX12_doMove 10 = .ok (.iaload, 1) := by decide +kernel
theorem dX12_doMove_11 : decode cX12_doMove 11 = .ok (.istore_n 2, 1) := by decide +kernel
theorem dX12_doMove_12 : decode cX12_doMove 12 = .ok (.iconst 0, 1) := by decide +kernel
theorem dX12_doMove_13 : decode cX12_doMove 13 = .ok (.istore_n 3, 1) := by decide +kernel
theorem dX12_doMove_14 : decode cX12_doMove 14 = .ok (.iconst 0, 1) := by decide +kernel
theorem dX12_doMove_15 : decode cX12_doMove 15 = .ok (.istore 4, 2) := by decide +kernel
theorem dX12_doMove_17 : decode cX12_doMove 17 = .ok (.iload 4, 2) := by decide +kernel
theorem dX12_doMove_19 : decode cX12_doMove 19 = .ok (.aload_n 0, 1) := by decide +kernel
theorem dX12_doMove_20 : decode cX12_doMove 20 = .ok (.getfield 19, 3) := by decide +kernel
theorem dX12_doMove_23 : decode cX12_doMove 23 = .ok (.bipush 10, 2) := by decide +kernel
theorem dX12_doMove_25 : decode cX12_doMove 25 = .ok (.iaload, 1) := by decide +kernel
theorem dX12_doMove_26 : decode cX12_doMove 26 = .ok (.if_icmp .ge 217, 3) := by decide +kernel
theorem dX12_doMove_29 : decode cX12_doMove 29 = .ok (.iload_n 2, 1) := by decide +kernel
theorem dX12_doMove_30 : decode cX12_doMove 30 = .ok (.ifCond .le 213, 3) := by decide +kernel
theorem dX12_doMove_33 : decode cX12_doMove 33 = .ok (.sipush 200, 3) := by decide +kernel
theorem dX12_doMove_36 : decode cX12_doMove 36 = .ok (.iload 4, 2) := by decide +kernel
theorem dX12_doMove_38 : decode cX12_doMove 38 = .ok (.iadd, 1) := by decide +kernel
theorem dX12_doMove_39 : decode cX12_doMove 39 = .ok (.istore 5, 2) := by decide +kernel
theorem dX12_doMove_41 : decode cX12_doMove 41 = .ok (.aload_n 0, 1) := by decide +kernel
theorem dX12_doMove_42 : decode cX12_doMove 42 = .ok (.getfield 98, 3) := by decide +kernel
theorem dX12_doMove_45 : decode cX12_doMove 45 = .ok (.iload 4, 2) := by decide +kernel
theorem dX12_doMove_47 : decode cX12_doMove 47 = .ok (.baload, 1) := by decide +kernel
theorem dX12_doMove_48 : decode cX12_doMove 48 = .ok (.ifCond .ne 61, 3) := by decide +kernel
theorem dX12_doMove_51 : decode cX12_doMove 51 = .ok (.aload_n 0, 1) := by decide +kernel
theorem dX12_doMove_52 : decode cX12_doMove 52 = .ok (.getfield 25, 3) := by decide +kernel
theorem dX12_doMove_55 : decode cX12_doMove 55 = .ok (.iload 5, 2) := by decide +kernel
theorem dX12_doMove_57 : decode cX12_doMove 57 = .ok (.iaload, 1) := by decide +kernel
theorem dX12_doMove_58 : decode cX12_doMove 58 = .ok (.ifCond .ge 51, 3) := by decide +kernel
theorem dX12_doMove_61 : decode cX12_doMove 61 = .ok (.aload_n 0, 1) := by decide +kernel
theorem dX12_doMove_62 : decode cX12_doMove 62 = .ok (.getfield 22, 3) := by decide +kernel
theorem dX12_doMove_65 : decode cX12_doMove 65 = .ok (.iload 5, 2) := by decide +kernel
theorem dX12_doMove_67 : decode cX12_doMove 67 = .ok (.iaload, 1) := by decide +kernel
theorem dX12_doMove_68 : decode cX12_doMove 68 = .ok (.iconst 1, 1) := by decide +kernel
theorem dX12_doMove_69 : decode cX12_doMove 69 = .ok (.if_icmp .ne 40, 3) := by decide +kernel
theorem dX12_doMove_72 : decode cX12_doMove 72 = .ok (.aload_n 0, 1) := by decide +kernel
theorem dX12_doMove_73 : decode cX12_doMove 73 = .ok (.aload_n 0, 1) := by decide +kernel
theorem dX12_doMove_74 : decode cX12_doMove 74 = .ok (.getfield 28, 3) := by decide +kernel
theorem dX12_doMove_77 : decode cX12_doMove 77 = .ok (.iload 5, 2) := by decide +kernel
theorem dX12_doMove_79 : decode cX12_doMove 79 = .ok (.iaload, 1) := by decide +kernel
theorem dX12_doMove_80 : decode cX12_doMove 80 = .ok (.invokevirtual 304, 3) := by decide +kernel
theorem dX12_doMove_83 : decode cX12_doMove 83 = .ok (.iconst 1, 1) := by decide +kernel
theorem dX12_doMove_84 : decode cX12_doMove 84 = .ok (.if_icmp .ne 25, 3) := by decide +kernel
theorem dX12_doMove_87 : decode cX12_doMove 87 = .ok (.aload_n 0, 1) := by decide +kernel
theorem dX12_doMove_88 : decode cX12_doMove 88 = .ok (.bipush 10, 2) := by decide +kernel
theorem dX12_doMove_90 : decode cX12_doMove 90 = .ok (.iconst (-1), 1) := by decide +kernel
theorem dX12_doMove_91 : decode cX12_doMove 91 = .ok (.aload_n 0, 1) := by decide +kernel
theorem dX12_doMove_92 : decode cX12_doMove 92 = .ok (.getfield 28, 3) := by decide +kernel
theorem dX12_doMove_95 : decode cX12_doMove 95 = .ok (.iload 5, 2) := by decide +kernel
theorem dX12_doMove_97 : decode cX12_doMove 97 = .ok (.iaload, 1) := by decide +kernel
theorem dX12_doMove_98 : decode cX12_doMove 98 = .ok (.invokevirtual 362, 3) := by decide +kernel
theorem dX12_doMove_101 : decode cX12_doMove 101 = .ok (.iconst 1, 1) := by decide +kernel
theorem dX12_doMove_102 : decode cX12_doMove 102 = .ok (.if_icmp .ne 7, 3) := by decide +kernel
theorem dX12_doMove_105 : decode cX12_doMove 105 = .ok (.iconst 1, 1) := by decide +kernel
theorem dX12_doMove_106 : decode cX12_doMove 106 = .ok (.goto 4, 3) := by decide +kernel
theorem dX12_doMove_109 : decode cX12_doMove 109 = .ok (.iconst 0, 1) := by decide +kernel
theorem dX12_doMove_110 : decode cX12_doMove 110 = .ok (.istore 6, 2) := by decide +kernel
theorem dX12_doMove_112 : decode cX12_doMove 112 = .ok (.iload 6, 2) := by decide +kernel
theorem dX12_doMove_114 : decode cX12_doMove 114 = .ok (.ifCond .eq 22, 3) := by decide +kernel
theorem dX12_doMove_117 : decode cX12_doMove 117 = .ok (.aload_n 0, 1) := by decide +kernel
theorem dX12_doMove_118 : decode cX12_doMove 118 = .ok (.bipush 10, 2) := by decide +kernel
theorem dX12_doMove_120 : decode cX12_doMove 120 = .ok (.iconst (-1), 1) := by decide +kernel
theorem dX12_doMove_121 : decode cX12_doMove 121 = .ok (.aload_n 0, 1) := by decide +kernel
theorem dX12_doMove_122 : decode cX12_doMove 122 = .ok (.getfield 28, 3) := by decide +kernel
theorem dX12_doMove_125 : decode cX12_doMove 125 = .ok (.iload 5, 2) := by decide +kernel
theorem dX12_doMove_127 : decode cX12_doMove 127 = .ok (.iaload, 1) := by decide +kernel
theorem dX12_doMove_128 : decode cX12_doMove 128 = .ok (.invokevirtual 359, 3) := by decide +kernel
theorem dX12_doMove_131 : decode cX12_doMove 131 = .ok (.iconst 1, 1) := by decide +kernel
theorem dX12_doMove_132 : decode cX12_doMove 132 = .ok (.iadd, 1) := by decide +kernel
theorem dX12_doMove_133 : decode cX12_doMove 133 = .ok (.goto 4, 3) := by decide +kernel
theorem dX12_doMove_136 : decode cX12_doMove 136 = .ok (.iconst 0, 1) := by decide +kernel
theorem dX12_doMove_137 : decode cX12_doMove 137 = .ok (.istore 7, 2) := by decide +kernel
theorem dX12_doMove_139 : decode cX12_doMove 139 = .ok (.iload 6, 2) := by decide +kernel
theorem dX12_doMove_141 : decode cX12_doMove 141 = .ok (.ifCond .eq 33, 3) := by decide +kernel
theorem dX12_doMove_144 : decode cX12_doMove 144 = .ok (.iload 7, 2) := by decide +kernel
theorem dX12_doMove_146 : decode cX12_doMove 146 = .ok (.aload_n 0, 1) := by decide +kernel
theorem dX12_doMove_147 : decode cX12_doMove 147 = .ok (.getfield 7, 3) := by decide +kernel
theorem dX12_doMove_150 : decode cX12_doMove 150 = .ok (.bipush 10, 2) := by decide +kernel
theorem dX12_doMove_152 : decode cX12_doMove 152 = .ok (.iaload, 1) := by decide +kernel
theorem dX12_doMove_153 : decode cX12_doMove 153 = .ok (.if_icmp .ge 21, 3) := by decide +kernel
theorem dX12_doMove_156 : decode cX12_doMove 156 = .ok (.aload_n 0, 1) := by decide +kernel
theorem dX12_doMove_157 : decode cX12_doMove 157 = .ok (.getfield 16, 3) := by decide +kernel
theorem dX12_doMove_160 : decode cX12_doMove 160 = .ok (.sipush 400, 3) := by decide +kernel
theorem dX12_doMove_163 : decode cX12_doMove 163 = .ok (.iload 7, 2) := by decide +kernel
theorem dX12_doMove_165 : decode cX12_doMove 165 = .ok (.iadd, 1) := by decide +kernel
theorem dX12_doMove_166 : decode cX12_doMove 166 = .ok (.iaload, 1) := by decide +kernel
theorem dX12_doMove_167 : decode cX12_doMove 167 = .ok (.ifCond .ge 7, 3) := by decide +kernel
theorem dX12_doMove_170 : decode cX12_doMove 170 = .ok (.iconst 1, 1) := by decide +kernel
theorem dX12_doMove_171 : decode cX12_doMove 171 = .ok (.goto 4, 3) := by decide +kernel
theorem dX12_doMove_174 : decode cX12_doMove 174 = .ok (.iconst 0, 1) := by decide +kernel
theorem dX12_doMove_175 : decode cX12_doMove 175 = .ok (.istore 6, 2) := by decide +kernel
theorem dX12_doMove_177 : decode cX12_doMove 177 = .ok (.iload_n 3, 1) := by decide +kernel
theorem dX12_doMove_178 : decode cX12_doMove 178 = .ok (.iload 6, 2) := by decide +kernel
theorem dX12_doMove_180 : decode cX12_doMove 180 = .ok (.ifCond .eq 7, 3) := by decide +kernel
theorem dX12_doMove_183 : decode cX12_doMove 183 = .ok (.iconst 1, 1) := by decide +kernel
theorem dX12_doMove_184 : decode cX12_doMove 184 = .ok (.goto 4, 3) := by decide +kernel
theorem dX12_doMove_187 : decode cX12_doMove 187 = .ok (.iconst 0, 1) := by decide +kernel
theorem dX12_doMove_188 : decode cX12_doMove 188 = .ok (.iadd, 1) := by decide +kernel
theorem dX12_doMove_189 : decode cX12_doMove 189 = .ok (.istore_n 3, 1) := by decide +kernel
theorem dX12_doMove_190 : decode cX12_doMove 190 = .ok (.iload 6, 2) := by decide +kernel
theorem dX12_doMove_192 : decode cX12_doMove 192 = .ok (.ifCond .eq 45, 3) := by decide +kernel
theorem dX12_doMove_195 : decode cX12_doMove 195 = .ok (.aload_n 0, 1) := by decide +kernel
theorem dX12_doMove_196 : decode cX12_doMove 196 = .ok (.iconst 5, 1) := by decide +kernel
theorem dX12_doMove_197 : decode cX12_doMove 197 = .ok (.iload_n 3, 1) := by decide +kernel
theorem dX12_doMove_198 : decode cX12_doMove 198 = .ok (.iload_n 2, 1) := by decide +kernel
theorem dX12_doMove_199 : decode cX12_doMove 199 = .ok (.invokevirtual 342, 3) := by decide +kernel
theorem dX12_doMove_202 : decode cX12_doMove 202 = .ok (.ifCond .eq 35, 3) := by decide +kernel
theorem dX12_doMove_205 : decode cX12_doMove 205 = .ok (.aload_n 0, 1) := by decide +kernel
theorem dX12_doMove_206 : decode cX12_doMove 206 = .ok (.getfield 16, 3) := by decide +kernel
theorem dX12_doMove_209 : decode cX12_doMove 209 = .ok (.sipush 400, 3) := by decide +kernel
theorem dX12_doMove_212 : decode cX12_doMove 212 = .ok (.iload 7, 2) := by decide +kernel
theorem dX12_doMove_214 : decode cX12_doMove 214 = .ok (.iadd, 1) := by decide +kernel
theorem dX12_doMove_215 : decode cX12_doMove 215 = .ok (.iconst 1, 1) := by decide +kernel
theorem dX12_doMove_216 : decode cX12_doMove 216 = .ok (.isub, 1) := by decide +kernel
theorem dX12_doMove_217 : decode cX12_doMove 217 = .ok (.iconst (-1), 1) := by decide +kernel
theorem dX12_doMove_218 : decode cX12_doMove 218 = .ok (.iastore, 1) := by decide +kernel
theorem dX12_doMove_219 : decode cX12_doMove 219 = .ok (.aload_n 0, 1) := by decide +kernel
theorem dX12_doMove_220 : decode cX12_doMove 220 = .ok (.getfield 16, 3) := by decide +kernel
theorem dX12_doMove_223 : decode cX12_doMove 223 = .ok (.sipush 400, 3) := by decide +kernel
theorem dX12_doMove_226 : decode cX12_doMove 226 = .ok (.iload 7, 2) := by decide +kernel
theorem dX12_doMove_228 : decode cX12_doMove 228 = .ok (.iadd, 1) := by decide +kernel
theorem dX12_doMove_229 : decode cX12_doMove 229 = .ok (.aload_n 0, 1) := by decide +kernel
theorem dX12_doMove_230 : decode cX12_doMove 230 = .ok (.getfield 28, 3) := by decide +kernel
theorem dX12_doMove_233 : decode cX12_doMove 233 = .ok (.iload 5, 2) := by decide +kernel
theorem dX12_doMove_235 : decode cX12_doMove 235 = .ok (.iaload, 1) := by decide +kernel
theorem dX12_doMove_236 : decode cX12_doMove 236 = .ok (.iastore, 1) := by decide +kernel
theorem dX12_doMove_237 : decode cX12_doMove 237 = .ok (.iinc 4 1, 3) := by decide +kernel
theorem dX12_doMove_240 : decode cX12_doMove 240 = .ok (.goto (-223), 3) := by decide +kernel
theorem dX12_doMove_243 : decode cX12_doMove 243 = .ok (.return_, 1) := by decide +kernel
theorem dX12_copy_0 : decode cX12_copy 0 = .ok (.aload_n 0, 1) := by decide +kernel
theorem dX12_copy_1 : decode cX12_copy 1 = .ok (.iload_n 1, 1) := by decide +kernel
theorem dX12_copy_2 : decode cX12_copy 2 = .ok (.invokevirtual 371, 3) := by decide +kernel
theorem dX12_copy_5 : decode cX12_copy 5 = .ok (.ifCond .eq 15, 3) := by decide +kernel
theorem dX12_copy_8 : decode cX12_copy 8 = .ok (.iload_n 2, 1) := by decide +kernel
theorem dX12_copy_9 : decode cX12_copy 9 = .ok (.i2l, 1) := by decide +kernel
theorem dX12_copy_10 : decode cX12_copy 10 = .ok (.lconst 0, 1) := by decide +kernel
theorem dX12_copy_11 : decode cX12_copy 11 = .ok (.ldc2_w 294, 3) := by decide +kernel
theorem dX12_copy_14 : decode cX12_copy 14 = .ok (.invokestatic 154, 3) := by decide +kernel
theorem dX12_copy_17 : decode cX12_copy 17 = .ok (.ifCond .ne 7, 3) := by decide +kernel
theorem dX12_copy_20 : decode cX12_copy 20 = .ok (.sipush (-1001), 3) := by decide +kernel
theorem dX12_copy_23 : decode cX12_copy 23 = .ok (.ireturn, 1) := by decide +kernel
theorem dX12_copy_24 : decode cX12_copy 24 = .ok (.aload_n 0, 1) := by decide +kernel
theorem dX12_copy_25 : decode cX12_copy 25 = .ok (.getfield 151, 3) := by decide +kernel
theorem dX12_copy_28 : decode cX12_copy 28 = .ok (.bipush 10, 2) := by decide +kernel
theorem dX12_copy_30 : decode cX12_copy 30 = .ok (.if_icmp .ne 7, 3) := by decide +kernel
theorem dX12_copy_33 : decode cX12_copy 33 = .ok (.sipush (-1004), 3) := by decide +kernel
theorem dX12_copy_36 : decode cX12_copy 36 = .ok (.ireturn, 1) := by decide +kernel
theorem dX12_copy_37 : decode cX12_copy 37 = .ok (.aload_n 0, 1) := by decide +kernel
theorem dX12_copy_38 : decode cX12_copy 38 = .ok (.invokevirtual 220, 3) := by decide +kernel
theorem dX12_copy_41 : decode cX12_copy 41 = .ok (.aload_n 0, 1) := by decide +kernel
theorem dX12_copy_42 : decode cX12_copy 42 = .ok (.iload_n 1, 1) := by decide +kernel
theorem dX12_copy_43 : decode cX12_copy 43 = .ok (.bipush 10, 2) := by decide +kernel
theorem dX12_copy_45 : decode cX12_copy 45 = .ok (.invokevirtual 235, 3) := by decide +kernel
theorem dX12_copy_48 : decode cX12_copy 48 = .ok (.iconst 0, 1) := by decide +kernel
theorem dX12_copy_49 : decode cX12_copy 49 = .ok (.istore_n 3, 1) := by decide +kernel
theorem dX12_copy_50 : decode cX12_copy 50 = .ok (.iload_n 3, 1) := by decide +kernel
theorem dX12_copy_51 : decode cX12_copy 51 = .ok (.bipush 6, 2) := by decide +kernel
theorem dX12_copy_53 : decode cX12_copy 53 = .ok (.if_icmp .ge 29, 3) := by decide +kernel
theorem dX12_copy_56 : decode cX12_copy 56 = .ok (.aload_n 0, 1) := by decide +kernel
theorem dX12_copy_57 : decode cX12_copy 57 = .ok (.getfield 46, 3) := by decide +kernel
theorem dX12_copy_60 : decode cX12_copy 60 = .ok (.bipush 60, 2) := by decide +kernel
theorem dX12_copy_62 : decode cX12_copy 62 = .ok (.iload_n 3, 1) := by decide +kernel
theorem dX12_copy_63 : decode cX12_copy 63 = .ok (.iadd, 1) := by decide +kernel
theorem dX12_copy_64 : decode cX12_copy 64 = .ok (.iconst 0, 1) := by decide +kernel
theorem dX12_copy_65 : decode cX12_copy 65 = .ok (.iastore, 1) := by decide +kernel
theorem dX12_copy_66 : decode cX12_copy 66 = .ok (.aload_n 0, 1) := by decide +kernel
theorem dX12_copy_67 : decode cX12_copy 67 = .ok (.getfield 49, 3) := by decide +kernel
theorem dX12_copy_70 : decode cX12_copy 70 = .ok (.bipush 60, 2) := by decide +kernel
theorem dX12_copy_72 : decode cX12_copy 72 = .ok (.iload_n 3, 1) := by decide +kernel
theorem dX12_copy_73 : decode cX12_copy 73 = .ok (.iadd, 1) := by decide +kernel
theorem dX12_copy_74 : decode cX12_copy 74 = .ok (.iconst 0, 1) := by decide +kernel
theorem dX12_copy_75 : decode cX12_copy 75 = .ok (.iastore, 1) := by decide +kernel
theorem dX12_copy_76 : decode cX12_copy 76 = .ok (.iinc 3 1, 3) := by decide +kernel
theorem dX12_copy_79 : decode cX12_copy 79 = .ok (.goto (-29), 3) := by decide +kernel
theorem dX12_copy_82 : decode cX12_copy 82 = .ok (.aload_n 0, 1) := by decide +kernel
theorem dX12_copy_83 : decode cX12_copy 83 = .ok (.getfield 40, 3) := by decide +kernel
theorem dX12_copy_86 : decode cX12_copy 86 = .ok (.bipush 10, 2) := by decide +kernel
theorem dX12_copy_88 : decode cX12_copy 88 = .ok (.iload_n 1, 1) := by decide +kernel
theorem dX12_copy_89 : decode cX12_copy 89 = .ok (.iastore, 1) := by decide +kernel
theorem dX12_copy_90 : decode cX12_copy 90 = .ok (.aload_n 0, 1) := by decide +kernel
theorem dX12_copy_91 : decode cX12_copy 91 = .ok (.getfield 43, 3) := by decide +kernel
theorem dX12_copy_94 : decode cX12_copy 94 = .ok (.bipush 10, 2) := by decide +kernel
theorem dX12_copy_96 : decode cX12_copy 96 = .ok (.iload_n 2, 1) := by decide +kernel
theorem dX12_copy_97 : decode cX12_copy 97 = .ok (.iastore, 1) := by decide +kernel
theorem dX12_copy_98 : decode cX12_copy 98 = .ok (.aload_n 0, 1) := by decide +kernel
theorem dX12_copy_99 : decode cX12_copy 99 = .ok (.invokevirtual 374, 3) := by decide +kernel
theorem dX12_copy_102 : decode cX12_copy 102 = .ok (.aload_n 0, 1) := by decide +kernel
theorem dX12_copy_103 : decode cX12_copy 103 = .ok (.iload_n 2, 1) := by decide +kernel
theorem dX12_copy_104 : decode cX12_copy 104 = .ok (.invokevirtual 377, 3) := by decide +kernel
theorem dX12_copy_107 : decode cX12_copy 107 = .ok (.aload_n 0, 1) := by decide +kernel
theorem dX12_copy_108 : decode cX12_copy 108 = .ok (.iload_n 2, 1) := by decide +kernel
theorem dX12_copy_109 : decode cX12_copy 109 = .ok (.invokevirtual 380, 3) := by decide +kernel
theorem dX12_copy_112 : decode cX12_copy 112 = .ok (.aload_n 0, 1) := by decide +kernel
theorem dX12_copy_113 : decode cX12_copy 113 = .ok (.iload_n 2, 1) := by decide +kernel
theorem dX12_copy_114 : decode cX12_copy 114 = .ok (.invokevirtual 383, 3) := by decide +kernel
theorem dX12_copy_117 : decode cX12_copy 117 = .ok (.aload_n 0, 1) := by decide +kernel
theorem dX12_copy_118 : decode cX12_copy 118 = .ok (.iload_n 2, 1) := by decide +kernel
theorem dX12_copy_119 : decode cX12_copy 119 = .ok (.invokevirtual 386, 3) := by decide +kernel
theorem dX12_copy_122 : decode cX12_copy 122 = .ok (.aload_n 0, 1) := by decide +kernel
theorem dX12_copy_123 : decode cX12_copy 123 = .ok (.iload_n 2, 1) := by decide +kernel
theorem dX12_copy_124 : decode cX12_copy 124 = .ok (.invokevirtual 389, 3) := by decide +kernel
theorem dX12_copy_127 : decode cX12_copy 127 = .ok (.aload_n 0, 1) := by decide +kernel
theorem dX12_copy_128 : decode cX12_copy 128 = .ok (.iload_n 2, 1) := by decide +kernel
theorem dX12_copy_129 : decode cX12_copy 129 = .ok (.invokevirtual 392, 3) := by decide +kernel
theorem dX12_copy_132 : decode cX12_copy 132 = .ok (.aload_n 0, 1) := by decide +kernel
theorem dX12_copy_133 : decode cX12_copy 133 = .ok (.aload_n 0, 1) := by decide +kernel
theorem dX12_copy_134 : decode cX12_copy 134 = .ok (.getfield 151, 3) := by decide +kernel
theorem dX12_copy_137 : decode cX12_copy 137 = .ok (.invokevirtual 395, 3) := by decide +kernel
theorem dX12_copy_140 : decode cX12_copy 140 = .ok (.aload_n 0, 1) := by decide +kernel
theorem dX12_copy_141 : decode cX12_copy 141 = .ok (.dup, 1) := by decide +kernel
theorem dX12_copy_142 : decode cX12_copy 142 = .ok (.getfield 151, 3) := by decide +kernel
theorem dX12_copy_145 : decode cX12_copy 145 = .ok (.iconst 1, 1) := by decide +kernel
theorem dX12_copy_146 : decode cX12_copy 146 = .ok (.iadd, 1) := by decide +kernel
theorem dX12_copy_147 : decode cX12_copy 147 = .ok (.putfield 151, 3) := by decide +kernel
theorem dX12_copy_150 : decode cX12_copy 150 = .ok (.aload_n 0, 1) := by decide +kernel
theorem dX12_copy_151 : decode cX12_copy 151 = .ok (.getfield 151, 3) := by decide +kernel
theorem dX12_copy_154 : decode cX12_copy 154 = .ok (.iconst 1, 1) := by decide +kernel
theorem dX12_copy_155 : decode cX12_copy 155 = .ok (.isub, 1) := by decide +kernel
theorem dX12_copy_156 : decode cX12_copy 156 = .ok (.ireturn, 1) := by decide +kernel
theorem dX12_taken_0 : decode cX12_taken 0 = .ok (.aload_n 0, 1) := by decide +kernel
theorem dX12_taken_1 : decode cX12_taken 1 = .ok (.iload_n 1, 1) := by decide +kernel
theorem dX12_taken_2 : decode cX12_taken 2 = .ok (.invokevirtual 371, 3) := by decide +kernel
theorem dX12_taken_5 : decode cX12_taken 5 = .ok (.ifCond .ne 7, 3) := by decide +kernel
theorem dX12_taken_8 : decode cX12_taken 8 = .ok (.sipush (-1001), 3) := by decide +kernel
theorem dX12_taken_11 : decode cX12_taken 11 = .ok (.ireturn, 1) := by decide +kernel
theorem dX12_taken_12 : decode cX12_taken 12 = .ok (.iload_n 2, 1) := by decide +kernel
theorem dX12_taken_13 : decode cX12_taken 13 = .ok (.i2l, 1) := by decide +kernel
theorem dX12_taken_14 : decode cX12_taken 14 = .ok (.lconst 0, 1) := by decide +kernel
theorem dX12_taken_15 : decode cX12_taken 15 = .ok (.ldc2_w 299, 3) := by decide +kernel
theorem dX12_taken_18 : decode cX12_taken 18 = .ok (.invokestatic 154, 3) := by decide +kernel
theorem dX12_taken_21 : decode cX12_taken 21 = .ok (.ifCond .ne 7, 3) := by decide +kernel
theorem dX12_taken_24 : decode cX12_taken 24 = .ok (.sipush (-1002), 3) := by decide +kernel
theorem dX12_taken_27 : decode cX12_taken 27 = .ok (.ireturn, 1) := by decide +kernel
theorem dX12_taken_28 : decode cX12_taken 28 = .ok (.aload_n 0, 1) := by decide +kernel
theorem dX12_taken_29 : decode cX12_taken 29 = .ok (.getfield 40, 3) := by decide +kernel
theorem dX12_taken_32 : decode cX12_taken 32 = .ok (.iload_n 1, 1) := by decide +kernel
theorem dX12_taken_33 : decode cX12_taken 33 = .ok (.iaload, 1) := by decide +kernel
theorem dX12_taken_34 : decode cX12_taken 34 = .ok (.ifCond .ge 9, 3) := by decide +kernel
theorem dX12_taken_37 : decode cX12_taken 37 = .ok (.sipush (-1003), 3) := by decide +kernel
theorem dX12_taken_40 : decode cX12_taken 40 = .ok (.goto 32, 3) := by decide +kernel
theorem dX12_taken_43 : decode cX12_taken 43 = .ok (.iload_n 3, 1) := by decide +kernel
theorem dX12_taken_44 : decode cX12_taken 44 = .ok (.ifCond .eq 17, 3) := by decide +kernel
theorem dX12_taken_47 : decode cX12_taken 47 = .ok (.aload_n 0, 1) := by decide +kernel
theorem dX12_taken_48 : decode cX12_taken 48 = .ok (.getfield 49, 3) := by decide +kernel
theorem dX12_taken_51 : decode cX12_taken 51 = .ok (.bipush 6, 2) := by decide +kernel
theorem dX12_taken_53 : decode cX12_taken 53 = .ok (.iload_n 1, 1) := by decide +kernel
theorem dX12_taken_54 : decode cX12_taken 54 = .ok (.imul, 1) := by decide +kernel
theorem dX12_taken_55 : decode cX12_taken 55 = .ok (.iload_n 2, 1) := by decide +kernel
theorem dX12_taken_56 : decode cX12_taken 56 = .ok (.iadd, 1) := by decide +kernel
theorem dX12_taken_57 : decode cX12_taken 57 = .ok (.iaload, 1) := by decide +kernel
theorem dX12_taken_58 : decode cX12_taken 58 = .ok (.goto 14, 3) := by decide +kernel
theorem dX12_taken_61 : decode cX12_taken 61 = .ok (.aload_n 0, 1) := by decide +kernel
theorem dX12_taken_62 : decode cX12_taken 62 = .ok (.getfield 46, 3) := by decide +kernel
theorem dX12_taken_65 : decode cX12_taken 65 = .ok (.bipush 6, 2) := by decide +kernel
theorem dX12_taken_67 : decode cX12_taken 67 = .ok (.iload_n 1, 1) := by decide +kernel
theorem dX12_taken_68 : decode cX12_taken 68 = .ok (.imul, 1) := by decide +kernel
theorem dX12_taken_69 : decode cX12_taken 69 = .ok (.iload_n 2, 1) := by decide +kernel
theorem dX12_taken_70 : decode cX12_taken 70 = .ok (.iadd, 1) := by decide +kernel
theorem dX12_taken_71 : decode cX12_taken 71 = .ok (.iaload, 1) := by decide +kernel
theorem dX12_taken_72 : decode cX12_taken 72 = .ok (.ireturn, 1) := by decide +kernel
theorem dX12_amend_0 : decode cX12_amend 0 = .ok (.aload_n 0, 1) := by decide +kernel
theorem dX12_amend_1 : decode cX12_amend 1 = .ok (.iload_n 1, 1) := by decide +kernel
theorem dX12_amend_2 : decode cX12_amend 2 = .ok (.invokevirtual 371, 3) := by decide +kernel
theorem dX12_amend_5 : decode cX12_amend 5 = .ok (.ifCond .ne 7, 3) := by decide +kernel
theorem dX12_amend_8 : decode cX12_amend 8 = .ok (.sipush (-1001), 3) := by decide +kernel
theorem dX12_amend_11 : decode cX12_amend 11 = .ok (.ireturn, 1) := by decide +kernel
theorem dX12_amend_12 : decode cX12_amend 12 = .ok (.iload_n 2, 1) := by decide +kernel
theorem dX12_amend_13 : decode cX12_amend 13 = .ok (.i2l, 1) := by decide +kernel
theorem dX12_amend_14 : decode cX12_amend 14 = .ok (.lconst 0, 1) := by decide +kernel
theorem dX12_amend_15 : decode cX12_amend 15 = .ok (.aload_n 0, 1) := by decide +kernel
theorem dX12_amend_16 : decode cX12_amend 16 = .ok (.getfield 7, 3) := by decide +kernel
theorem dX12_amend_19 : decode cX12_amend 19 = .ok (.iload_n 1, 1) := by decide +kernel
theorem dX12_amend_20 : decode cX12_amend 20 = .ok (.iaload, 1) := by decide +kernel
theorem dX12_amend_21 : decode cX12_amend 21 = .ok (.iconst 1, 1) := by decide +kernel
theorem dX12_amend_22 : decode cX12_amend 22 = .ok (.isub, 1) := by decide +kernel
theorem dX12_amend_23 : decode cX12_amend 23 = .ok (.i2l, 1) := by decide +kernel
theorem dX12_amend_24 : decode cX12_amend 24 = .ok (.invokestatic 154, 3) := by decide +kernel
theorem dX12_amend_27 : decode cX12_amend 27 = .ok (.ifCond .eq 10, 3) := by decide +kernel
theorem dX12_amend_30 : decode cX12_amend 30 = .ok (.iload_n 3, 1) := by decide +kernel
theorem dX12_amend_31 : decode cX12_amend 31 = .ok (.invokestatic 398, 3) := by decide +kernel
theorem dX12_amend_34 : decode cX12_amend 34 = .ok (.ifCond .ne 7, 3) := by decide +kernel
theorem dX12_amend_37 : decode cX12_amend 37 = .ok (.sipush (-1002), 3) := by decide +kernel
theorem dX12_amend_40 : decode cX12_amend 40 = .ok (.ireturn, 1) := by decide +kernel
theorem dX12_amend_41 : decode cX12_amend 41 = .ok (.aload_n 0, 1) := by decide +kernel
theorem dX12_amend_42 : decode cX12_amend 42 = .ok (.getfield 13, 3) := by decide +kernel
theorem dX12_amend_45 : decode cX12_amend 45 = .ok (.bipush 40, 2) := by decide +kernel
theorem dX12_amend_47 : decode cX12_amend 47 = .ok (.iload_n 1, 1) := by decide +kernel
theorem dX12_amend_48 : decode cX12_amend 48 = .ok (.imul, 1) := by decide +kernel
theorem dX12_amend_49 : decode cX12_amend 49 = .ok (.iload_n 2, 1) := by decide +kernel
theorem dX12_amend_50 : decode cX12_amend 50 = .ok (.iadd, 1) := by decide +kernel
theorem dX12_amend_51 : decode cX12_amend 51 = .ok (.iaload, 1) := by decide +kernel
theorem dX12_amend_52 : decode cX12_amend 52 = .ok (.istore 4, 2) := by decide +kernel
theorem dX12_amend_54 : decode cX12_amend 54 = .ok (.aload_n 0, 1) := by decide +kernel
theorem dX12_amend_55 : decode cX12_amend 55 = .ok (.getfield 13, 3) := by decide +kernel
theorem dX12_amend_58 : decode cX12_amend 58 = .ok (.bipush 40, 2) := by decide +kernel
theorem dX12_amend_60 : decode cX12_amend 60 = .ok (.iload_n 1, 1) := by decide +kernel
theorem dX12_amend_61 : decode cX12_amend 61 = .ok (.imul, 1) := by decide +kernel
theorem dX12_amend_62 : decode cX12_amend 62 = .ok (.iload_n 2, 1) := by decide +kernel
theorem dX12_amend_63 : decode cX12_amend 63 = .ok (.iadd, 1) := by decide +kernel
theorem dX12_amend_64 : decode cX12_amend 64 = .ok (.iload_n 3, 1) := by decide +kernel
theorem dX12_amend_65 : decode cX12_amend 65 = .ok (.iastore, 1) := by decide +kernel
theorem dX12_amend_66 : decode cX12_amend 66 = .ok (.iload 4, 2) := by decide +kernel
theorem dX12_amend_68 : decode cX12_amend 68 = .ok (.ireturn, 1) := by decide +kernel
theorem dX12_isGloss_0 : decode cX12_isGloss 0 = .ok (.iload_n 2, 1) := by decide +kernel
theorem dX12_isGloss_1 : decode cX12_isGloss 1 = .ok (.i2l, 1) := by decide +kernel
theorem dX12_isGloss_2 : decode cX12_isGloss 2 = .ok (.lconst 0, 1) := by decide +kernel
theorem dX12_isGloss_3 : decode cX12_isGloss 3 = .ok (.aload_n 0, 1) := by decide +kernel
theorem dX12_isGloss_4 : decode cX12_isGloss 4 = .ok (.getfield 19, 3) := by decide +kernel
theorem dX12_isGloss_7 : decode cX12_isGloss 7 = .ok (.iload_n 1, 1) := by decide +kernel
theorem dX12_isGloss_8 : decode cX12_isGloss 8 = .ok (.iaload, 1) := by decide +kernel
theorem dX12_isGloss_9 : decode cX12_isGloss 9 = .ok (.iconst 1, 1) := by decide +kernel
theorem dX12_isGloss_10 : decode cX12_isGloss 10 = .ok (.isub, 1) := by decide +kernel
theorem dX12_isGloss_11 : decode cX12_isGloss 11 = .ok (.i2l, 1) := by decide +kernel
theorem dX12_isGloss_12 : decode cX12_isGloss 12 = .ok (.invokestatic 154, 3) := by decide +kernel
theorem dX12_isGloss_15 : decode cX12_isGloss 15 = .ok (.ireturn, 1) := by decide +kernel
theorem dX12_lift_0 : decode cX12_lift 0 = .ok (.aload_n 0, 1) := by decide +kernel
theorem dX12_lift_1 : decode cX12_lift 1 = .ok (.iload_n 1, 1) := by decide +kernel
theorem dX12_lift_2 : decode cX12_lift 2 = .ok (.invokevirtual 371, 3) := by decide +kernel
theorem dX12_lift_5 : decode cX12_lift 5 = .ok (.ifCond .eq 12, 3) := by decide +kernel
theorem dX12_lift_8 : decode cX12_lift 8 = .ok (.aload_n 0, 1) := by decide +kernel
theorem dX12_lift_9 : decode cX12_lift 9 = .ok (.iload_n 1, 1) := by decide +kernel
theorem dX12_lift_10 : decode cX12_lift 10 = .ok (.iload_n 2, 1) := by decide +kernel
theorem dX12_lift_11 : decode cX12_lift 11 = .ok (.invokevirtual 401, 3) := by decide +kernel
theorem dX12_lift_14 : decode cX12_lift 14 = .ok (.ifCond .ne 7, 3) := by decide +kernel
theorem dX12_lift_17 : decode cX12_lift 17 = .ok (.sipush (-1001), 3) := by decide +kernel
theorem dX12_lift_20 : decode cX12_lift 20 = .ok (.ireturn, 1) := by decide +kernel
theorem dX12_lift_21 : decode cX12_lift 21 = .ok (.aload_n 0, 1) := by decide +kernel
theorem dX12_lift_22 : decode cX12_lift 22 = .ok (.getfield 19, 3) := by decide +kernel
theorem dX12_lift_25 : decode cX12_lift 25 = .ok (.iload_n 1, 1) := by decide +kernel
theorem dX12_lift_26 : decode cX12_lift 26 = .ok (.iaload, 1) := by decide +kernel
theorem dX12_lift_27 : decode cX12_lift 27 = .ok (.istore_n 3, 1) := by decide +kernel
theorem dX12_lift_28 : decode cX12_lift 28 = .ok (.aload_n 0, 1) := by decide +kernel
theorem dX12_lift_29 : decode cX12_lift 29 = .ok (.iload_n 1, 1) := by decide +kernel
theorem dX12_lift_30 : decode cX12_lift 30 = .ok (.bipush 10, 2) := by decide +kernel
theorem dX12_lift_32 : decode cX12_lift 32 = .ok (.invokevirtual 235, 3) := by decide +kernel
theorem dX12_lift_35 : decode cX12_lift 35 = .ok (.aload_n 0, 1) := by decide +kernel
theorem dX12_lift_36 : decode cX12_lift 36 = .ok (.invokevirtual 374, 3) := by decide +kernel
theorem dX12_lift_39 : decode cX12_lift 39 = .ok (.aload_n 0, 1) := by decide +kernel
theorem dX12_lift_40 : decode cX12_lift 40 = .ok (.iload_n 2, 1) := by decide +kernel
theorem dX12_lift_41 : decode cX12_lift 41 = .ok (.invokevirtual 353, 3) := by decide +kernel
theorem dX12_lift_44 : decode cX12_lift 44 = .ok (.aload_n 0, 1) := by decide +kernel
theorem dX12_lift_45 : decode cX12_lift 45 = .ok (.iload_n 1, 1) := by decide +kernel
theorem dX12_lift_46 : decode cX12_lift 46 = .ok (.invokevirtual 395, 3) := by decide +kernel
theorem dX12_lift_49 : decode cX12_lift 49 = .ok (.iload_n 3, 1) := by decide +kernel
theorem dX12_lift_50 : decode cX12_lift 50 = .ok (.aload_n 0, 1) := by decide +kernel
theorem dX12_lift_51 : decode cX12_lift 51 = .ok (.getfield 19, 3) := by decide +kernel
theorem dX12_lift_54 : decode cX12_lift 54 = .ok (.iload_n 1, 1) := by decide +kernel
theorem dX12_lift_55 : decode cX12_lift 55 = .ok (.iaload, 1) := by decide +kernel
theorem dX12_lift_56 : decode cX12_lift 56 = .ok (.isub, 1) := by decide +kernel
theorem dX12_lift_57 : decode cX12_lift 57 = .ok (.ireturn, 1) := by decide +kernel
theorem dX12_print_0 : decode cX12_print 0 = .ok (.aload_n 0, 1) := by decide +kernel
theorem dX12_print_1 : decode cX12_print 1 = .ok (.iload_n 1, 1) := by decide +kernel
theorem dX12_print_2 : decode cX12_print 2 = .ok (.invokevirtual 371, 3) := by decide +kernel
theorem dX12_print_5 : decode cX12_print 5 = .ok (.ifCond .ne 7, 3) := by decide +kernel
theorem dX12_print_8 : decode cX12_print 8 = .ok (.sipush (-1001), 3) := by decide +kernel
theorem dX12_print_11 : decode cX12_print 11 = .ok (.ireturn, 1) := by decide +kernel
theorem dX12_print_12 : decode cX12_print 12 = .ok (.aload_n 0, 1) := by decide +kernel
theorem dX12_print_13 : decode cX12_print 13 = .ok (.invokevirtual 374, 3) := by decide +kernel
theorem dX12_print_16 : decode cX12_print 16 = .ok (.aload_n 0, 1) := by decide +kernel
theorem dX12_print_17 : decode cX12_print 17 = .ok (.iload_n 1, 1) := by decide +kernel
theorem dX12_print_18 : decode cX12_print 18 = .ok (.invokevirtual 339, 3) := by decide +kernel
theorem dX12_print_21 : decode cX12_print 21 = .ok (.iload_n 2, 1) := by decide +kernel
theorem dX12_print_22 : decode cX12_print 22 = .ok (.iconst (-1), 1) := by decide +kernel
theorem dX12_print_23 : decode cX12_print 23 = .ok (.if_icmp .ne 10, 3) := by decide +kernel
theorem dX12_print_26 : decode cX12_print 26 = .ok (.aload_n 0, 1) := by decide +kernel
theorem dX12_print_27 : decode cX12_print 27 = .ok (.getfield 315, 3) := by decide +kernel
theorem dX12_print_30 : decode cX12_print 30 = .ok (.goto 29, 3) := by decide +kernel
theorem dX12_print_33 : decode cX12_print 33 = .ok (.iload_n 2, 1) := by decide +kernel
theorem dX12_print_34 : decode cX12_print 34 = .ok (.i2l, 1) := by decide +kernel
theorem dX12_print_35 : decode cX12_print 35 = .ok (.lconst 0, 1) := by decide +kernel
theorem dX12_print_36 : decode cX12_print 36 = .ok (.aload_n 0, 1) := by decide +kernel
theorem dX12_print_37 : decode cX12_print 37 = .ok (.getfield 315, 3) := by decide +kernel
theorem dX12_print_40 : decode cX12_print 40 = .ok (.iconst 1, 1) := by decide +kernel
theorem dX12_print_41 : decode cX12_print 41 = .ok (.isub, 1) := by decide +kernel
theorem dX12_print_42 : decode cX12_print 42 = .ok (.i2l, 1) := by decide +kernel
theorem dX12_print_43 : decode cX12_print 43 = .ok (.invokestatic 154, 3) := by decide +kernel
theorem dX12_print_46 : decode cX12_print 46 = .ok (.ifCond .eq 12, 3) := by decide +kernel
theorem dX12_print_49 : decode cX12_print 49 = .ok (.aload_n 0, 1) := by decide +kernel
theorem dX12_print_50 : decode cX12_print 50 = .ok (.getfield 120, 3) := by decide +kernel
theorem dX12_print_53 : decode cX12_print 53 = .ok (.iload_n 2, 1) := by decide +kernel
theorem dX12_print_54 : decode cX12_print 54 = .ok (.iaload, 1) := by decide +kernel
theorem dX12_print_55 : decode cX12_print 55 = .ok (.goto 4, 3) := by decide +kernel
theorem dX12_print_58 : decode cX12_print 58 = .ok (.iconst (-1), 1) := by decide +kernel
theorem dX12_print_59 : decode cX12_print 59 = .ok (.ireturn, 1) := by decide +kernel
theorem dX12_word_0 : decode cX12_word 0 = .ok (.aload_n 0, 1) := by decide +kernel
theorem dX12_word_1 : decode cX12_word 1 = .ok (.iload_n 1, 1) := by decide +kernel
theorem dX12_word_2 : decode cX12_word 2 = .ok (.invokevirtual 371, 3) := by decide +kernel
theorem dX12_word_5 : decode cX12_word 5 = .ok (.ifCond .ne 7, 3) := by decide +kernel
theorem dX12_word_8 : decode cX12_word 8 = .ok (.sipush (-1001), 3) := by decide +kernel
theorem dX12_word_11 : decode cX12_word 11 = .ok (.ireturn, 1) := by decide +kernel
theorem dX12_word_12 : decode cX12_word 12 = .ok (.iload_n 2, 1) := by decide +kernel
theorem dX12_word_13 : decode cX12_word 13 = .ok (.i2l, 1) := by decide +kernel
theorem dX12_word_14 : decode cX12_word 14 = .ok (.lconst 0, 1) := by decide +kernel
theorem dX12_word_15 : decode cX12_word 15 = .ok (.aload_n 0, 1) := by decide +kernel
theorem dX12_word_16 : decode cX12_word 16 = .ok (.getfield 7, 3) := by decide +kernel
theorem dX12_word_19 : decode cX12_word 19 = .ok (.iload_n 1, 1) := by decide +kernel
theorem dX12_word_20 : decode cX12_word 20 = .ok (.iaload, 1) := by decide +kernel
theorem dX12_word_21 : decode cX12_word 21 = .ok (.iconst 1, 1) := by decide +kernel
theorem dX12_word_22 : decode cX12_word 22 = .ok (.isub, 1) := by decide +kernel
theorem dX12_word_23 : decode cX12_word 23 = .ok (.i2l, 1) := by decide +kernel
theorem dX12_word_24 : decode cX12_word 24 = .ok (.invokestatic 154, 3) := by decide +kernel
theorem dX12_word_27 : decode cX12_word 27 = .ok (.ifCond .eq 17, 3) := by decide +kernel
theorem dX12_word_30 : decode cX12_word 30 = .ok (.aload_n 0, 1) := by decide +kernel
theorem dX12_word_31 : decode cX12_word 31 = .ok (.getfield 13, 3) := by decide +kernel
theorem dX12_word_34 : decode cX12_word 34 = .ok (.bipush 40, 2) := by decide +kernel
theorem dX12_word_36 : decode cX12_word 36 = .ok (.iload_n 1, 1) := by decide +kernel
theorem dX12_word_37 : decode cX12_word 37 = .ok (.imul, 1) := by decide +kernel
theorem dX12_word_38 : decode cX12_word 38 = .ok (.iload_n 2, 1) := by decide +kernel
theorem dX12_word_39 : decode cX12_word 39 = .ok (.iadd, 1) := by decide +kernel
theorem dX12_word_40 : decode cX12_word 40 = .ok (.iaload, 1) := by decide +kernel
theorem dX12_word_41 : decode cX12_word 41 = .ok (.goto 4, 3) := by decide +kernel
theorem dX12_word_44 : decode cX12_word 44 = .ok (.iconst (-1), 1) := by decide +kernel
theorem dX12_word_45 : decode cX12_word 45 = .ok (.ireturn, 1) := by decide +kernel
theorem dX12_depth_0 : decode cX12_depth 0 = .ok (.iconst 1, 1) := by decide +kernel
theorem dX12_depth_1 : decode cX12_depth 1 = .ok (.istore_n 3, 1) := by decide +kernel
theorem dX12_depth_2 : decode cX12_depth 2 = .ok (.aload_n 0, 1) := by decide +kernel
theorem dX12_depth_3 : decode cX12_depth 3 = .ok (.getfield 25, 3) := by decide +kernel
theorem dX12_depth_6 : decode cX12_depth 6 = .ok (.bipush 20, 2) := by decide +kernel
theorem dX12_depth_8 : decode cX12_depth 8 = .ok (.iload_n 1, 1) := by decide +kernel
theorem dX12_depth_9 : decode cX12_depth 9 = .ok (.imul, 1) := by decide +kernel
theorem dX12_depth_10 : decode cX12_depth 10 = .ok (.iload_n 2, 1) := by decide +kernel
theorem dX12_depth_11 : decode cX12_depth 11 = .ok (.iadd, 1) := by decide +kernel
theorem dX12_depth_12 : decode cX12_depth 12 = .ok (.iaload, 1) := by decide +kernel
theorem dX12_depth_13 : decode cX12_depth 13 = .ok (.istore 4, 2) := by decide +kernel
theorem dX12_depth_15 : decode cX12_depth 15 = .ok (.iload 4, 2) := by decide +kernel
theorem dX12_depth_17 : decode cX12_depth 17 = .ok (.ifCond .lt 23, 3) := by decide +kernel
theorem dX12_depth_20 : decode cX12_depth 20 = .ok (.iinc 3 1, 3) := by decide +kernel
theorem dX12_depth_23 : decode cX12_depth 23 = .ok (.aload_n 0, 1) := by decide +kernel
theorem dX12_depth_24 : decode cX12_depth 24 = .ok (.getfield 25, 3) := by decide +kernel
theorem dX12_depth_27 : decode cX12_depth 27 = .ok (.bipush 20, 2) := by decide +kernel
theorem dX12_depth_29 : decode cX12_depth 29 = .ok (.iload_n 1, 1) := by decide +kernel
theorem dX12_depth_30 : decode cX12_depth 30 = .ok (.imul, 1) := by decide +kernel
theorem dX12_depth_31 : decode cX12_depth 31 = .ok (.iload 4, 2) := by decide +kernel
theorem dX12_depth_33 : decode cX12_depth 33 = .ok (.iadd, 1) := by decide +kernel
theorem dX12_depth_34 : decode cX12_depth 34 = .ok (.iaload, 1) := by decide +kernel
theorem dX12_depth_35 : decode cX12_depth 35 = .ok (.istore 4, 2) := by decide +kernel
theorem dX12_depth_37 : decode cX12_depth 37 = .ok (.goto (-22), 3) := by decide +kernel
theorem dX12_depth_40 : decode cX12_depth 40 = .ok (.iload_n 3, 1) := by decide +kernel
theorem dX12_depth_41 : decode cX12_depth 41 = .ok (.ireturn, 1) := by decide +kernel
theorem dX12_placeIn_0 : decode cX12_placeIn 0 = .ok (.iconst 0, 1) := by decide +kernel
theorem dX12_placeIn_1 : decode cX12_placeIn 1 = .ok (.istore_n 3, 1) := by decide +kernel
theorem dX12_placeIn_2 : decode cX12_placeIn 2 = .ok (.iconst 0, 1) := by decide +kernel
theorem dX12_placeIn_3 : decode cX12_placeIn 3 = .ok (.istore 4, 2) := by decide +kernel
theorem dX12_placeIn_5 : decode cX12_placeIn 5 = .ok (.iload 4, 2) := by decide +kernel
theorem dX12_placeIn_7 : decode cX12_placeIn 7 = .ok (.iload_n 2, 1) := by decide +kernel
theorem dX12_placeIn_8 : decode cX12_placeIn 8 = .ok (.if_icmp .ge 43, 3) := by decide +kernel
theorem dX12_placeIn_11 : decode cX12_placeIn 11 = .ok (.iload_n 3, 1) := by decide +kernel
theorem dX12_placeIn_12 : decode cX12_placeIn 12 = .ok (.aload_n 0, 1) := by decide +kernel
theorem dX12_placeIn_13 : decode cX12_placeIn 13 = .ok (.getfield 28, 3) := by decide +kernel
theorem dX12_placeIn_16 : decode cX12_placeIn 16 = .ok (.bipush 20, 2) := by decide +kernel
theorem dX12_placeIn_18 : decode cX12_placeIn 18 = .ok (.iload_n 1, 1) := by decide +kernel
theorem dX12_placeIn_19 : decode cX12_placeIn 19 = .ok (.imul, 1) := by decide +kernel
theorem dX12_placeIn_20 : decode cX12_placeIn 20 = .ok (.iload 4, 2) := by decide +kernel
theorem dX12_placeIn_22 : decode cX12_placeIn 22 = .ok (.iadd, 1) := by decide +kernel
theorem dX12_placeIn_23 : decode cX12_placeIn 23 = .ok (.iaload, 1) := by decide +kernel
theorem dX12_placeIn_24 : decode cX12_placeIn 24 = .ok (.aload_n 0, 1) := by decide +kernel
theorem dX12_placeIn_25 : decode cX12_placeIn 25 = .ok (.getfield 28, 3) := by decide +kernel
theorem dX12_placeIn_28 : decode cX12_placeIn 28 = .ok (.bipush 20, 2) := by decide +kernel
theorem dX12_placeIn_30 : decode cX12_placeIn 30 = .ok (.iload_n 1, 1) := by decide +kernel
theorem dX12_placeIn_31 : decode cX12_placeIn 31 = .ok (.imul, 1) := by decide +kernel
theorem dX12_placeIn_32 : decode cX12_placeIn 32 = .ok (.iload_n 2, 1) := by decide +kernel
theorem dX12_placeIn_33 : decode cX12_placeIn 33 = .ok (.iadd, 1) := by decide +kernel
theorem dX12_placeIn_34 : decode cX12_placeIn 34 = .ok (.iaload, 1) := by decide +kernel
theorem dX12_placeIn_35 : decode cX12_placeIn 35 = .ok (.if_icmp .ne 7, 3) := by decide +kernel
theorem dX12_placeIn_38 : decode cX12_placeIn 38 = .ok (.iconst 1, 1) := by decide +kernel
theorem dX12_placeIn_39 : decode cX12_placeIn 39 = .ok (.goto 4, 3) := by decide +kernel
theorem dX12_placeIn_42 : decode cX12_placeIn 42 = .ok (.iconst 0, 1) := by decide +kernel
theorem dX12_placeIn_43 : decode cX12_placeIn 43 = .ok (.iadd, 1) := by decide +kernel
theorem dX12_placeIn_44 : decode cX12_placeIn 44 = .ok (.istore_n 3, 1) := by decide +kernel
theorem dX12_placeIn_45 : decode cX12_placeIn 45 = .ok (.iinc 4 1, 3) := by decide +kernel
theorem dX12_placeIn_48 : decode cX12_placeIn 48 = .ok (.goto (-43), 3) := by decide +kernel
theorem dX12_placeIn_51 : decode cX12_placeIn 51 = .ok (.iload_n 3, 1) := by decide +kernel
theorem dX12_placeIn_52 : decode cX12_placeIn 52 = .ok (.ireturn, 1) := by decide +kernel
theorem dX12_about_0 : decode cX12_about 0 = .ok (.aload_n 0, 1) := by decide +kernel
theorem dX12_about_1 : decode cX12_about 1 = .ok (.iload_n 1, 1) := by decide +kernel
theorem dX12_about_2 : decode cX12_about 2 = .ok (.invokevirtual 371, 3) := by decide +kernel
theorem dX12_about_5 : decode cX12_about 5 = .ok (.ifCond .ne 7, 3) := by decide +kernel
theorem dX12_about_8 : decode cX12_about 8 = .ok (.sipush (-1001), 3) := by decide +kernel
theorem dX12_about_11 : decode cX12_about 11 = .ok (.ireturn, 1) := by decide +kernel
theorem dX12_about_12 : decode cX12_about 12 = .ok (.iconst 0, 1) := by decide +kernel
theorem dX12_about_13 : decode cX12_about 13 = .ok (.istore_n 3, 1) := by decide +kernel
theorem dX12_about_14 : decode cX12_about 14 = .ok (.iconst 0, 1) := by decide +kernel
theorem dX12_about_15 : decode cX12_about 15 = .ok (.istore 4, 2) := by decide +kernel
theorem dX12_about_17 : decode cX12_about 17 = .ok (.iconst 0, 1) := by decide +kernel
theorem dX12_about_18 : decode cX12_about 18 = .ok (.istore 5, 2) := by decide +kernel
theorem dX12_about_20 : decode cX12_about 20 = .ok (.iconst 0, 1) := by decide +kernel
theorem dX12_about_21 : decode cX12_about 21 = .ok (.istore 6, 2) := by decide +kernel
theorem dX12_about_23 : decode cX12_about 23 = .ok (.iconst 0, 1) := by decide +kernel
theorem dX12_about_24 : decode cX12_about 24 = .ok (.istore 7, 2) := by decide +kernel
theorem dX12_about_26 : decode cX12_about 26 = .ok (.iload 7, 2) := by decide +kernel
theorem dX12_about_28 : decode cX12_about 28 = .ok (.aload_n 0, 1) := by decide +kernel
theorem dX12_about_29 : decode cX12_about 29 = .ok (.getfield 19, 3) := by decide +kernel
theorem dX12_about_32 : decode cX12_about 32 = .ok (.iload_n 1, 1) := by decide +kernel
theorem dX12_about_33 : decode cX12_about 33 = .ok (.iaload, 1) := by decide +kernel
theorem dX12_about_34 : decode cX12_about 34 = .ok (.if_icmp .ge 93, 3) := by decide +kernel
theorem dX12_about_37 : decode cX12_about 37 = .ok (.aload_n 0, 1) := by decide +kernel
theorem dX12_about_38 : decode cX12_about 38 = .ok (.iload_n 1, 1) := by decide +kernel
theorem dX12_about_39 : decode cX12_about 39 = .ok (.iload 7, 2) := by decide +kernel
theorem dX12_about_41 : decode cX12_about 41 = .ok (.invokevirtual 405, 3) := by decide +kernel
theorem dX12_about_44 : decode cX12_about 44 = .ok (.istore 8, 2) := by decide +kernel
theorem dX12_about_46 : decode cX12_about 46 = .ok (.iload 8, 2) := by decide +kernel
theorem dX12_about_48 : decode cX12_about 48 = .ok (.iload_n 3, 1) := by decide +kernel
theorem dX12_about_49 : decode cX12_about 49 = .ok (.if_icmp .le 8, 3) := by decide +kernel
theorem dX12_about_52 : decode cX12_about 52 = .ok (.iload 8, 2) := by decide +kernel
theorem dX12_about_54 : decode cX12_about 54 = .ok (.goto 4, 3) := by decide +kernel
theorem dX12_about_57 : decode cX12_about 57 = .ok (.iload_n 3, 1) := by decide +kernel
theorem dX12_about_58 : decode cX12_about 58 = .ok (.istore_n 3, 1) := by decide +kernel
theorem dX12_about_59 : decode cX12_about 59 = .ok (.iload 4, 2) := by decide +kernel
theorem dX12_about_61 : decode cX12_about 61 = .ok (.aload_n 0, 1) := by decide +kernel
theorem dX12_about_62 : decode cX12_about 62 = .ok (.iload_n 1, 1) := by decide +kernel
theorem dX12_about_63 : decode cX12_about 63 = .ok (.iload 7, 2) := by decide +kernel
theorem dX12_about_65 : decode cX12_about 65 = .ok (.invokevirtual 408, 3) := by decide +kernel
theorem dX12_about_68 : decode cX12_about 68 = .ok (.ifCond .ne 7, 3) := by decide +kernel
theorem dX12_about_71 : decode cX12_about 71 = .ok (.iconst 1, 1) := by decide +kernel
theorem dX12_about_72 : decode cX12_about 72 = .ok (.goto 4, 3) := by decide +kernel
theorem dX12_about_75 : decode cX12_about 75 = .ok (.iconst 0, 1) := by decide +kernel
theorem dX12_about_76 : decode cX12_about 76 = .ok (.iadd, 1) := by decide +kernel
theorem dX12_about_77 : decode cX12_about 77 = .ok (.istore 4, 2) := by decide +kernel
theorem dX12_about_79 : decode cX12_about 79 = .ok (.iload 5, 2) := by decide +kernel
theorem dX12_about_81 : decode cX12_about 81 = .ok (.aload_n 0, 1) := by decide +kernel
theorem dX12_about_82 : decode cX12_about 82 = .ok (.getfield 22, 3) := by decide +kernel
theorem dX12_about_85 : decode cX12_about 85 = .ok (.bipush 20, 2) := by decide +kernel
theorem dX12_about_87 : decode cX12_about 87 = .ok (.iload_n 1, 1) := by decide +kernel
theorem dX12_about_88 : decode cX12_about 88 = .ok (.imul, 1) := by decide +kernel
theorem dX12_about_89 : decode cX12_about 89 = .ok (.iload 7, 2) := by decide +kernel
theorem dX12_about_91 : decode cX12_about 91 = .ok (.iadd, 1) := by decide +kernel
theorem dX12_about_92 : decode cX12_about 92 = .ok (.iaload, 1) := by decide +kernel
theorem dX12_about_93 : decode cX12_about 93 = .ok (.ifCond .ne 7, 3) := by decide +kernel
theorem dX12_about_96 : decode cX12_about 96 = .ok (.iconst 1, 1) := by decide +kernel
theorem dX12_about_97 : decode cX12_about 97 = .ok (.goto 4, 3) := by decide +kernel
theorem dX12_about_100 : decode cX12_about 100 = .ok (.iconst 0, 1) := by decide +kernel
theorem dX12_about_101 : decode cX12_about 101 = .ok (.iadd, 1) := by decide +kernel
theorem dX12_about_102 : decode cX12_about 102 = .ok (.istore 5, 2) := by decide +kernel
theorem dX12_about_104 : decode cX12_about 104 = .ok (.iload 6, 2) := by decide +kernel
theorem dX12_about_106 : decode cX12_about 106 = .ok (.aload_n 0, 1) := by decide +kernel
theorem dX12_about_107 : decode cX12_about 107 = .ok (.getfield 31, 3) := by decide +kernel
theorem dX12_about_110 : decode cX12_about 110 = .ok (.bipush 20, 2) := by decide +kernel
theorem dX12_about_112 : decode cX12_about 112 = .ok (.iload_n 1, 1) := by decide +kernel
theorem dX12_about_113 : decode cX12_about 113 = .ok (.imul, 1) := by decide +kernel
theorem dX12_about_114 : decode cX12_about 114 = .ok (.iload 7, 2) := by decide +kernel
theorem dX12_about_116 : decode cX12_about 116 = .ok (.iadd, 1) := by decide +kernel
theorem dX12_about_117 : decode cX12_about 117 = .ok (.iaload, 1) := by decide +kernel
theorem dX12_about_118 : decode cX12_about 118 = .ok (.iadd, 1) := by decide +kernel
theorem dX12_about_119 : decode cX12_about 119 = .ok (.istore 6, 2) := by decide +kernel
theorem dX12_about_121 : decode cX12_about 121 = .ok (.iinc 7 1, 3) := by decide +kernel
theorem dX12_about_124 : decode cX12_about 124 = .ok (.goto (-98), 3) := by decide +kernel
theorem dX12_about_127 : decode cX12_about 127 = .ok (.iload_n 2, 1) := by decide +kernel
theorem dX12_about_128 : decode cX12_about 128 = .ok (.tableswitch 87 0 7 #[48, 55, 62, 64, 71, 78, 81, 84], 48) := by decide +kernel
theorem dX12_about_176 : decode cX12_about 176 = .ok (.aload_n 0, 1) := by decide +kernel
theorem dX12_about_177 : decode cX12_about 177 = .ok (.getfield 7, 3) := by decide +kernel
theorem dX12_about_180 : decode cX12_about 180 = .ok (.iload_n 1, 1) := by decide +kernel
theorem dX12_about_181 : decode cX12_about 181 = .ok (.iaload, 1) := by decide +kernel
theorem dX12_about_182 : decode cX12_about 182 = .ok (.ireturn, 1) := by decide +kernel
theorem dX12_about_183 : decode cX12_about 183 = .ok (.aload_n 0, 1) := by decide +kernel
theorem dX12_about_184 : decode cX12_about 184 = .ok (.getfield 19, 3) := by decide +kernel
theorem dX12_about_187 : decode cX12_about 187 = .ok (.iload_n 1, 1) := by decide +kernel
theorem dX12_about_188 : decode cX12_about 188 = .ok (.iaload, 1) := by decide +kernel
theorem dX12_about_189 : decode cX12_about 189 = .ok (.ireturn, 1) := by decide +kernel
theorem dX12_about_190 : decode cX12_about 190 = .ok (.iload_n 3, 1) := by decide +kernel
theorem dX12_about_191 : decode cX12_about 191 = .ok (.ireturn, 1) := by decide +kernel
theorem dX12_about_192 : decode cX12_about 192 = .ok (.aload_n 0, 1) := by decide +kernel
theorem dX12_about_193 : decode cX12_about 193 = .ok (.getfield 40, 3) := by decide +kernel
theorem dX12_about_196 : decode cX12_about 196 = .ok (.iload_n 1, 1) := by decide +kernel
theorem dX12_about_197 : decode cX12_about 197 = .ok (.iaload, 1) := by decide +kernel
theorem dX12_about_198 : decode cX12_about 198 = .ok (.ireturn, 1) := by decide +kernel
theorem dX12_about_199 : decode cX12_about 199 = .ok (.aload_n 0, 1) := by decide +kernel
theorem dX12_about_200 : decode cX12_about 200 = .ok (.getfield 43, 3) := by decide +kernel
theorem dX12_about_203 : decode cX12_about 203 = .ok (.iload_n 1, 1) := by decide +kernel
theorem dX12_about_204 : decode cX12_about 204 = .ok (.iaload, 1) := by decide +kernel
theorem dX12_about_205 : decode cX12_about 205 = .ok (.ireturn, 1) := by decide +kernel
theorem dX12_about_206 : decode cX12_about 206 = .ok (.iload 4, 2) := by decide +kernel
theorem dX12_about_208 : decode cX12_about 208 = .ok (.ireturn, 1) := by decide +kernel
theorem dX12_about_209 : decode cX12_about 209 = .ok (.iload 5, 2) := by decide +kernel
theorem dX12_about_211 : decode cX12_about 211 = .ok (.ireturn, 1) := by decide +kernel
theorem dX12_about_212 : decode cX12_about 212 = .ok (.iload 6, 2) := by decide +kernel
theorem dX12_about_214 : decode cX12_about 214 = .ok (.ireturn, 1) := by decide +kernel
theorem dX12_about_215 : decode cX12_about 215 = .ok (.sipush (-1002), 3) := by decide +kernel
theorem dX12_about_218 : decode cX12_about 218 = .ok (.ireturn, 1) := by decide +kernel
theorem dX12_gloss_0 : decode cX12_gloss 0 = .ok (.aload_n 0, 1) := by decide +kernel
theorem dX12_gloss_1 : decode cX12_gloss 1 = .ok (.iload_n 1, 1) := by decide +kernel
theorem dX12_gloss_2 : decode cX12_gloss 2 = .ok (.invokevirtual 371, 3) := by decide +kernel
theorem dX12_gloss_5 : decode cX12_gloss 5 = .ok (.ifCond .eq 12, 3) := by decide +kernel
theorem dX12_gloss_8 : decode cX12_gloss 8 = .ok (.aload_n 0, 1) := by decide +kernel
theorem dX12_gloss_9 : decode cX12_gloss 9 = .ok (.iload_n 1, 1) := by decide +kernel
theorem dX12_gloss_10 : decode cX12_gloss 10 = .ok (.iload_n 2, 1) := by decide +kernel
theorem dX12_gloss_11 : decode cX12_gloss 11 = .ok (.invokevirtual 401, 3) := by decide +kernel
theorem dX12_gloss_14 : decode cX12_gloss 14 = .ok (.ifCond .ne 7, 3) := by decide +kernel
theorem dX12_gloss_17 : decode cX12_gloss 17 = .ok (.sipush (-1001), 3) := by decide +kernel
theorem dX12_gloss_20 : decode cX12_gloss 20 = .ok (.ireturn, 1) := by decide +kernel
theorem dX12_gloss_21 : decode cX12_gloss 21 = .ok (.bipush 20, 2) := by decide +kernel
theorem dX12_gloss_23 : decode cX12_gloss 23 = .ok (.iload_n 1, 1) := by decide +kernel
theorem dX12_gloss_24 : decode cX12_gloss 24 = .ok (.imul, 1) := by decide +kernel
theorem dX12_gloss_25 : decode cX12_gloss 25 = .ok (.iload_n 2, 1) := by decide +kernel
theorem dX12_gloss_26 : decode cX12_gloss 26 = .ok (.iadd, 1) := by decide +kernel
theorem dX12_gloss_27 : decode cX12_gloss 27 = .ok (.istore 4, 2) := by decide +kernel
theorem dX12_gloss_29 : decode cX12_gloss 29 = .ok (.aload_n 0, 1) := by decide +kernel
theorem dX12_gloss_30 : decode cX12_gloss 30 = .ok (.iload_n 1, 1) := by decide +kernel
theorem dX12_gloss_31 : decode cX12_gloss 31 = .ok (.aload_n 0, 1) := by decide +kernel
theorem dX12_gloss_32 : decode cX12_gloss 32 = .ok (.getfield 25, 3) := by decide +kernel
theorem dX12_gloss_35 : decode cX12_gloss 35 = .ok (.iload 4, 2) := by decide +kernel
theorem dX12_gloss_37 : decode cX12_gloss 37 = .ok (.iaload, 1) := by decide +kernel
theorem dX12_gloss_38 : decode cX12_gloss 38 = .ok (.aload_n 0, 1) := by decide +kernel
theorem dX12_gloss_39 : decode cX12_gloss 39 = .ok (.getfield 28, 3) := by decide +kernel
theorem dX12_gloss_42 : decode cX12_gloss 42 = .ok (.iload 4, 2) := by decide +kernel
theorem dX12_gloss_44 : decode cX12_gloss 44 = .ok (.iaload, 1) := by decide +kernel
theorem dX12_gloss_45 : decode cX12_gloss 45 = .ok (.invokevirtual 359, 3) := by decide +kernel
theorem dX12_gloss_48 : decode cX12_gloss 48 = .ok (.istore 5, 2) := by decide +kernel
theorem dX12_gloss_50 : decode cX12_gloss 50 = .ok (.iload_n 3, 1) := by decide +kernel
theorem dX12_gloss_51 : decode cX12_gloss 51 = .ok (.tableswitch 107 0 6 #[41, 49, 57, 60, 85, 93, 100], 41) := by decide +kernel
theorem dX12_gloss_92 : decode cX12_gloss 92 = .ok (.aload_n 0, 1) := by decide +kernel
theorem dX12_gloss_93 : decode cX12_gloss 93 = .ok (.getfield 22, 3) := by decide +kernel
theorem dX12_gloss_96 : decode cX12_gloss 96 = .ok (.iload 4, 2) := by decide +kernel
theorem dX12_gloss_98 : decode cX12_gloss 98 = .ok (.iaload, 1) := by decide +kernel
theorem dX12_gloss_99 : decode cX12_gloss 99 = .ok (.ireturn, 1) := by decide +kernel
theorem dX12_gloss_100 : decode cX12_gloss 100 = .ok (.aload_n 0, 1) := by decide +kernel
theorem dX12_gloss_101 : decode cX12_gloss 101 = .ok (.getfield 25, 3) := by decide +kernel
theorem dX12_gloss_104 : decode cX12_gloss 104 = .ok (.iload 4, 2) := by decide +kernel
theorem dX12_gloss_106 : decode cX12_gloss 106 = .ok (.iaload, 1) := by decide +kernel
theorem dX12_gloss_107 : decode cX12_gloss 107 = .ok (.ireturn, 1) := by decide +kernel
theorem dX12_gloss_108 : decode cX12_gloss 108 = .ok (.iload 5, 2) := by decide +kernel
theorem dX12_gloss_110 : decode cX12_gloss 110 = .ok (.ireturn, 1) := by decide +kernel
theorem dX12_gloss_111 : decode cX12_gloss 111 = .ok (.iload 5, 2) := by decide +kernel
theorem dX12_gloss_113 : decode cX12_gloss 113 = .ok (.aload_n 0, 1) := by decide +kernel
theorem dX12_gloss_114 : decode cX12_gloss 114 = .ok (.iload_n 1, 1) := by decide +kernel
theorem dX12_gloss_115 : decode cX12_gloss 115 = .ok (.aload_n 0, 1) := by decide +kernel
theorem dX12_gloss_116 : decode cX12_gloss 116 = .ok (.getfield 25, 3) := by decide +kernel
theorem dX12_gloss_119 : decode cX12_gloss 119 = .ok (.iload 4, 2) := by decide +kernel
theorem dX12_gloss_121 : decode cX12_gloss 121 = .ok (.iaload, 1) := by decide +kernel
theorem dX12_gloss_122 : decode cX12_gloss 122 = .ok (.aload_n 0, 1) := by decide +kernel
theorem dX12_gloss_123 : decode cX12_gloss 123 = .ok (.getfield 28, 3) := by decide +kernel
theorem dX12_gloss_126 : decode cX12_gloss 126 = .ok (.iload 4, 2) := by decide +kernel
theorem dX12_gloss_128 : decode cX12_gloss 128 = .ok (.iaload, 1) := by decide +kernel
theorem dX12_gloss_129 : decode cX12_gloss 129 = .ok (.invokevirtual 362, 3) := by decide +kernel
theorem dX12_gloss_132 : decode cX12_gloss 132 = .ok (.iadd, 1) := by decide +kernel
theorem dX12_gloss_133 : decode cX12_gloss 133 = .ok (.iconst 1, 1) := by decide +kernel
theorem dX12_gloss_134 : decode cX12_gloss 134 = .ok (.isub, 1) := by decide +kernel
theorem dX12_gloss_135 : decode cX12_gloss 135 = .ok (.ireturn, 1) := by decide +kernel
theorem dX12_gloss_136 : decode cX12_gloss 136 = .ok (.aload_n 0, 1) := by decide +kernel
theorem dX12_gloss_137 : decode cX12_gloss 137 = .ok (.getfield 31, 3) := by decide +kernel
theorem dX12_gloss_140 : decode cX12_gloss 140 = .ok (.iload 4, 2) := by decide +kernel
theorem dX12_gloss_142 : decode cX12_gloss 142 = .ok (.iaload, 1) := by decide +kernel
theorem dX12_gloss_143 : decode cX12_gloss 143 = .ok (.ireturn, 1) := by decide +kernel
theorem dX12_gloss_144 : decode cX12_gloss 144 = .ok (.aload_n 0, 1) := by decide +kernel
theorem dX12_gloss_145 : decode cX12_gloss 145 = .ok (.iload_n 1, 1) := by decide +kernel
theorem dX12_gloss_146 : decode cX12_gloss 146 = .ok (.iload_n 2, 1) := by decide +kernel
theorem dX12_gloss_147 : decode cX12_gloss 147 = .ok (.invokevirtual 405, 3) := by decide +kernel
theorem dX12_gloss_150 : decode cX12_gloss 150 = .ok (.ireturn, 1) := by decide +kernel
theorem dX12_gloss_151 : decode cX12_gloss 151 = .ok (.aload_n 0, 1) := by decide +kernel
theorem dX12_gloss_152 : decode cX12_gloss 152 = .ok (.iload_n 1, 1) := by decide +kernel
theorem dX12_gloss_153 : decode cX12_gloss 153 = .ok (.iload_n 2, 1) := by decide +kernel
theorem dX12_gloss_154 : decode cX12_gloss 154 = .ok (.invokevirtual 408, 3) := by decide +kernel
theorem dX12_gloss_157 : decode cX12_gloss 157 = .ok (.ireturn, 1) := by decide +kernel
theorem dX12_gloss_158 : decode cX12_gloss 158 = .ok (.iload_n 3, 1) := by decide +kernel
theorem dX12_gloss_159 : decode cX12_gloss 159 = .ok (.i2l, 1) := by decide +kernel
theorem dX12_gloss_160 : decode cX12_gloss 160 = .ok (.ldc2_w 411, 3) := by decide +kernel
theorem dX12_gloss_163 : decode cX12_gloss 163 = .ok (.ldc2_w 413, 3) := by decide +kernel
theorem dX12_gloss_166 : decode cX12_gloss 166 = .ok (.invokestatic 154, 3) := by decide +kernel
theorem dX12_gloss_169 : decode cX12_gloss 169 = .ok (.ifCond .ne 9, 3) := by decide +kernel
theorem dX12_gloss_172 : decode cX12_gloss 172 = .ok (.sipush (-1002), 3) := by decide +kernel
theorem dX12_gloss_175 : decode cX12_gloss 175 = .ok (.goto 36, 3) := by decide +kernel
theorem dX12_gloss_178 : decode cX12_gloss 178 = .ok (.iload_n 3, 1) := by decide +kernel
theorem dX12_gloss_179 : decode cX12_gloss 179 = .ok (.bipush 7, 2) := by decide +kernel
theorem dX12_gloss_181 : decode cX12_gloss 181 = .ok (.isub, 1) := by decide +kernel
theorem dX12_gloss_182 : decode cX12_gloss 182 = .ok (.aload_n 0, 1) := by decide +kernel
theorem dX12_gloss_183 : decode cX12_gloss 183 = .ok (.getfield 31, 3) := by decide +kernel
theorem dX12_gloss_186 : decode cX12_gloss 186 = .ok (.iload 4, 2) := by decide +kernel
theorem dX12_gloss_188 : decode cX12_gloss 188 = .ok (.iaload, 1) := by decide +kernel
theorem dX12_gloss_189 : decode cX12_gloss 189 = .ok (.if_icmp .ge 21, 3) := by decide +kernel
theorem dX12_gloss_192 : decode cX12_gloss 192 = .ok (.aload_n 0, 1) := by decide +kernel
theorem dX12_gloss_193 : decode cX12_gloss 193 = .ok (.getfield 34, 3) := by decide +kernel
theorem dX12_gloss_196 : decode cX12_gloss 196 = .ok (.bipush 8, 2) := by decide +kernel
theorem dX12_gloss_198 : decode cX12_gloss 198 = .ok (.iload 4, 2) := by decide +kernel
theorem dX12_gloss_200 : decode cX12_gloss 200 = .ok (.imul, 1) := by decide +kernel
theorem dX12_gloss_201 : decode cX12_gloss 201 = .ok (.iload_n 3, 1) := by decide +kernel
theorem dX12_gloss_202 : decode cX12_gloss 202 = .ok (.iadd, 1) := by decide +kernel
theorem dX12_gloss_203 : decode cX12_gloss 203 = .ok (.bipush 7, 2) := by decide +kernel
theorem dX12_gloss_205 : decode cX12_gloss 205 = .ok (.isub, 1) := by decide +kernel
theorem dX12_gloss_206 : decode cX12_gloss 206 = .ok (.iaload, 1) := by decide +kernel
theorem dX12_gloss_207 : decode cX12_gloss 207 = .ok (.goto 4, 3) := by decide +kernel
theorem dX12_gloss_210 : decode cX12_gloss 210 = .ok (.iconst (-1), 1) := by decide +kernel
theorem dX12_gloss_211 : decode cX12_gloss 211 = .ok (.ireturn, 1) := by decide +kernel
theorem dX12_count_0 : decode cX12_count 0 = .ok (.iconst 0, 1) := by decide +kernel
theorem dX12_count_1 : decode cX12_count 1 = .ok (.istore_n 2, 1) := by decide +kernel
theorem dX12_count_2 : decode cX12_count 2 = .ok (.iconst 0, 1) := by decide +kernel
theorem dX12_count_3 : decode cX12_count 3 = .ok (.istore_n 3, 1) := by decide +kernel
theorem dX12_count_4 : decode cX12_count 4 = .ok (.iload_n 3, 1) := by decide +kernel
theorem dX12_count_5 : decode cX12_count 5 = .ok (.aload_n 0, 1) := by decide +kernel
theorem dX12_count_6 : decode cX12_count 6 = .ok (.getfield 151, 3) := by decide +kernel
theorem dX12_count_9 : decode cX12_count 9 = .ok (.if_icmp .ge 26, 3) := by decide +kernel
theorem dX12_count_12 : decode cX12_count 12 = .ok (.iload_n 2, 1) := by decide +kernel
theorem dX12_count_13 : decode cX12_count 13 = .ok (.aload_n 0, 1) := by decide +kernel
theorem dX12_count_14 : decode cX12_count 14 = .ok (.getfield 40, 3) := by decide +kernel
theorem dX12_count_17 : decode cX12_count 17 = .ok (.iload_n 3, 1) := by decide +kernel
theorem dX12_count_18 : decode cX12_count 18 = .ok (.iaload, 1) := by decide +kernel
theorem dX12_count_19 : decode cX12_count 19 = .ok (.ifCond .lt 7, 3) := by decide +kernel
theorem dX12_count_22 : decode cX12_count 22 = .ok (.iconst 1, 1) := by decide +kernel
theorem dX12_count_23 : decode cX12_count 23 = .ok (.goto 4, 3) := by decide +kernel
theorem dX12_count_26 : decode cX12_count 26 = .ok (.iconst 0, 1) := by decide +kernel
theorem dX12_count_27 : decode cX12_count 27 = .ok (.iadd, 1) := by decide +kernel
theorem dX12_count_28 : decode cX12_count 28 = .ok (.istore_n 2, 1) := by decide +kernel
theorem dX12_count_29 : decode cX12_count 29 = .ok (.iinc 3 1, 3) := by decide +kernel
theorem dX12_count_32 : decode cX12_count 32 = .ok (.goto (-28), 3) := by decide +kernel
theorem dX12_count_35 : decode cX12_count 35 = .ok (.iload_n 1, 1) := by decide +kernel
theorem dX12_count_36 : decode cX12_count 36 = .ok (.ifCond .ne 10, 3) := by decide +kernel
theorem dX12_count_39 : decode cX12_count 39 = .ok (.aload_n 0, 1) := by decide +kernel
theorem dX12_count_40 : decode cX12_count 40 = .ok (.getfield 151, 3) := by decide +kernel
theorem dX12_count_43 : decode cX12_count 43 = .ok (.goto 27, 3) := by decide +kernel
theorem dX12_count_46 : decode cX12_count 46 = .ok (.iload_n 1, 1) := by decide +kernel
theorem dX12_count_47 : decode cX12_count 47 = .ok (.iconst 1, 1) := by decide +kernel
theorem dX12_count_48 : decode cX12_count 48 = .ok (.if_icmp .ne 10, 3) := by decide +kernel
theorem dX12_count_51 : decode cX12_count 51 = .ok (.aload_n 0, 1) := by decide +kernel
theorem dX12_count_52 : decode cX12_count 52 = .ok (.getfield 162, 3) := by decide +kernel
theorem dX12_count_55 : decode cX12_count 55 = .ok (.goto 15, 3) := by decide +kernel
theorem dX12_count_58 : decode cX12_count 58 = .ok (.iload_n 1, 1) := by decide +kernel
theorem dX12_count_59 : decode cX12_count 59 = .ok (.iconst 2, 1) := by decide +kernel
theorem dX12_count_60 : decode cX12_count 60 = .ok (.if_icmp .ne 7, 3) := by decide +kernel
theorem dX12_count_63 : decode cX12_count 63 = .ok (.iload_n 2, 1) := by decide +kernel
theorem dX12_count_64 : decode cX12_count 64 = .ok (.goto 6, 3) := by decide +kernel
theorem dX12_count_67 : decode cX12_count 67 = .ok (.sipush (-1002), 3) := by decide +kernel
theorem dX12_count_70 : decode cX12_count 70 = .ok (.ireturn, 1) := by decide +kernel
theorem dX12_pairCost_0 : decode cX12_pairCost 0 = .ok (.aload_n 0, 1) := by decide +kernel
theorem dX12_pairCost_1 : decode cX12_pairCost 1 = .ok (.getfield 13, 3) := by decide +kernel
theorem dX12_pairCost_4 : decode cX12_pairCost 4 = .ok (.bipush 40, 2) := by decide +kernel
theorem dX12_pairCost_6 : decode cX12_pairCost 6 = .ok (.iload_n 1, 1) := by decide +kernel
theorem dX12_pairCost_7 : decode cX12_pairCost 7 = .ok (.imul, 1) := by decide +kernel
theorem dX12_pairCost_8 : decode cX12_pairCost 8 = .ok (.iload_n 2, 1) := by decide +kernel
theorem dX12_pairCost_9 : decode cX12_pairCost 9 = .ok (.iadd, 1) := by decide +kernel
theorem dX12_pairCost_10 : decode cX12_pairCost 10 = .ok (.iaload, 1) := by decide +kernel
theorem dX12_pairCost_11 : decode cX12_pairCost 11 = .ok (.aload_n 0, 1) := by decide +kernel
theorem dX12_pairCost_12 : decode cX12_pairCost 12 = .ok (.getfield 13, 3) := by decide +kernel
theorem dX12_pairCost_15 : decode cX12_pairCost 15 = .ok (.bipush 40, 2) := by decide +kernel
theorem dX12_pairCost_17 : decode cX12_pairCost 17 = .ok (.iload_n 3, 1) := by decide +kernel
theorem dX12_pairCost_18 : decode cX12_pairCost 18 = .ok (.imul, 1) := by decide +kernel
theorem dX12_pairCost_19 : decode cX12_pairCost 19 = .ok (.iload 4, 2) := by decide +kernel
theorem dX12_pairCost_21 : decode cX12_pairCost 21 = .ok (.iadd, 1) := by decide +kernel
theorem dX12_pairCost_22 : decode cX12_pairCost 22 = .ok (.iaload, 1) := by decide +kernel
theorem dX12_pairCost_23 : decode cX12_pairCost 23 = .ok (.if_icmp .ne 7, 3) := by decide +kernel
theorem dX12_pairCost_26 : decode cX12_pairCost 26 = .ok (.iconst 0, 1) := by decide +kernel
theorem dX12_pairCost_27 : decode cX12_pairCost 27 = .ok (.goto 4, 3) := by decide +kernel
theorem dX12_pairCost_30 : decode cX12_pairCost 30 = .ok (.iconst 1, 1) := by decide +kernel
theorem dX12_pairCost_31 : decode cX12_pairCost 31 = .ok (.ireturn, 1) := by decide +kernel
theorem dX12_least_0 : decode cX12_least 0 = .ok (.aload_n 0, 1) := by decide +kernel
theorem dX12_least_1 : decode cX12_least 1 = .ok (.getfield 7, 3) := by decide +kernel
theorem dX12_least_4 : decode cX12_least 4 = .ok (.iload_n 1, 1) := by decide +kernel
theorem dX12_least_5 : decode cX12_least 5 = .ok (.iaload, 1) := by decide +kernel
theorem dX12_least_6 : decode cX12_least 6 = .ok (.istore_n 3, 1) := by decide +kernel
theorem dX12_least_7 : decode cX12_least 7 = .ok (.aload_n 0, 1) := by decide +kernel
theorem dX12_least_8 : decode cX12_least 8 = .ok (.getfield 7, 3) := by decide +kernel
theorem dX12_least_11 : decode cX12_least 11 = .ok (.iload_n 2, 1) := by decide +kernel
theorem dX12_least_12 : decode cX12_least 12 = .ok (.iaload, 1) := by decide +kernel
theorem dX12_least_13 : decode cX12_least 13 = .ok (.istore 4, 2) := by decide +kernel
theorem dX12_least_15 : decode cX12_least 15 = .ok (.iload_n 3, 1) := by decide +kernel
theorem dX12_least_16 : decode cX12_least 16 = .ok (.istore 5, 2) := by decide +kernel
theorem dX12_least_18 : decode cX12_least 18 = .ok (.iload 5, 2) := by decide +kernel
theorem dX12_least_20 : decode cX12_least 20 = .ok (.ifCond .lt 183, 3) := by decide +kernel
theorem dX12_least_23 : decode cX12_least 23 = .ok (.iload 4, 2) := by decide +kernel
theorem dX12_least_25 : decode cX12_least 25 = .ok (.istore 6, 2) := by decide +kernel
theorem dX12_least_27 : decode cX12_least 27 = .ok (.iload 6, 2) := by decide +kernel
theorem dX12_least_29 : decode cX12_least 29 = .ok (.ifCond .lt 168, 3) := by decide +kernel
theorem dX12_least_32 : decode cX12_least 32 = .ok (.iload 5, 2) := by decide +kernel
theorem dX12_least_34 : decode cX12_least 34 = .ok (.iload_n 3, 1) := by decide +kernel
theorem dX12_least_35 : decode cX12_least 35 = .ok (.if_icmp .ne 11, 3) := by decide +kernel
theorem dX12_least_38 : decode cX12_least 38 = .ok (.iload 4, 2) := by decide +kernel
theorem dX12_least_40 : decode cX12_least 40 = .ok (.iload 6, 2) := by decide +kernel
theorem dX12_least_42 : decode cX12_least 42 = .ok (.isub, 1) := by decide +kernel
theorem dX12_least_43 : decode cX12_least 43 = .ok (.goto 18, 3) := by decide +kernel
theorem dX12_least_46 : decode cX12_least 46 = .ok (.iload 6, 2) := by decide +kernel
theorem dX12_least_48 : decode cX12_least 48 = .ok (.iload 4, 2) := by decide +kernel
theorem dX12_least_50 : decode cX12_least 50 = .ok (.if_icmp .ne 10, 3) := by decide +kernel
theorem dX12_least_53 : decode cX12_least 53 = .ok (.iload_n 3, 1) := by decide +kernel
theorem dX12_least_54 : decode cX12_least 54 = .ok (.iload 5, 2) := by decide +kernel
theorem dX12_least_56 : decode cX12_least 56 = .ok (.isub, 1) := by decide +kernel
theorem dX12_least_57 : decode cX12_least 57 = .ok (.goto 4, 3) := by decide +kernel
theorem dX12_least_60 : decode cX12_least 60 = .ok (.iconst 0, 1) := by decide +kernel
theorem dX12_least_61 : decode cX12_least 61 = .ok (.istore 7, 2) := by decide +kernel
theorem dX12_least_63 : decode cX12_least 63 = .ok (.iload 5, 2) := by decide +kernel
theorem dX12_least_65 : decode cX12_least 65 = .ok (.iload_n 3, 1) := by decide +kernel
theorem dX12_least_66 : decode cX12_least 66 = .ok (.if_icmp .ge 110, 3) := by decide +kernel
theorem dX12_least_69 : decode cX12_least 69 = .ok (.iload 6, 2) := by decide +kernel
theorem dX12_least_71 : decode cX12_least 71 = .ok (.iload 4, 2) := by decide +kernel
theorem dX12_least_73 : decode cX12_least 73 = .ok (.if_icmp .ge 103, 3) := by decide +kernel
theorem dX12_least_76 : decode cX12_least 76 = .ok (.aload_n 0, 1) := by decide +kernel
theorem dX12_least_77 : decode cX12_least 77 = .ok (.getfield 126, 3) := by decide +kernel
theorem dX12_least_80 : decode cX12_least 80 = .ok (.bipush 41, 2) := by decide +kernel
theorem dX12_least_82 : decode cX12_least 82 = .ok (.iload 5, 2) := by decide +kernel
theorem dX12_least_84 : decode cX12_least 84 = .ok (.iconst 1, 1) := by decide +kernel
theorem dX12_least_85 : decode cX12_least 85 = .ok (.iadd, 1) := by decide +kernel
theorem dX12_least_86 : decode cX12_least 86 = .ok (.imul, 1) := by decide +kernel
theorem dX12_least_87 : decode cX12_least 87 = .ok (.iload 6, 2) := by decide +kernel
theorem dX12_least_89 : decode cX12_least 89 = .ok (.iadd, 1) := by decide +kernel
theorem dX12_least_90 : decode cX12_least 90 = .ok (.iconst 1, 1) := by decide +kernel
theorem dX12_least_91 : decode cX12_least 91 = .ok (.iadd, 1) := by decide +kernel
theorem dX12_least_92 : decode cX12_least 92 = .ok (.iaload, 1) := by decide +kernel
theorem dX12_least_93 : decode cX12_least 93 = .ok (.aload_n 0, 1) := by decide +kernel
theorem dX12_least_94 : decode cX12_least 94 = .ok (.iload_n 1, 1) := by decide +kernel
theorem dX12_least_95 : decode cX12_least 95 = .ok (.iload 5, 2) := by decide +kernel
theorem dX12_least_97 : decode cX12_least 97 = .ok (.iload_n 2, 1) := by decide +kernel
theorem dX12_least_98 : decode cX12_least 98 = .ok (.iload 6, 2) := by decide +kernel
theorem dX12_least_100 : decode cX12_least 100 = .ok (.invokevirtual 415, 3) := by decide +kernel
theorem dX12_least_103 : decode cX12_least 103 = .ok (.iadd, 1) := by decide +kernel
theorem dX12_least_104 : decode cX12_least 104 = .ok (.istore 7, 2) := by decide +kernel
theorem dX12_least_106 : decode cX12_least 106 = .ok (.aload_n 0, 1) := by decide +kernel
theorem dX12_least_107 : decode cX12_least 107 = .ok (.getfield 126, 3) := by decide +kernel
theorem dX12_least_110 : decode cX12_least 110 = .ok (.bipush 41, 2) := by decide +kernel
theorem dX12_least_112 : decode cX12_least 112 = .ok (.iload 5, 2) := by decide +kernel
theorem dX12_least_114 : decode cX12_least 114 = .ok (.iconst 1, 1) := by decide +kernel
theorem dX12_least_115 : decode cX12_least 115 = .ok (.iadd, 1) := by decide +kernel
theorem dX12_least_116 : decode cX12_least 116 = .ok (.imul, 1) := by decide +kernel
theorem dX12_least_117 : decode cX12_least 117 = .ok (.iload 6, 2) := by decide +kernel
theorem dX12_least_119 : decode cX12_least 119 = .ok (.iadd, 1) := by decide +kernel
theorem dX12_least_120 : decode cX12_least 120 = .ok (.iaload, 1) := by decide +kernel
theorem dX12_least_121 : decode cX12_least 121 = .ok (.iconst 1, 1) := by decide +kernel
theorem dX12_least_122 : decode cX12_least 122 = .ok (.iadd, 1) := by decide +kernel
theorem dX12_least_123 : decode cX12_least 123 = .ok (.istore 8, 2) := by decide +kernel
theorem dX12_least_125 : decode cX12_least 125 = .ok (.aload_n 0, 1) := by decide +kernel
theorem dX12_least_126 : decode cX12_least 126 = .ok (.getfield 126, 3) := by decide +kernel
theorem dX12_least_129 : decode cX12_least 129 = .ok (.bipush 41, 2) := by decide +kernel
theorem dX12_least_131 : decode cX12_least 131 = .ok (.iload 5, 2) := by decide +kernel
theorem dX12_least_133 : decode cX12_least 133 = .ok (.imul, 1) := by decide +kernel
theorem dX12_least_134 : decode cX12_least 134 = .ok (.iload 6, 2) := by decide +kernel
theorem dX12_least_136 : decode cX12_least 136 = .ok (.iadd, 1) := by decide +kernel
theorem dX12_least_137 : decode cX12_least 137 = .ok (.iconst 1, 1) := by decide +kernel
theorem dX12_least_138 : decode cX12_least 138 = .ok (.iadd, 1) := by decide +kernel
theorem dX12_least_139 : decode cX12_least 139 = .ok (.iaload, 1) := by decide +kernel
theorem dX12_least_140 : decode cX12_least 140 = .ok (.iconst 1, 1) := by decide +kernel
theorem dX12_least_141 : decode cX12_least 141 = .ok (.iadd, 1) := by decide +kernel
theorem dX12_least_142 : decode cX12_least 142 = .ok (.istore 9, 2) := by decide +kernel
theorem dX12_least_144 : decode cX12_least 144 = .ok (.iload 8, 2) := by decide +kernel
theorem dX12_least_146 : decode cX12_least 146 = .ok (.iload 7, 2) := by decide +kernel
theorem dX12_least_148 : decode cX12_least 148 = .ok (.if_icmp .ge 8, 3) := by decide +kernel
theorem dX12_least_151 : decode cX12_least 151 = .ok (.iload 8, 2) := by decide +kernel
theorem dX12_least_153 : decode cX12_least 153 = .ok (.goto 5, 3) := by decide +kernel
theorem dX12_least_156 : decode cX12_least 156 = .ok (.iload 7, 2) := by decide +kernel
theorem dX12_least_158 : decode cX12_least 158 = .ok (.istore 7, 2) := by decide +kernel
theorem dX12_least_160 : decode cX12_least 160 = .ok (.iload 9, 2) := by decide +kernel
theorem dX12_least_162 : decode cX12_least 162 = .ok (.iload 7, 2) := by decide +kernel
theorem dX12_least_164 : decode cX12_least 164 = .ok (.if_icmp .ge 8, 3) := by decide +kernel
theorem dX12_least_167 : decode cX12_least 167 = .ok (.iload 9, 2) := by decide +kernel
theorem dX12_least_169 : decode cX12_least 169 = .ok (.goto 5, 3) := by decide +kernel
theorem dX12_least_172 : decode cX12_least 172 = .ok (.iload 7, 2) := by decide +kernel
theorem dX12_least_174 : decode cX12_least 174 = .ok (.istore 7, 2) := by decide +kernel
theorem dX12_least_176 : decode cX12_least 176 = .ok (.aload_n 0, 1) := by decide +kernel
theorem dX12_least_177 : decode cX12_least 177 = .ok (.getfield 126, 3) := by decide +kernel
theorem dX12_least_180 : decode cX12_least 180 = .ok (.bipush 41, 2) := by decide +kernel
theorem dX12_least_182 : decode cX12_least 182 = .ok (.iload 5, 2) := by decide +kernel
theorem dX12_least_184 : decode cX12_least 184 = .ok (.imul, 1) := by decide +kernel
theorem dX12_least_185 : decode cX12_least 185 = .ok (.iload 6, 2) := by decide +kernel
theorem dX12_least_187 : decode cX12_least 187 = .ok (.iadd, 1) := by decide +kernel
theorem dX12_least_188 : decode cX12_least 188 = .ok (.iload 7, 2) := by decide +kernel
theorem dX12_least_190 : decode cX12_least 190 = .ok (.iastore, 1) := by decide +kernel
theorem dX12_least_191 : decode cX12_least 191 = .ok (.iinc 6 (-1), 3) := by decide +kernel
theorem dX12_least_194 : decode cX12_least 194 = .ok (.goto (-167), 3) := by decide +kernel
theorem dX12_least_197 : decode cX12_least 197 = .ok (.iinc 5 (-1), 3) := by decide +kernel
theorem dX12_least_200 : decode cX12_least 200 = .ok (.goto (-182), 3) := by decide +kernel
theorem dX12_least_203 : decode cX12_least 203 = .ok (.aload_n 0, 1) := by decide +kernel
theorem dX12_least_204 : decode cX12_least 204 = .ok (.getfield 126, 3) := by decide +kernel
theorem dX12_least_207 : decode cX12_least 207 = .ok (.iconst 0, 1) := by decide +kernel
theorem dX12_least_208 : decode cX12_least 208 = .ok (.iaload, 1) := by decide +kernel
theorem dX12_least_209 : decode cX12_least 209 = .ok (.ireturn, 1) := by decide +kernel
theorem dX12_align_0 : decode cX12_align 0 = .ok (.aload_n 0, 1) := by decide +kernel
theorem dX12_align_1 : decode cX12_align 1 = .ok (.iload_n 1, 1) := by decide +kernel
theorem dX12_align_2 : decode cX12_align 2 = .ok (.iload_n 2, 1) := by decide +kernel
theorem dX12_align_3 : decode cX12_align 3 = .ok (.invokevirtual 419, 3) := by decide +kernel
theorem dX12_align_6 : decode cX12_align 6 = .ok (.istore_n 3, 1) := by decide +kernel
theorem dX12_align_7 : decode cX12_align 7 = .ok (.aload_n 0, 1) := by decide +kernel
theorem dX12_align_8 : decode cX12_align 8 = .ok (.getfield 7, 3) := by decide +kernel
theorem dX12_align_11 : decode cX12_align 11 = .ok (.iload_n 1, 1) := by decide +kernel
theorem dX12_align_12 : decode cX12_align 12 = .ok (.iaload, 1) := by decide +kernel
theorem dX12_align_13 : decode cX12_align 13 = .ok (.istore 4, 2) := by decide +kernel
theorem dX12_align_15 : decode cX12_align 15 = .ok (.aload_n 0, 1) := by decide +kernel
theorem dX12_align_16 : decode cX12_align 16 = .ok (.getfield 7, 3) := by decide +kernel
theorem dX12_align_19 : decode cX12_align 19 = .ok (.iload_n 2, 1) := by decide +kernel
theorem dX12_align_20 : decode cX12_align 20 = .ok (.iaload, 1) := by decide +kernel
theorem dX12_align_21 : decode cX12_align 21 = .ok (.istore 5, 2) := by decide +kernel
theorem dX12_align_23 : decode cX12_align 23 = .ok (.iconst 0, 1) := by decide +kernel
theorem dX12_align_24 : decode cX12_align 24 = .ok (.istore 6, 2) := by decide +kernel
theorem dX12_align_26 : decode cX12_align 26 = .ok (.iload 6, 2) := by decide +kernel
theorem dX12_align_28 : decode cX12_align 28 = .ok (.iload 5, 2) := by decide +kernel
theorem dX12_align_30 : decode cX12_align 30 = .ok (.if_icmp .ge 17, 3) := by decide +kernel
theorem dX12_align_33 : decode cX12_align 33 = .ok (.aload_n 0, 1) := by decide +kernel
theorem dX12_align_34 : decode cX12_align 34 = .ok (.getfield 132, 3) := by decide +kernel
theorem dX12_align_37 : decode cX12_align 37 = .ok (.iload 6, 2) := by decide +kernel
theorem dX12_align_39 : decode cX12_align 39 = .ok (.iconst 1, 1) := by decide +kernel
theorem dX12_align_40 : decode cX12_align 40 = .ok (.bastore, 1) := by decide +kernel
theorem dX12_align_41 : decode cX12_align 41 = .ok (.iinc 6 1, 3) := by decide +kernel
theorem dX12_align_44 : decode cX12_align 44 = .ok (.goto (-18), 3) := by decide +kernel
theorem dX12_align_47 : decode cX12_align 47 = .ok (.iconst 0, 1) := by decide +kernel
theorem dX12_align_48 : decode cX12_align 48 = .ok (.istore 6, 2) := by decide +kernel
theorem dX12_align_50 : decode cX12_align 50 = .ok (.iconst 0, 1) := by decide +kernel
theorem dX12_align_51 : decode cX12_align 51 = .ok (.istore 7, 2) := by decide +kernel
theorem dX12_align_53 : decode cX12_align 53 = .ok (.iload_n 3, 1) := by decide +kernel
theorem dX12_align_54 : decode cX12_align 54 = .ok (.ifCond .lt 208, 3) := by decide +kernel
theorem dX12_align_57 : decode cX12_align 57 = .ok (.iload 6, 2) := by decide +kernel
theorem dX12_align_59 : decode cX12_align 59 = .ok (.iload 4, 2) := by decide +kernel
theorem dX12_align_61 : decode cX12_align 61 = .ok (.if_icmp .lt 10, 3) := by decide +kernel
theorem dX12_align_64 : decode cX12_align 64 = .ok (.iload 7, 2) := by decide +kernel
theorem dX12_align_66 : decode cX12_align 66 = .ok (.iload 5, 2) := by decide +kernel
theorem dX12_align_68 : decode cX12_align 68 = .ok (.if_icmp .ge 194, 3) := by decide +kernel
theorem dX12_align_71 : decode cX12_align 71 = .ok (.aload_n 0, 1) := by decide +kernel
theorem dX12_align_72 : decode cX12_align 72 = .ok (.getfield 126, 3) := by decide +kernel
theorem dX12_align_75 : decode cX12_align 75 = .ok (.bipush 41, 2) := by decide +kernel
theorem dX12_align_77 : decode cX12_align 77 = .ok (.iload 6, 2) := by decide +kernel
theorem dX12_align_79 : decode cX12_align 79 = .ok (.imul, 1) := by decide +kernel
theorem dX12_align_80 : decode cX12_align 80 = .ok (.iload 7, 2) := by decide +kernel
theorem dX12_align_82 : decode cX12_align 82 = .ok (.iadd, 1) := by decide +kernel
theorem dX12_align_83 : decode cX12_align 83 = .ok (.iaload, 1) := by decide +kernel
theorem dX12_align_84 : decode cX12_align 84 = .ok (.istore 8, 2) := by decide +kernel
theorem dX12_align_86 : decode cX12_align 86 = .ok (.iload 6, 2) := by decide +kernel
theorem dX12_align_88 : decode cX12_align 88 = .ok (.iload 4, 2) := by decide +kernel
theorem dX12_align_90 : decode cX12_align 90 = .ok (.if_icmp .ge 47, 3) := by decide +kernel
theorem dX12_align_93 : decode cX12_align 93 = .ok (.iload 7, 2) := by decide +kernel
theorem dX12_align_95 : decode cX12_align 95 = .ok (.iload 5, 2) := by decide +kernel
theorem dX12_align_97 : decode cX12_align 97 = .ok (.if_icmp .ge 40, 3) := by decide +kernel
theorem dX12_align_100 : decode cX12_align 100 = .ok (.iload 8, 2) := by decide +kernel
theorem dX12_align_102 : decode cX12_align 102 = .ok (.aload_n 0, 1) := by decide +kernel
theorem dX12_align_103 : decode cX12_align 103 = .ok (.getfield 126, 3) := by decide +kernel
theorem dX12_align_106 : decode cX12_align 106 = .ok (.bipush 41, 2) := by decide +kernel
theorem dX12_align_108 : decode cX12_align 108 = .ok (.iload 6, 2) := by decide +kernel
theorem dX12_align_110 : decode cX12_align 110 = .ok (.iconst 1, 1) := by decide +kernel
theorem dX12_align_111 : decode cX12_align 111 = .ok (.iadd, 1) := by decide +kernel
theorem dX12_align_112 : decode cX12_align 112 = .ok (.imul, 1) := by decide +kernel
theorem dX12_align_113 : decode cX12_align 113 = .ok (.iload 7, 2) := by decide +kernel
theorem dX12_align_115 : decode cX12_align 115 = .ok (.iadd, 1) := by decide +kernel
theorem dX12_align_116 : decode cX12_align 116 = .ok (.iconst 1, 1) := by decide +kernel
theorem dX12_align_117 : decode cX12_align 117 = .ok (.iadd, 1) := by decide +kernel
theorem dX12_align_118 : decode cX12_align 118 = .ok (.iaload, 1) := by decide +kernel
theorem dX12_align_119 : decode cX12_align 119 = .ok (.aload_n 0, 1) := by decide +kernel
theorem dX12_align_120 : decode cX12_align 120 = .ok (.iload_n 1, 1) := by decide +kernel
theorem dX12_align_121 : decode cX12_align 121 = .ok (.iload 6, 2) := by decide +kernel
theorem dX12_align_123 : decode cX12_align 123 = .ok (.iload_n 2, 1) := by decide +kernel
theorem dX12_align_124 : decode cX12_align 124 = .ok (.iload 7, 2) := by decide +kernel
theorem dX12_align_126 : decode cX12_align 126 = .ok (.invokevirtual 415, 3) := by decide +kernel
theorem dX12_align_129 : decode cX12_align 129 = .ok (.iadd, 1) := by decide +kernel
theorem dX12_align_130 : decode cX12_align 130 = .ok (.if_icmp .ne 7, 3) := by decide +kernel
theorem dX12_align_133 : decode cX12_align 133 = .ok (.iconst 1, 1) := by decide +kernel
theorem dX12_align_134 : decode cX12_align 134 = .ok (.goto 4, 3) := by decide +kernel
theorem dX12_align_137 : decode cX12_align 137 = .ok (.iconst 0, 1) := by decide +kernel
theorem dX12_align_138 : decode cX12_align 138 = .ok (.istore 9, 2) := by decide +kernel
theorem dX12_align_140 : decode cX12_align 140 = .ok (.iload 9, 2) := by decide +kernel
theorem dX12_align_142 : decode cX12_align 142 = .ok (.ifCond .ne 36, 3) := by decide +kernel
theorem dX12_align_145 : decode cX12_align 145 = .ok (.iload 6, 2) := by decide +kernel
theorem dX12_align_147 : decode cX12_align 147 = .ok (.iload 4, 2) := by decide +kernel
theorem dX12_align_149 : decode cX12_align 149 = .ok (.if_icmp .ge 29, 3) := by decide +kernel
theorem dX12_align_152 : decode cX12_align 152 = .ok (.iload 8, 2) := by decide +kernel
theorem dX12_align_154 : decode cX12_align 154 = .ok (.aload_n 0, 1) := by decide +kernel
theorem dX12_align_155 : decode cX12_align 155 = .ok (.getfield 126, 3) := by decide +kernel
theorem dX12_align_158 : decode cX12_align 158 = .ok (.bipush 41, 2) := by decide +kernel
theorem dX12_align_160 : decode cX12_align 160 = .ok (.iload 6, 2) := by decide +kernel
theorem dX12_align_162 : decode cX12_align 162 = .ok (.iconst 1, 1) := by decide +kernel
theorem dX12_align_163 : decode cX12_align 163 = .ok (.iadd, 1) := by decide +kernel
theorem dX12_align_164 : decode cX12_align 164 = .ok (.imul, 1) := by decide +kernel
theorem dX12_align_165 : decode cX12_align 165 = .ok (.iload 7, 2) := by decide +kernel
theorem dX12_align_167 : decode cX12_align 167 = .ok (.iadd, 1) := by decide +kernel
theorem dX12_align_168 : decode cX12_align 168 = .ok (.iaload, 1) := by decide +kernel
theorem dX12_align_169 : decode cX12_align 169 = .ok (.iconst 1, 1) := by decide +kernel
theorem dX12_align_170 : decode cX12_align 170 = .ok (.iadd, 1) := by decide +kernel
theorem dX12_align_171 : decode cX12_align 171 = .ok (.if_icmp .ne 7, 3) := by decide +kernel
theorem dX12_align_174 : decode cX12_align 174 = .ok (.iconst 1, 1) := by decide +kernel
theorem dX12_align_175 : decode cX12_align 175 = .ok (.goto 4, 3) := by decide +kernel
theorem dX12_align_178 : decode cX12_align 178 = .ok (.iconst 0, 1) := by decide +kernel
theorem dX12_align_179 : decode cX12_align 179 = .ok (.istore 10, 2) := by decide +kernel
theorem dX12_align_181 : decode cX12_align 181 = .ok (.iload 9, 2) := by decide +kernel
theorem dX12_align_183 : decode cX12_align 183 = .ok (.ifCond .eq 23, 3) := by decide +kernel
theorem dX12_align_186 : decode cX12_align 186 = .ok (.aload_n 0, 1) := by decide +kernel
theorem dX12_align_187 : decode cX12_align 187 = .ok (.getfield 129, 3) := by decide +kernel
theorem dX12_align_190 : decode cX12_align 190 = .ok (.iload 6, 2) := by decide +kernel
theorem dX12_align_192 : decode cX12_align 192 = .ok (.iload 7, 2) := by decide +kernel
theorem dX12_align_194 : decode cX12_align 194 = .ok (.iastore, 1) := by decide +kernel
theorem dX12_align_195 : decode cX12_align 195 = .ok (.aload_n 0, 1) := by decide +kernel
theorem dX12_align_196 : decode cX12_align 196 = .ok (.getfield 132, 3) := by decide +kernel
theorem dX12_align_199 : decode cX12_align 199 = .ok (.iload 7, 2) := by decide +kernel
theorem dX12_align_201 : decode cX12_align 201 = .ok (.iconst 0, 1) := by decide +kernel
theorem dX12_align_202 : decode cX12_align 202 = .ok (.bastore, 1) := by decide +kernel
theorem dX12_align_203 : decode cX12_align 203 = .ok (.goto 16, 3) := by decide +kernel
theorem dX12_align_206 : decode cX12_align 206 = .ok (.iload 10, 2) := by decide +kernel
theorem dX12_align_208 : decode cX12_align 208 = .ok (.ifCond .eq 11, 3) := by decide +kernel
theorem dX12_align_211 : decode cX12_align 211 = .ok (.aload_n 0, 1) := by decide +kernel
theorem dX12_align_212 : decode cX12_align 212 = .ok (.getfield 129, 3) := by decide +kernel
theorem dX12_align_215 : decode cX12_align 215 = .ok (.iload 6, 2) := by decide +kernel
theorem dX12_align_217 : decode cX12_align 217 = .ok (.iconst (-1), 1) := by decide +kernel
theorem dX12_align_218 : decode cX12_align 218 = .ok (.iastore, 1) := by decide +kernel
theorem dX12_align_219 : decode cX12_align 219 = .ok (.iload 6, 2) := by decide +kernel
theorem dX12_align_221 : decode cX12_align 221 = .ok (.iload 9, 2) := by decide +kernel
theorem dX12_align_223 : decode cX12_align 223 = .ok (.ifCond .ne 8, 3) := by decide +kernel
theorem dX12_align_226 : decode cX12_align 226 = .ok (.iload 10, 2) := by decide +kernel
theorem dX12_align_228 : decode cX12_align 228 = .ok (.ifCond .eq 7, 3) := by decide +kernel
theorem dX12_align_231 : decode cX12_align 231 = .ok (.iconst 1, 1) := by decide +kernel
theorem dX12_align_232 : decode cX12_align 232 = .ok (.goto 4, 3) := by decide +kernel
theorem dX12_align_235 : decode cX12_align 235 = .ok (.iconst 0, 1) := by decide +kernel
theorem dX12_align_236 : decode cX12_align 236 = .ok (.iadd, 1) := by decide +kernel
theorem dX12_align_237 : decode cX12_align 237 = .ok (.istore 6, 2) := by decide +kernel
theorem dX12_align_239 : decode cX12_align 239 = .ok (.iload 7, 2) := by decide +kernel
theorem dX12_align_241 : decode cX12_align 241 = .ok (.iload 9, 2) := by decide +kernel
theorem dX12_align_243 : decode cX12_align 243 = .ok (.ifCond .ne 8, 3) := by decide +kernel
theorem dX12_align_246 : decode cX12_align 246 = .ok (.iload 10, 2) := by decide +kernel
theorem dX12_align_248 : decode cX12_align 248 = .ok (.ifCond .ne 7, 3) := by decide +kernel
theorem dX12_align_251 : decode cX12_align 251 = .ok (.iconst 1, 1) := by decide +kernel
theorem dX12_align_252 : decode cX12_align 252 = .ok (.goto 4, 3) := by decide +kernel
theorem dX12_align_255 : decode cX12_align 255 = .ok (.iconst 0, 1) := by decide +kernel
theorem dX12_align_256 : decode cX12_align 256 = .ok (.iadd, 1) := by decide +kernel
theorem dX12_align_257 : decode cX12_align 257 = .ok (.istore 7, 2) := by decide +kernel
theorem dX12_align_259 : decode cX12_align 259 = .ok (.goto (-206), 3) := by decide +kernel
theorem dX12_align_262 : decode cX12_align 262 = .ok (.return_, 1) := by decide +kernel
theorem dX12_distance_0 : decode cX12_distance 0 = .ok (.aload_n 0, 1) := by decide +kernel
theorem dX12_distance_1 : decode cX12_distance 1 = .ok (.iload_n 1, 1) := by decide +kernel
theorem dX12_distance_2 : decode cX12_distance 2 = .ok (.invokevirtual 371, 3) := by decide +kernel
theorem dX12_distance_5 : decode cX12_distance 5 = .ok (.ifCond .eq 20, 3) := by decide +kernel
theorem dX12_distance_8 : decode cX12_distance 8 = .ok (.aload_n 0, 1) := by decide +kernel
theorem dX12_distance_9 : decode cX12_distance 9 = .ok (.iload_n 2, 1) := by decide +kernel
theorem dX12_distance_10 : decode cX12_distance 10 = .ok (.invokevirtual 371, 3) := by decide +kernel
theorem dX12_distance_13 : decode cX12_distance 13 = .ok (.ifCond .eq 12, 3) := by decide +kernel
theorem dX12_distance_16 : decode cX12_distance 16 = .ok (.aload_n 0, 1) := by decide +kernel
theorem dX12_distance_17 : decode cX12_distance 17 = .ok (.iload_n 1, 1) := by decide +kernel
theorem dX12_distance_18 : decode cX12_distance 18 = .ok (.iload_n 2, 1) := by decide +kernel
theorem dX12_distance_19 : decode cX12_distance 19 = .ok (.invokevirtual 419, 3) := by decide +kernel
theorem dX12_distance_22 : decode cX12_distance 22 = .ok (.goto 6, 3) := by decide +kernel
theorem dX12_distance_25 : decode cX12_distance 25 = .ok (.sipush (-1001), 3) := by decide +kernel
theorem dX12_distance_28 : decode cX12_distance 28 = .ok (.ireturn, 1) := by decide +kernel
theorem dX12_beside_0 : decode cX12_beside 0 = .ok (.aload_n 0, 1) := by decide +kernel
theorem dX12_beside_1 : decode cX12_beside 1 = .ok (.iload_n 1, 1) := by decide +kernel
theorem dX12_beside_2 : decode cX12_beside 2 = .ok (.invokevirtual 371, 3) := by decide +kernel
theorem dX12_beside_5 : decode cX12_beside 5 = .ok (.ifCond .eq 11, 3) := by decide +kernel
theorem dX12_beside_8 : decode cX12_beside 8 = .ok (.aload_n 0, 1) := by decide +kernel
theorem dX12_beside_9 : decode cX12_beside 9 = .ok (.iload_n 2, 1) := by decide +kernel
theorem dX12_beside_10 : decode cX12_beside 10 = .ok (.invokevirtual 371, 3) := by decide +kernel
theorem dX12_beside_13 : decode cX12_beside 13 = .ok (.ifCond .ne 7, 3) := by decide +kernel
theorem dX12_beside_16 : decode cX12_beside 16 = .ok (.sipush (-1001), 3) := by decide +kernel
theorem dX12_beside_19 : decode cX12_beside 19 = .ok (.ireturn, 1) := by decide +kernel
theorem dX12_beside_20 : decode cX12_beside 20 = .ok (.iload_n 3, 1) := by decide +kernel
theorem dX12_beside_21 : decode cX12_beside 21 = .ok (.i2l, 1) := by decide +kernel
theorem dX12_beside_22 : decode cX12_beside 22 = .ok (.lconst 0, 1) := by decide +kernel
theorem dX12_beside_23 : decode cX12_beside 23 = .ok (.aload_n 0, 1) := by decide +kernel
theorem dX12_beside_24 : decode cX12_beside 24 = .ok (.getfield 7, 3) := by decide +kernel
theorem dX12_beside_27 : decode cX12_beside 27 = .ok (.iload_n 1, 1) := by decide +kernel
theorem dX12_beside_28 : decode cX12_beside 28 = .ok (.iaload, 1) := by decide +kernel
theorem dX12_beside_29 : decode cX12_beside 29 = .ok (.iconst 1, 1) := by decide +kernel
theorem dX12_beside_30 : decode cX12_beside 30 = .ok (.isub, 1) := by decide +kernel
theorem dX12_beside_31 : decode cX12_beside 31 = .ok (.i2l, 1) := by decide +kernel
theorem dX12_beside_32 : decode cX12_beside 32 = .ok (.invokestatic 154, 3) := by decide +kernel
theorem dX12_beside_35 : decode cX12_beside 35 = .ok (.ifCond .ne 7, 3) := by decide +kernel
theorem dX12_beside_38 : decode cX12_beside 38 = .ok (.sipush (-1002), 3) := by decide +kernel
theorem dX12_beside_41 : decode cX12_beside 41 = .ok (.ireturn, 1) := by decide +kernel
theorem dX12_beside_42 : decode cX12_beside 42 = .ok (.aload_n 0, 1) := by decide +kernel
theorem dX12_beside_43 : decode cX12_beside 43 = .ok (.iload_n 1, 1) := by decide +kernel
theorem dX12_beside_44 : decode cX12_beside 44 = .ok (.iload_n 2, 1) := by decide +kernel
theorem dX12_beside_45 : decode cX12_beside 45 = .ok (.invokevirtual 422, 3) := by decide +kernel
theorem dX12_beside_48 : decode cX12_beside 48 = .ok (.aload_n 0, 1) := by decide +kernel
theorem dX12_beside_49 : decode cX12_beside 49 = .ok (.getfield 129, 3) := by decide +kernel
theorem dX12_beside_52 : decode cX12_beside 52 = .ok (.iload_n 3, 1) := by decide +kernel
theorem dX12_beside_53 : decode cX12_beside 53 = .ok (.iaload, 1) := by decide +kernel
theorem dX12_beside_54 : decode cX12_beside 54 = .ok (.ireturn, 1) := by decide +kernel
theorem dX12_isPutAt_0 : decode cX12_isPutAt 0 = .ok (.iload_n 3, 1) := by decide +kernel
theorem dX12_isPutAt_1 : decode cX12_isPutAt 1 = .ok (.ifCond .lt 24, 3) := by decide +kernel
theorem dX12_isPutAt_4 : decode cX12_isPutAt 4 = .ok (.iload_n 3, 1) := by decide +kernel
theorem dX12_isPutAt_5 : decode cX12_isPutAt 5 = .ok (.aload_n 0, 1) := by decide +kernel
theorem dX12_isPutAt_6 : decode cX12_isPutAt 6 = .ok (.getfield 31, 3) := by decide +kernel
theorem dX12_isPutAt_9 : decode cX12_isPutAt 9 = .ok (.iload_n 1, 1) := by decide +kernel
theorem dX12_isPutAt_10 : decode cX12_isPutAt 10 = .ok (.iaload, 1) := by decide +kernel
theorem dX12_isPutAt_11 : decode cX12_isPutAt 11 = .ok (.iadd, 1) := by decide +kernel
theorem dX12_isPutAt_12 : decode cX12_isPutAt 12 = .ok (.aload_n 0, 1) := by decide +kernel
theorem dX12_isPutAt_13 : decode cX12_isPutAt 13 = .ok (.getfield 7, 3) := by decide +kernel
theorem dX12_isPutAt_16 : decode cX12_isPutAt 16 = .ok (.iload_n 2, 1) := by decide +kernel
theorem dX12_isPutAt_17 : decode cX12_isPutAt 17 = .ok (.iaload, 1) := by decide +kernel
theorem dX12_isPutAt_18 : decode cX12_isPutAt 18 = .ok (.if_icmp .gt 7, 3) := by decide +kernel
theorem dX12_isPutAt_21 : decode cX12_isPutAt 21 = .ok (.iconst 1, 1) := by decide +kernel
theorem dX12_isPutAt_22 : decode cX12_isPutAt 22 = .ok (.goto 4, 3) := by decide +kernel
theorem dX12_isPutAt_25 : decode cX12_isPutAt 25 = .ok (.iconst 0, 1) := by decide +kernel
theorem dX12_isPutAt_26 : decode cX12_isPutAt 26 = .ok (.istore 4, 2) := by decide +kernel
theorem dX12_isPutAt_28 : decode cX12_isPutAt 28 = .ok (.iconst 0, 1) := by decide +kernel
theorem dX12_isPutAt_29 : decode cX12_isPutAt 29 = .ok (.istore 5, 2) := by decide +kernel
theorem dX12_isPutAt_31 : decode cX12_isPutAt 31 = .ok (.iload 5, 2) := by decide +kernel
theorem dX12_isPutAt_33 : decode cX12_isPutAt 33 = .ok (.aload_n 0, 1) := by decide +kernel
theorem dX12_isPutAt_34 : decode cX12_isPutAt 34 = .ok (.getfield 31, 3) := by decide +kernel
theorem dX12_isPutAt_37 : decode cX12_isPutAt 37 = .ok (.iload_n 1, 1) := by decide +kernel
theorem dX12_isPutAt_38 : decode cX12_isPutAt 38 = .ok (.iaload, 1) := by decide +kernel
theorem dX12_isPutAt_39 : decode cX12_isPutAt 39 = .ok (.if_icmp .ge 62, 3) := by decide +kernel
theorem dX12_isPutAt_42 : decode cX12_isPutAt 42 = .ok (.iload 4, 2) := by decide +kernel
theorem dX12_isPutAt_44 : decode cX12_isPutAt 44 = .ok (.ifCond .eq 57, 3) := by decide +kernel
theorem dX12_isPutAt_47 : decode cX12_isPutAt 47 = .ok (.aload_n 0, 1) := by decide +kernel
theorem dX12_isPutAt_48 : decode cX12_isPutAt 48 = .ok (.getfield 132, 3) := by decide +kernel
theorem dX12_isPutAt_51 : decode cX12_isPutAt 51 = .ok (.iload_n 3, 1) := by decide +kernel
theorem dX12_isPutAt_52 : decode cX12_isPutAt 52 = .ok (.iload 5, 2) := by decide +kernel
theorem dX12_isPutAt_54 : decode cX12_isPutAt 54 = .ok (.iadd, 1) := by decide +kernel
theorem dX12_isPutAt_55 : decode cX12_isPutAt 55 = .ok (.baload, 1) := by decide +kernel
theorem dX12_isPutAt_56 : decode cX12_isPutAt 56 = .ok (.ifCond .eq 36, 3) := by decide +kernel
theorem dX12_isPutAt_59 : decode cX12_isPutAt 59 = .ok (.aload_n 0, 1) := by decide +kernel
theorem dX12_isPutAt_60 : decode cX12_isPutAt 60 = .ok (.getfield 13, 3) := by decide +kernel
theorem dX12_isPutAt_63 : decode cX12_isPutAt 63 = .ok (.bipush 40, 2) := by decide +kernel
theorem dX12_isPutAt_65 : decode cX12_isPutAt 65 = .ok (.iload_n 2, 1) := by decide +kernel
theorem dX12_isPutAt_66 : decode cX12_isPutAt 66 = .ok (.imul, 1) := by decide +kernel
theorem dX12_isPutAt_67 : decode cX12_isPutAt 67 = .ok (.iload_n 3, 1) := by decide +kernel
theorem dX12_isPutAt_68 : decode cX12_isPutAt 68 = .ok (.iadd, 1) := by decide +kernel
theorem dX12_isPutAt_69 : decode cX12_isPutAt 69 = .ok (.iload 5, 2) := by decide +kernel
theorem dX12_isPutAt_71 : decode cX12_isPutAt 71 = .ok (.iadd, 1) := by decide +kernel
theorem dX12_isPutAt_72 : decode cX12_isPutAt 72 = .ok (.iaload, 1) := by decide +kernel
theorem dX12_isPutAt_73 : decode cX12_isPutAt 73 = .ok (.aload_n 0, 1) := by decide +kernel
theorem dX12_isPutAt_74 : decode cX12_isPutAt 74 = .ok (.getfield 34, 3) := by decide +kernel
theorem dX12_isPutAt_77 : decode cX12_isPutAt 77 = .ok (.bipush 8, 2) := by decide +kernel
theorem dX12_isPutAt_79 : decode cX12_isPutAt 79 = .ok (.iload_n 1, 1) := by decide +kernel
theorem dX12_isPutAt_80 : decode cX12_isPutAt 80 = .ok (.imul, 1) := by decide +kernel
theorem dX12_isPutAt_81 : decode cX12_isPutAt 81 = .ok (.iload 5, 2) := by decide +kernel
theorem dX12_isPutAt_83 : decode cX12_isPutAt 83 = .ok (.iadd, 1) := by decide +kernel
theorem dX12_isPutAt_84 : decode cX12_isPutAt 84 = .ok (.iaload, 1) := by decide +kernel
theorem dX12_isPutAt_85 : decode cX12_isPutAt 85 = .ok (.if_icmp .ne 7, 3) := by decide +kernel
theorem dX12_isPutAt_88 : decode cX12_isPutAt 88 = .ok (.iconst 1, 1) := by decide +kernel
theorem dX12_isPutAt_89 : decode cX12_isPutAt 89 = .ok (.goto 4, 3) := by decide +kernel
theorem dX12_isPutAt_92 : decode cX12_isPutAt 92 = .ok (.iconst 0, 1) := by decide +kernel
theorem dX12_isPutAt_93 : decode cX12_isPutAt 93 = .ok (.istore 4, 2) := by decide +kernel
theorem dX12_isPutAt_95 : decode cX12_isPutAt 95 = .ok (.iinc 5 1, 3) := by decide +kernel
theorem dX12_isPutAt_98 : decode cX12_isPutAt 98 = .ok (.goto (-67), 3) := by decide +kernel
theorem dX12_isPutAt_101 : decode cX12_isPutAt 101 = .ok (.iload 4, 2) := by decide +kernel
theorem dX12_isPutAt_103 : decode cX12_isPutAt 103 = .ok (.ireturn, 1) := by decide +kernel
theorem dX12_slipped_0 : decode cX12_slipped 0 = .ok (.aload_n 0, 1) := by decide +kernel
theorem dX12_slipped_1 : decode cX12_slipped 1 = .ok (.iload_n 1, 1) := by decide +kernel
theorem dX12_slipped_2 : decode cX12_slipped 2 = .ok (.invokevirtual 371, 3) := by decide +kernel
theorem dX12_slipped_5 : decode cX12_slipped 5 = .ok (.ifCond .eq 11, 3) := by decide +kernel
theorem dX12_slipped_8 : decode cX12_slipped 8 = .ok (.aload_n 0, 1) := by decide +kernel
theorem dX12_slipped_9 : decode cX12_slipped 9 = .ok (.iload_n 2, 1) := by decide +kernel
theorem dX12_slipped_10 : decode cX12_slipped 10 = .ok (.invokevirtual 371, 3) := by decide +kernel
theorem dX12_slipped_13 : decode cX12_slipped 13 = .ok (.ifCond .ne 7, 3) := by decide +kernel
theorem dX12_slipped_16 : decode cX12_slipped 16 = .ok (.sipush (-1001), 3) := by decide +kernel
theorem dX12_slipped_19 : decode cX12_slipped 19 = .ok (.ireturn, 1) := by decide +kernel
theorem dX12_slipped_20 : decode cX12_slipped 20 = .ok (.aload_n 0, 1) := by decide +kernel
theorem dX12_slipped_21 : decode cX12_slipped 21 = .ok (.iload_n 1, 1) := by decide +kernel
theorem dX12_slipped_22 : decode cX12_slipped 22 = .ok (.iload_n 2, 1) := by decide +kernel
theorem dX12_slipped_23 : decode cX12_slipped 23 = .ok (.invokevirtual 422, 3) := by decide +kernel
theorem dX12_slipped_26 : decode cX12_slipped 26 = .ok (.iconst 0, 1) := by decide +kernel
theorem dX12_slipped_27 : decode cX12_slipped 27 = .ok (.istore_n 3, 1) := by decide +kernel
theorem dX12_slipped_28 : decode cX12_slipped 28 = .ok (.iconst 0, 1) := by decide +kernel
theorem dX12_slipped_29 : decode cX12_slipped 29 = .ok (.istore 4, 2) := by decide +kernel
theorem dX12_slipped_31 : decode cX12_slipped 31 = .ok (.iload 4, 2) := by decide +kernel
theorem dX12_slipped_33 : decode cX12_slipped 33 = .ok (.aload_n 0, 1) := by decide +kernel
theorem dX12_slipped_34 : decode cX12_slipped 34 = .ok (.getfield 19, 3) := by decide +kernel
theorem dX12_slipped_37 : decode cX12_slipped 37 = .ok (.iload_n 1, 1) := by decide +kernel
theorem dX12_slipped_38 : decode cX12_slipped 38 = .ok (.iaload, 1) := by decide +kernel
theorem dX12_slipped_39 : decode cX12_slipped 39 = .ok (.if_icmp .ge 144, 3) := by decide +kernel
theorem dX12_slipped_42 : decode cX12_slipped 42 = .ok (.bipush 20, 2) := by decide +kernel
theorem dX12_slipped_44 : decode cX12_slipped 44 = .ok (.iload_n 1, 1) := by decide +kernel
theorem dX12_slipped_45 : decode cX12_slipped 45 = .ok (.imul, 1) := by decide +kernel
theorem dX12_slipped_46 : decode cX12_slipped 46 = .ok (.iload 4, 2) := by decide +kernel
theorem dX12_slipped_48 : decode cX12_slipped 48 = .ok (.iadd, 1) := by decide +kernel
theorem dX12_slipped_49 : decode cX12_slipped 49 = .ok (.istore 5, 2) := by decide +kernel
theorem dX12_slipped_51 : decode cX12_slipped 51 = .ok (.aload_n 0, 1) := by decide +kernel
theorem dX12_slipped_52 : decode cX12_slipped 52 = .ok (.getfield 25, 3) := by decide +kernel
theorem dX12_slipped_55 : decode cX12_slipped 55 = .ok (.iload 5, 2) := by decide +kernel
theorem dX12_slipped_57 : decode cX12_slipped 57 = .ok (.iaload, 1) := by decide +kernel
theorem dX12_slipped_58 : decode cX12_slipped 58 = .ok (.ifCond .ge 119, 3) := by decide +kernel
theorem dX12_slipped_61 : decode cX12_slipped 61 = .ok (.aload_n 0, 1) := by decide +kernel
theorem dX12_slipped_62 : decode cX12_slipped 62 = .ok (.iload_n 1, 1) := by decide +kernel
theorem dX12_slipped_63 : decode cX12_slipped 63 = .ok (.iconst (-1), 1) := by decide +kernel
theorem dX12_slipped_64 : decode cX12_slipped 64 = .ok (.aload_n 0, 1) := by decide +kernel
theorem dX12_slipped_65 : decode cX12_slipped 65 = .ok (.getfield 28, 3) := by decide +kernel
theorem dX12_slipped_68 : decode cX12_slipped 68 = .ok (.iload 5, 2) := by decide +kernel
theorem dX12_slipped_70 : decode cX12_slipped 70 = .ok (.iaload, 1) := by decide +kernel
theorem dX12_slipped_71 : decode cX12_slipped 71 = .ok (.invokevirtual 359, 3) := by decide +kernel
theorem dX12_slipped_74 : decode cX12_slipped 74 = .ok (.istore 6, 2) := by decide +kernel
theorem dX12_slipped_76 : decode cX12_slipped 76 = .ok (.aload_n 0, 1) := by decide +kernel
theorem dX12_slipped_77 : decode cX12_slipped 77 = .ok (.getfield 129, 3) := by decide +kernel
theorem dX12_slipped_80 : decode cX12_slipped 80 = .ok (.iload 6, 2) := by decide +kernel
theorem dX12_slipped_82 : decode cX12_slipped 82 = .ok (.iaload, 1) := by decide +kernel
theorem dX12_slipped_83 : decode cX12_slipped 83 = .ok (.istore 7, 2) := by decide +kernel
theorem dX12_slipped_85 : decode cX12_slipped 85 = .ok (.aload_n 0, 1) := by decide +kernel
theorem dX12_slipped_86 : decode cX12_slipped 86 = .ok (.getfield 129, 3) := by decide +kernel
theorem dX12_slipped_89 : decode cX12_slipped 89 = .ok (.iload 6, 2) := by decide +kernel
theorem dX12_slipped_91 : decode cX12_slipped 91 = .ok (.aload_n 0, 1) := by decide +kernel
theorem dX12_slipped_92 : decode cX12_slipped 92 = .ok (.iload_n 1, 1) := by decide +kernel
theorem dX12_slipped_93 : decode cX12_slipped 93 = .ok (.iconst (-1), 1) := by decide +kernel
theorem dX12_slipped_94 : decode cX12_slipped 94 = .ok (.aload_n 0, 1) := by decide +kernel
theorem dX12_slipped_95 : decode cX12_slipped 95 = .ok (.getfield 28, 3) := by decide +kernel
theorem dX12_slipped_98 : decode cX12_slipped 98 = .ok (.iload 5, 2) := by decide +kernel
theorem dX12_slipped_100 : decode cX12_slipped 100 = .ok (.iaload, 1) := by decide +kernel
theorem dX12_slipped_101 : decode cX12_slipped 101 = .ok (.invokevirtual 362, 3) := by decide +kernel
theorem dX12_slipped_104 : decode cX12_slipped 104 = .ok (.iadd, 1) := by decide +kernel
theorem dX12_slipped_105 : decode cX12_slipped 105 = .ok (.iconst 1, 1) := by decide +kernel
theorem dX12_slipped_106 : decode cX12_slipped 106 = .ok (.isub, 1) := by decide +kernel
theorem dX12_slipped_107 : decode cX12_slipped 107 = .ok (.iaload, 1) := by decide +kernel
theorem dX12_slipped_108 : decode cX12_slipped 108 = .ok (.istore 8, 2) := by decide +kernel
theorem dX12_slipped_110 : decode cX12_slipped 110 = .ok (.iload 7, 2) := by decide +kernel
theorem dX12_slipped_112 : decode cX12_slipped 112 = .ok (.ifCond .lt 23, 3) := by decide +kernel
theorem dX12_slipped_115 : decode cX12_slipped 115 = .ok (.aload_n 0, 1) := by decide +kernel
theorem dX12_slipped_116 : decode cX12_slipped 116 = .ok (.iload 5, 2) := by decide +kernel
theorem dX12_slipped_118 : decode cX12_slipped 118 = .ok (.iload_n 2, 1) := by decide +kernel
theorem dX12_slipped_119 : decode cX12_slipped 119 = .ok (.iload 7, 2) := by decide +kernel
theorem dX12_slipped_121 : decode cX12_slipped 121 = .ok (.aload_n 0, 1) := by decide +kernel
theorem dX12_slipped_122 : decode cX12_slipped 122 = .ok (.getfield 31, 3) := by decide +kernel
theorem dX12_slipped_125 : decode cX12_slipped 125 = .ok (.iload 5, 2) := by decide +kernel
theorem dX12_slipped_127 : decode cX12_slipped 127 = .ok (.iaload, 1) := by decide +kernel
theorem dX12_slipped_128 : decode cX12_slipped 128 = .ok (.isub, 1) := by decide +kernel
theorem dX12_slipped_129 : decode cX12_slipped 129 = .ok (.invokevirtual 425, 3) := by decide +kernel
theorem dX12_slipped_132 : decode cX12_slipped 132 = .ok (.ifCond .ne 22, 3) := by decide +kernel
theorem dX12_slipped_135 : decode cX12_slipped 135 = .ok (.iload 8, 2) := by decide +kernel
theorem dX12_slipped_137 : decode cX12_slipped 137 = .ok (.ifCond .lt 21, 3) := by decide +kernel
theorem dX12_slipped_140 : decode cX12_slipped 140 = .ok (.aload_n 0, 1) := by decide +kernel
theorem dX12_slipped_141 : decode cX12_slipped 141 = .ok (.iload 5, 2) := by decide +kernel
theorem dX12_slipped_143 : decode cX12_slipped 143 = .ok (.iload_n 2, 1) := by decide +kernel
theorem dX12_slipped_144 : decode cX12_slipped 144 = .ok (.iload 8, 2) := by decide +kernel
theorem dX12_slipped_146 : decode cX12_slipped 146 = .ok (.iconst 1, 1) := by decide +kernel
theorem dX12_slipped_147 : decode cX12_slipped 147 = .ok (.iadd, 1) := by decide +kernel
theorem dX12_slipped_148 : decode cX12_slipped 148 = .ok (.invokevirtual 425, 3) := by decide +kernel
theorem dX12_slipped_151 : decode cX12_slipped 151 = .ok (.ifCond .eq 7, 3) := by decide +kernel
theorem dX12_slipped_154 : decode cX12_slipped 154 = .ok (.iconst 1, 1) := by decide +kernel
theorem dX12_slipped_155 : decode cX12_slipped 155 = .ok (.goto 4, 3) := by decide +kernel
theorem dX12_slipped_158 : decode cX12_slipped 158 = .ok (.iconst 0, 1) := by decide +kernel
theorem dX12_slipped_159 : decode cX12_slipped 159 = .ok (.istore 9, 2) := by decide +kernel
theorem dX12_slipped_161 : decode cX12_slipped 161 = .ok (.iload_n 3, 1) := by decide +kernel
theorem dX12_slipped_162 : decode cX12_slipped 162 = .ok (.iload 9, 2) := by decide +kernel
theorem dX12_slipped_164 : decode cX12_slipped 164 = .ok (.ifCond .eq 10, 3) := by decide +kernel
theorem dX12_slipped_167 : decode cX12_slipped 167 = .ok (.iconst 1, 1) := by decide +kernel
theorem dX12_slipped_168 : decode cX12_slipped 168 = .ok (.iload 4, 2) := by decide +kernel
theorem dX12_slipped_170 : decode cX12_slipped 170 = .ok (.ishl, 1) := by decide +kernel
theorem dX12_slipped_171 : decode cX12_slipped 171 = .ok (.goto 4, 3) := by decide +kernel
theorem dX12_slipped_174 : decode cX12_slipped 174 = .ok (.iconst 0, 1) := by decide +kernel
theorem dX12_slipped_175 : decode cX12_slipped 175 = .ok (.ior, 1) := by decide +kernel
theorem dX12_slipped_176 : decode cX12_slipped 176 = .ok (.istore_n 3, 1) := by decide +kernel
theorem dX12_slipped_177 : decode cX12_slipped 177 = .ok (.iinc 4 1, 3) := by decide +kernel
theorem dX12_slipped_180 : decode cX12_slipped 180 = .ok (.goto (-149), 3) := by decide +kernel
theorem dX12_slipped_183 : decode cX12_slipped 183 = .ok (.iload_n 3, 1) := by decide +kernel
theorem dX12_slipped_184 : decode cX12_slipped 184 = .ok (.ireturn, 1) := by decide +kernel
theorem dX12_findReadings_0 : decode cX12_findReadings 0 = .ok (.iconst 0, 1) := by decide +kernel
theorem dX12_findReadings_1 : decode cX12_findReadings 1 = .ok (.istore_n 3, 1) := by decide +kernel
theorem dX12_findReadings_2 : decode cX12_findReadings 2 = .ok (.iload_n 3, 1) := by decide +kernel
theorem dX12_findReadings_3 : decode cX12_findReadings 3 = .ok (.aload_n 0, 1) := by decide +kernel
theorem dX12_findReadings_4 : decode cX12_findReadings 4 = .ok (.getfield 151, 3) := by decide +kernel
theorem dX12_findReadings_7 : decode cX12_findReadings 7 = .ok (.if_icmp .ge 92, 3) := by decide +kernel
theorem dX12_findReadings_10 : decode cX12_findReadings 10 = .ok (.iload_n 2, 1) := by decide +kernel
theorem dX12_findReadings_11 : decode cX12_findReadings 11 = .ok (.iload_n 3, 1) := by decide +kernel
theorem dX12_findReadings_12 : decode cX12_findReadings 12 = .ok (.ishr, 1) := by decide +kernel
theorem dX12_findReadings_13 : decode cX12_findReadings 13 = .ok (.iconst 1, 1) := by decide +kernel
theorem dX12_findReadings_14 : decode cX12_findReadings 14 = .ok (.iand, 1) := by decide +kernel
theorem dX12_findReadings_15 : decode cX12_findReadings 15 = .ok (.iconst 1, 1) := by decide +kernel
theorem dX12_findReadings_16 : decode cX12_findReadings 16 = .ok (.if_icmp .eq 8, 3) := by decide +kernel
theorem dX12_findReadings_19 : decode cX12_findReadings 19 = .ok (.iload_n 3, 1) := by decide +kernel
theorem dX12_findReadings_20 : decode cX12_findReadings 20 = .ok (.iload_n 1, 1) := by decide +kernel
theorem dX12_findReadings_21 : decode cX12_findReadings 21 = .ok (.if_icmp .ne 72, 3) := by decide +kernel
theorem dX12_findReadings_24 : decode cX12_findReadings 24 = .ok (.aload_n 0, 1) := by decide +kernel
theorem dX12_findReadings_25 : decode cX12_findReadings 25 = .ok (.iload_n 1, 1) := by decide +kernel
theorem dX12_findReadings_26 : decode cX12_findReadings 26 = .ok (.iload_n 3, 1) := by decide +kernel
theorem dX12_findReadings_27 : decode cX12_findReadings 27 = .ok (.invokevirtual 422, 3) := by decide +kernel
theorem dX12_findReadings_30 : decode cX12_findReadings 30 = .ok (.iconst 0, 1) := by decide +kernel
theorem dX12_findReadings_31 : decode cX12_findReadings 31 = .ok (.istore 4, 2) := by decide +kernel
theorem dX12_findReadings_33 : decode cX12_findReadings 33 = .ok (.iload 4, 2) := by decide +kernel
theorem dX12_findReadings_35 : decode cX12_findReadings 35 = .ok (.aload_n 0, 1) := by decide +kernel
theorem dX12_findReadings_36 : decode cX12_findReadings 36 = .ok (.getfield 7, 3) := by decide +kernel
theorem dX12_findReadings_39 : decode cX12_findReadings 39 = .ok (.iload_n 1, 1) := by decide +kernel
theorem dX12_findReadings_40 : decode cX12_findReadings 40 = .ok (.iaload, 1) := by decide +kernel
theorem dX12_findReadings_41 : decode cX12_findReadings 41 = .ok (.if_icmp .ge 52, 3) := by decide +kernel
theorem dX12_findReadings_44 : decode cX12_findReadings 44 = .ok (.aload_n 0, 1) := by decide +kernel
theorem dX12_findReadings_45 : decode cX12_findReadings 45 = .ok (.getfield 135, 3) := by decide +kernel
theorem dX12_findReadings_48 : decode cX12_findReadings 48 = .ok (.bipush 40, 2) := by decide +kernel
theorem dX12_findReadings_50 : decode cX12_findReadings 50 = .ok (.iload_n 3, 1) := by decide +kernel
theorem dX12_findReadings_51 : decode cX12_findReadings 51 = .ok (.imul, 1) := by decide +kernel
theorem dX12_findReadings_52 : decode cX12_findReadings 52 = .ok (.iload 4, 2) := by decide +kernel
theorem dX12_findReadings_54 : decode cX12_findReadings 54 = .ok (.iadd, 1) := by decide +kernel
theorem dX12_findReadings_55 : decode cX12_findReadings 55 = .ok (.aload_n 0, 1) := by decide +kernel
theorem dX12_findReadings_56 : decode cX12_findReadings 56 = .ok (.getfield 129, 3) := by decide +kernel
theorem dX12_findReadings_59 : decode cX12_findReadings 59 = .ok (.iload 4, 2) := by decide +kernel
theorem dX12_findReadings_61 : decode cX12_findReadings 61 = .ok (.iaload, 1) := by decide +kernel
theorem dX12_findReadings_62 : decode cX12_findReadings 62 = .ok (.ifCond .ge 7, 3) := by decide +kernel
theorem dX12_findReadings_65 : decode cX12_findReadings 65 = .ok (.iconst (-1), 1) := by decide +kernel
theorem dX12_findReadings_66 : decode cX12_findReadings 66 = .ok (.goto 20, 3) := by decide +kernel
theorem dX12_findReadings_69 : decode cX12_findReadings 69 = .ok (.aload_n 0, 1) := by decide +kernel
theorem dX12_findReadings_70 : decode cX12_findReadings 70 = .ok (.getfield 13, 3) := by decide +kernel
theorem dX12_findReadings_73 : decode cX12_findReadings 73 = .ok (.bipush 40, 2) := by decide +kernel
theorem dX12_findReadings_75 : decode cX12_findReadings 75 = .ok (.iload_n 3, 1) := by decide +kernel
theorem dX12_findReadings_76 : decode cX12_findReadings 76 = .ok (.imul, 1) := by decide +kernel
theorem dX12_findReadings_77 : decode cX12_findReadings 77 = .ok (.aload_n 0, 1) := by decide +kernel
theorem dX12_findReadings_78 : decode cX12_findReadings 78 = .ok (.getfield 129, 3) := by decide +kernel
theorem dX12_findReadings_81 : decode cX12_findReadings 81 = .ok (.iload 4, 2) := by decide +kernel
theorem dX12_findReadings_83 : decode cX12_findReadings 83 = .ok (.iaload, 1) := by decide +kernel
theorem dX12_findReadings_84 : decode cX12_findReadings 84 = .ok (.iadd, 1) := by decide +kernel
theorem dX12_findReadings_85 : decode cX12_findReadings 85 = .ok (.iaload, 1) := by decide +kernel
theorem dX12_findReadings_86 : decode cX12_findReadings 86 = .ok (.iastore, 1) := by decide +kernel
theorem dX12_findReadings_87 : decode cX12_findReadings 87 = .ok (.iinc 4 1, 3) := by decide +kernel
theorem dX12_findReadings_90 : decode cX12_findReadings 90 = .ok (.goto (-57), 3) := by decide +kernel
theorem dX12_findReadings_93 : decode cX12_findReadings 93 = .ok (.iinc 3 1, 3) := by decide +kernel
theorem dX12_findReadings_96 : decode cX12_findReadings 96 = .ok (.goto (-94), 3) := by decide +kernel
theorem dX12_findReadings_99 : decode cX12_findReadings 99 = .ok (.return_, 1) := by decide +kernel
theorem dX12_reading_0 : decode cX12_reading 0 = .ok (.aload_n 0, 1) := by decide +kernel
theorem dX12_reading_1 : decode cX12_reading 1 = .ok (.iload_n 1, 1) := by decide +kernel
theorem dX12_reading_2 : decode cX12_reading 2 = .ok (.invokevirtual 371, 3) := by decide +kernel
theorem dX12_reading_5 : decode cX12_reading 5 = .ok (.ifCond .eq 11, 3) := by decide +kernel
theorem dX12_reading_8 : decode cX12_reading 8 = .ok (.aload_n 0, 1) := by decide +kernel
theorem dX12_reading_9 : decode cX12_reading 9 = .ok (.iload_n 2, 1) := by decide +kernel
theorem dX12_reading_10 : decode cX12_reading 10 = .ok (.invokevirtual 371, 3) := by decide +kernel
theorem dX12_reading_13 : decode cX12_reading 13 = .ok (.ifCond .ne 7, 3) := by decide +kernel
theorem dX12_reading_16 : decode cX12_reading 16 = .ok (.sipush (-1001), 3) := by decide +kernel
theorem dX12_reading_19 : decode cX12_reading 19 = .ok (.ireturn, 1) := by decide +kernel
theorem dX12_reading_20 : decode cX12_reading 20 = .ok (.iload_n 3, 1) := by decide +kernel
theorem dX12_reading_21 : decode cX12_reading 21 = .ok (.i2l, 1) := by decide +kernel
theorem dX12_reading_22 : decode cX12_reading 22 = .ok (.lconst 0, 1) := by decide +kernel
theorem dX12_reading_23 : decode cX12_reading 23 = .ok (.aload_n 0, 1) := by decide +kernel
theorem dX12_reading_24 : decode cX12_reading 24 = .ok (.getfield 7, 3) := by decide +kernel
theorem dX12_reading_27 : decode cX12_reading 27 = .ok (.iload_n 1, 1) := by decide +kernel
theorem dX12_reading_28 : decode cX12_reading 28 = .ok (.iaload, 1) := by decide +kernel
theorem dX12_reading_29 : decode cX12_reading 29 = .ok (.iconst 1, 1) := by decide +kernel
theorem dX12_reading_30 : decode cX12_reading 30 = .ok (.isub, 1) := by decide +kernel
theorem dX12_reading_31 : decode cX12_reading 31 = .ok (.i2l, 1) := by decide +kernel
theorem dX12_reading_32 : decode cX12_reading 32 = .ok (.invokestatic 154, 3) := by decide +kernel
theorem dX12_reading_35 : decode cX12_reading 35 = .ok (.ifCond .ne 7, 3) := by decide +kernel
theorem dX12_reading_38 : decode cX12_reading 38 = .ok (.sipush (-1002), 3) := by decide +kernel
theorem dX12_reading_41 : decode cX12_reading 41 = .ok (.ireturn, 1) := by decide +kernel
theorem dX12_reading_42 : decode cX12_reading 42 = .ok (.aload_n 0, 1) := by decide +kernel
theorem dX12_reading_43 : decode cX12_reading 43 = .ok (.iload_n 1, 1) := by decide +kernel
theorem dX12_reading_44 : decode cX12_reading 44 = .ok (.iconst 1, 1) := by decide +kernel
theorem dX12_reading_45 : decode cX12_reading 45 = .ok (.iload_n 2, 1) := by decide +kernel
theorem dX12_reading_46 : decode cX12_reading 46 = .ok (.ishl, 1) := by decide +kernel
theorem dX12_reading_47 : decode cX12_reading 47 = .ok (.invokevirtual 428, 3) := by decide +kernel
theorem dX12_reading_50 : decode cX12_reading 50 = .ok (.aload_n 0, 1) := by decide +kernel
theorem dX12_reading_51 : decode cX12_reading 51 = .ok (.getfield 135, 3) := by decide +kernel
theorem dX12_reading_54 : decode cX12_reading 54 = .ok (.bipush 40, 2) := by decide +kernel
theorem dX12_reading_56 : decode cX12_reading 56 = .ok (.iload_n 2, 1) := by decide +kernel
theorem dX12_reading_57 : decode cX12_reading 57 = .ok (.imul, 1) := by decide +kernel
theorem dX12_reading_58 : decode cX12_reading 58 = .ok (.iload_n 3, 1) := by decide +kernel
theorem dX12_reading_59 : decode cX12_reading 59 = .ok (.iadd, 1) := by decide +kernel
theorem dX12_reading_60 : decode cX12_reading 60 = .ok (.iaload, 1) := by decide +kernel
theorem dX12_reading_61 : decode cX12_reading 61 = .ok (.ireturn, 1) := by decide +kernel
theorem dX12_having_0 : decode cX12_having 0 = .ok (.iconst 0, 1) := by decide +kernel
theorem dX12_having_1 : decode cX12_having 1 = .ok (.istore 4, 2) := by decide +kernel
theorem dX12_having_3 : decode cX12_having 3 = .ok (.iconst 0, 1) := by decide +kernel
theorem dX12_having_4 : decode cX12_having 4 = .ok (.istore 5, 2) := by decide +kernel
theorem dX12_having_6 : decode cX12_having 6 = .ok (.iload 5, 2) := by decide +kernel
theorem dX12_having_8 : decode cX12_having 8 = .ok (.aload_n 0, 1) := by decide +kernel
theorem dX12_having_9 : decode cX12_having 9 = .ok (.getfield 151, 3) := by decide +kernel
theorem dX12_having_12 : decode cX12_having 12 = .ok (.if_icmp .ge 45, 3) := by decide +kernel
theorem dX12_having_15 : decode cX12_having 15 = .ok (.iload 4, 2) := by decide +kernel
theorem dX12_having_17 : decode cX12_having 17 = .ok (.iload_n 1, 1) := by decide +kernel
theorem dX12_having_18 : decode cX12_having 18 = .ok (.iload 5, 2) := by decide +kernel
theorem dX12_having_20 : decode cX12_having 20 = .ok (.ishr, 1) := by decide +kernel
theorem dX12_having_21 : decode cX12_having 21 = .ok (.iconst 1, 1) := by decide +kernel
theorem dX12_having_22 : decode cX12_having 22 = .ok (.iand, 1) := by decide +kernel
theorem dX12_having_23 : decode cX12_having 23 = .ok (.iconst 1, 1) := by decide +kernel
theorem dX12_having_24 : decode cX12_having 24 = .ok (.if_icmp .ne 23, 3) := by decide +kernel
theorem dX12_having_27 : decode cX12_having 27 = .ok (.aload_n 0, 1) := by decide +kernel
theorem dX12_having_28 : decode cX12_having 28 = .ok (.getfield 135, 3) := by decide +kernel
theorem dX12_having_31 : decode cX12_having 31 = .ok (.bipush 40, 2) := by decide +kernel
theorem dX12_having_33 : decode cX12_having 33 = .ok (.iload 5, 2) := by decide +kernel
theorem dX12_having_35 : decode cX12_having 35 = .ok (.imul, 1) := by decide +kernel
theorem dX12_having_36 : decode cX12_having 36 = .ok (.iload_n 2, 1) := by decide +kernel
theorem dX12_having_37 : decode cX12_having 37 = .ok (.iadd, 1) := by decide +kernel
theorem dX12_having_38 : decode cX12_having 38 = .ok (.iaload, 1) := by decide +kernel
theorem dX12_having_39 : decode cX12_having 39 = .ok (.iload_n 3, 1) := by decide +kernel
theorem dX12_having_40 : decode cX12_having 40 = .ok (.if_icmp .ne 7, 3) := by decide +kernel
theorem dX12_having_43 : decode cX12_having 43 = .ok (.iconst 1, 1) := by decide +kernel
theorem dX12_having_44 : decode cX12_having 44 = .ok (.goto 4, 3) := by decide +kernel
theorem dX12_having_47 : decode cX12_having 47 = .ok (.iconst 0, 1) := by decide +kernel
theorem dX12_having_48 : decode cX12_having 48 = .ok (.iadd, 1) := by decide +kernel
theorem dX12_having_49 : decode cX12_having 49 = .ok (.istore 4, 2) := by decide +kernel
theorem dX12_having_51 : decode cX12_having 51 = .ok (.iinc 5 1, 3) := by decide +kernel
theorem dX12_having_54 : decode cX12_having 54 = .ok (.goto (-48), 3) := by decide +kernel
theorem dX12_having_57 : decode cX12_having 57 = .ok (.iload 4, 2) := by decide +kernel
theorem dX12_having_59 : decode cX12_having 59 = .ok (.ireturn, 1) := by decide +kernel
theorem dX12_mostAt_0 : decode cX12_mostAt 0 = .ok (.iload_n 2, 1) := by decide +kernel
theorem dX12_mostAt_1 : decode cX12_mostAt 1 = .ok (.iconst 1, 1) := by decide +kernel
theorem dX12_mostAt_2 : decode cX12_mostAt 2 = .ok (.iload_n 1, 1) := by decide +kernel
theorem dX12_mostAt_3 : decode cX12_mostAt 3 = .ok (.ishl, 1) := by decide +kernel
theorem dX12_mostAt_4 : decode cX12_mostAt 4 = .ok (.ior, 1) := by decide +kernel
theorem dX12_mostAt_5 : decode cX12_mostAt 5 = .ok (.istore 4, 2) := by decide +kernel
theorem dX12_mostAt_7 : decode cX12_mostAt 7 = .ok (.aload_n 0, 1) := by decide +kernel
theorem dX12_mostAt_8 : decode cX12_mostAt 8 = .ok (.getfield 135, 3) := by decide +kernel
theorem dX12_mostAt_11 : decode cX12_mostAt 11 = .ok (.bipush 40, 2) := by decide +kernel
theorem dX12_mostAt_13 : decode cX12_mostAt 13 = .ok (.iload_n 1, 1) := by decide +kernel
theorem dX12_mostAt_14 : decode cX12_mostAt 14 = .ok (.imul, 1) := by decide +kernel
theorem dX12_mostAt_15 : decode cX12_mostAt 15 = .ok (.iload_n 3, 1) := by decide +kernel
theorem dX12_mostAt_16 : decode cX12_mostAt 16 = .ok (.iadd, 1) := by decide +kernel
theorem dX12_mostAt_17 : decode cX12_mostAt 17 = .ok (.iaload, 1) := by decide +kernel
theorem dX12_mostAt_18 : decode cX12_mostAt 18 = .ok (.istore 5, 2) := by decide +kernel
theorem dX12_mostAt_20 : decode cX12_mostAt 20 = .ok (.aload_n 0, 1) := by decide +kernel
theorem dX12_mostAt_21 : decode cX12_mostAt 21 = .ok (.iload 4, 2) := by decide +kernel
theorem dX12_mostAt_23 : decode cX12_mostAt 23 = .ok (.iload_n 3, 1) := by decide +kernel
theorem dX12_mostAt_24 : decode cX12_mostAt 24 = .ok (.iload 5, 2) := by decide +kernel
theorem dX12_mostAt_26 : decode cX12_mostAt 26 = .ok (.invokevirtual 431, 3) := by decide +kernel
theorem dX12_mostAt_29 : decode cX12_mostAt 29 = .ok (.istore 6, 2) := by decide +kernel
theorem dX12_mostAt_31 : decode cX12_mostAt 31 = .ok (.iconst (-1), 1) := by decide +kernel
theorem dX12_mostAt_32 : decode cX12_mostAt 32 = .ok (.istore 7, 2) := by decide +kernel
theorem dX12_mostAt_34 : decode cX12_mostAt 34 = .ok (.iload 7, 2) := by decide +kernel
theorem dX12_mostAt_36 : decode cX12_mostAt 36 = .ok (.bipush 64, 2) := by decide +kernel
theorem dX12_mostAt_38 : decode cX12_mostAt 38 = .ok (.if_icmp .ge 35, 3) := by decide +kernel
theorem dX12_mostAt_41 : decode cX12_mostAt 41 = .ok (.aload_n 0, 1) := by decide +kernel
theorem dX12_mostAt_42 : decode cX12_mostAt 42 = .ok (.iload 4, 2) := by decide +kernel
theorem dX12_mostAt_44 : decode cX12_mostAt 44 = .ok (.iload_n 3, 1) := by decide +kernel
theorem dX12_mostAt_45 : decode cX12_mostAt 45 = .ok (.iload 7, 2) := by decide +kernel
theorem dX12_mostAt_47 : decode cX12_mostAt 47 = .ok (.invokevirtual 431, 3) := by decide +kernel
theorem dX12_mostAt_50 : decode cX12_mostAt 50 = .ok (.istore 8, 2) := by decide +kernel
theorem dX12_mostAt_52 : decode cX12_mostAt 52 = .ok (.iload 8, 2) := by decide +kernel
theorem dX12_mostAt_54 : decode cX12_mostAt 54 = .ok (.iload 6, 2) := by decide +kernel
theorem dX12_mostAt_56 : decode cX12_mostAt 56 = .ok (.if_icmp .le 11, 3) := by decide +kernel
theorem dX12_mostAt_59 : decode cX12_mostAt 59 = .ok (.iload 7, 2) := by decide +kernel
theorem dX12_mostAt_61 : decode cX12_mostAt 61 = .ok (.istore 5, 2) := by decide +kernel
theorem dX12_mostAt_63 : decode cX12_mostAt 63 = .ok (.iload 8, 2) := by decide +kernel
theorem dX12_mostAt_65 : decode cX12_mostAt 65 = .ok (.istore 6, 2) := by decide +kernel
theorem dX12_mostAt_67 : decode cX12_mostAt 67 = .ok (.iinc 7 1, 3) := by decide +kernel
theorem dX12_mostAt_70 : decode cX12_mostAt 70 = .ok (.goto (-36), 3) := by decide +kernel
theorem dX12_mostAt_73 : decode cX12_mostAt 73 = .ok (.iload 5, 2) := by decide +kernel
theorem dX12_mostAt_75 : decode cX12_mostAt 75 = .ok (.ireturn, 1) := by decide +kernel
theorem dX12_most_0 : decode cX12_most 0 = .ok (.aload_n 0, 1) := by decide +kernel
theorem dX12_most_1 : decode cX12_most 1 = .ok (.iload_n 1, 1) := by decide +kernel
theorem dX12_most_2 : decode cX12_most 2 = .ok (.invokevirtual 371, 3) := by decide +kernel
theorem dX12_most_5 : decode cX12_most 5 = .ok (.ifCond .eq 11, 3) := by decide +kernel
theorem dX12_most_8 : decode cX12_most 8 = .ok (.aload_n 0, 1) := by decide +kernel
theorem dX12_most_9 : decode cX12_most 9 = .ok (.iload_n 2, 1) := by decide +kernel
theorem dX12_most_10 : decode cX12_most 10 = .ok (.invokevirtual 434, 3) := by decide +kernel
theorem dX12_most_13 : decode cX12_most 13 = .ok (.ifCond .ne 7, 3) := by decide +kernel
theorem dX12_most_16 : decode cX12_most 16 = .ok (.sipush (-1001), 3) := by decide +kernel
theorem dX12_most_19 : decode cX12_most 19 = .ok (.ireturn, 1) := by decide +kernel
theorem dX12_most_20 : decode cX12_most 20 = .ok (.iload_n 3, 1) := by decide +kernel
theorem dX12_most_21 : decode cX12_most 21 = .ok (.i2l, 1) := by decide +kernel
theorem dX12_most_22 : decode cX12_most 22 = .ok (.lconst 0, 1) := by decide +kernel
theorem dX12_most_23 : decode cX12_most 23 = .ok (.aload_n 0, 1) := by decide +kernel
theorem dX12_most_24 : decode cX12_most 24 = .ok (.getfield 7, 3) := by decide +kernel
theorem dX12_most_27 : decode cX12_most 27 = .ok (.iload_n 1, 1) := by decide +kernel
theorem dX12_most_28 : decode cX12_most 28 = .ok (.iaload, 1) := by decide +kernel
theorem dX12_most_29 : decode cX12_most 29 = .ok (.iconst 1, 1) := by decide +kernel
theorem dX12_most_30 : decode cX12_most 30 = .ok (.isub, 1) := by decide +kernel
theorem dX12_most_31 : decode cX12_most 31 = .ok (.i2l, 1) := by decide +kernel
theorem dX12_most_32 : decode cX12_most 32 = .ok (.invokestatic 154, 3) := by decide +kernel
theorem dX12_most_35 : decode cX12_most 35 = .ok (.ifCond .eq 14, 3) := by decide +kernel
theorem dX12_most_38 : decode cX12_most 38 = .ok (.iload 4, 2) := by decide +kernel
theorem dX12_most_40 : decode cX12_most 40 = .ok (.i2l, 1) := by decide +kernel
theorem dX12_most_41 : decode cX12_most 41 = .ok (.lconst 0, 1) := by decide +kernel
theorem dX12_most_42 : decode cX12_most 42 = .ok (.lconst 1, 1) := by decide +kernel
theorem dX12_most_43 : decode cX12_most 43 = .ok (.invokestatic 154, 3) := by decide +kernel
theorem dX12_most_46 : decode cX12_most 46 = .ok (.ifCond .ne 7, 3) := by decide +kernel
theorem dX12_most_49 : decode cX12_most 49 = .ok (.sipush (-1002), 3) := by decide +kernel
theorem dX12_most_52 : decode cX12_most 52 = .ok (.ireturn, 1) := by decide +kernel
theorem dX12_most_53 : decode cX12_most 53 = .ok (.aload_n 0, 1) := by decide +kernel
theorem dX12_most_54 : decode cX12_most 54 = .ok (.iload_n 1, 1) := by decide +kernel
theorem dX12_most_55 : decode cX12_most 55 = .ok (.iload_n 2, 1) := by decide +kernel
theorem dX12_most_56 : decode cX12_most 56 = .ok (.invokevirtual 428, 3) := by decide +kernel
theorem dX12_most_59 : decode cX12_most 59 = .ok (.aload_n 0, 1) := by decide +kernel
theorem dX12_most_60 : decode cX12_most 60 = .ok (.iload_n 1, 1) := by decide +kernel
theorem dX12_most_61 : decode cX12_most 61 = .ok (.iload_n 2, 1) := by decide +kernel
theorem dX12_most_62 : decode cX12_most 62 = .ok (.iload_n 3, 1) := by decide +kernel
theorem dX12_most_63 : decode cX12_most 63 = .ok (.invokevirtual 437, 3) := by decide +kernel
theorem dX12_most_66 : decode cX12_most 66 = .ok (.istore 5, 2) := by decide +kernel
theorem dX12_most_68 : decode cX12_most 68 = .ok (.iload 4, 2) := by decide +kernel
theorem dX12_most_70 : decode cX12_most 70 = .ok (.ifCond .ne 8, 3) := by decide +kernel
theorem dX12_most_73 : decode cX12_most 73 = .ok (.iload 5, 2) := by decide +kernel
theorem dX12_most_75 : decode cX12_most 75 = .ok (.goto 15, 3) := by decide +kernel
theorem dX12_most_78 : decode cX12_most 78 = .ok (.aload_n 0, 1) := by decide +kernel
theorem dX12_most_79 : decode cX12_most 79 = .ok (.iload_n 2, 1) := by decide +kernel
theorem dX12_most_80 : decode cX12_most 80 = .ok (.iconst 1, 1) := by decide +kernel
theorem dX12_most_81 : decode cX12_most 81 = .ok (.iload_n 1, 1) := by decide +kernel
theorem dX12_most_82 : decode cX12_most 82 = .ok (.ishl, 1) := by decide +kernel
theorem dX12_most_83 : decode cX12_most 83 = .ok (.ior, 1) := by decide +kernel
theorem dX12_most_84 : decode cX12_most 84 = .ok (.iload_n 3, 1) := by decide +kernel
theorem dX12_most_85 : decode cX12_most 85 = .ok (.iload 5, 2) := by decide +kernel
theorem dX12_most_87 : decode cX12_most 87 = .ok (.invokevirtual 431, 3) := by decide +kernel
theorem dX12_most_90 : decode cX12_most 90 = .ok (.ireturn, 1) := by decide +kernel
theorem dX12_restored_0 : decode cX12_restored 0 = .ok (.aload_n 0, 1) := by decide +kernel
theorem dX12_restored_1 : decode cX12_restored 1 = .ok (.iload_n 1, 1) := by decide +kernel
theorem dX12_restored_2 : decode cX12_restored 2 = .ok (.invokevirtual 371, 3) := by decide +kernel
theorem dX12_restored_5 : decode cX12_restored 5 = .ok (.ifCond .eq 11, 3) := by decide +kernel
theorem dX12_restored_8 : decode cX12_restored 8 = .ok (.aload_n 0, 1) := by decide +kernel
theorem dX12_restored_9 : decode cX12_restored 9 = .ok (.iload_n 2, 1) := by decide +kernel
theorem dX12_restored_10 : decode cX12_restored 10 = .ok (.invokevirtual 434, 3) := by decide +kernel
theorem dX12_restored_13 : decode cX12_restored 13 = .ok (.ifCond .ne 7, 3) := by decide +kernel
theorem dX12_restored_16 : decode cX12_restored 16 = .ok (.sipush (-1001), 3) := by decide +kernel
theorem dX12_restored_19 : decode cX12_restored 19 = .ok (.ireturn, 1) := by decide +kernel
theorem dX12_restored_20 : decode cX12_restored 20 = .ok (.aload_n 0, 1) := by decide +kernel
theorem dX12_restored_21 : decode cX12_restored 21 = .ok (.iload_n 1, 1) := by decide +kernel
theorem dX12_restored_22 : decode cX12_restored 22 = .ok (.iload_n 2, 1) := by decide +kernel
theorem dX12_restored_23 : decode cX12_restored 23 = .ok (.invokevirtual 428, 3) := by decide +kernel
theorem dX12_restored_26 : decode cX12_restored 26 = .ok (.iconst 0, 1) := by decide +kernel
theorem dX12_restored_27 : decode cX12_restored 27 = .ok (.istore 4, 2) := by decide +kernel
theorem dX12_restored_29 : decode cX12_restored 29 = .ok (.iconst (-1), 1) := by decide +kernel
theorem dX12_restored_30 : decode cX12_restored 30 = .ok (.istore 5, 2) := by decide +kernel
theorem dX12_restored_32 : decode cX12_restored 32 = .ok (.iconst 0, 1) := by decide +kernel
theorem dX12_restored_33 : decode cX12_restored 33 = .ok (.istore 6, 2) := by decide +kernel
theorem dX12_restored_35 : decode cX12_restored 35 = .ok (.iload 6, 2) := by decide +kernel
theorem dX12_restored_37 : decode cX12_restored 37 = .ok (.aload_n 0, 1) := by decide +kernel
theorem dX12_restored_38 : decode cX12_restored 38 = .ok (.getfield 7, 3) := by decide +kernel
theorem dX12_restored_41 : decode cX12_restored 41 = .ok (.iload_n 1, 1) := by decide +kernel
theorem dX12_restored_42 : decode cX12_restored 42 = .ok (.iaload, 1) := by decide +kernel
theorem dX12_restored_43 : decode cX12_restored 43 = .ok (.if_icmp .ge 54, 3) := by decide +kernel
theorem dX12_restored_46 : decode cX12_restored 46 = .ok (.aload_n 0, 1) := by decide +kernel
theorem dX12_restored_47 : decode cX12_restored 47 = .ok (.iload_n 1, 1) := by decide +kernel
theorem dX12_restored_48 : decode cX12_restored 48 = .ok (.iload_n 2, 1) := by decide +kernel
theorem dX12_restored_49 : decode cX12_restored 49 = .ok (.iload 6, 2) := by decide +kernel
theorem dX12_restored_51 : decode cX12_restored 51 = .ok (.invokevirtual 437, 3) := by decide +kernel
theorem dX12_restored_54 : decode cX12_restored 54 = .ok (.istore 7, 2) := by decide +kernel
theorem dX12_restored_56 : decode cX12_restored 56 = .ok (.iload 7, 2) := by decide +kernel
theorem dX12_restored_58 : decode cX12_restored 58 = .ok (.ifCond .lt 14, 3) := by decide +kernel
theorem dX12_restored_61 : decode cX12_restored 61 = .ok (.iload 4, 2) := by decide +kernel
theorem dX12_restored_63 : decode cX12_restored 63 = .ok (.iload_n 3, 1) := by decide +kernel
theorem dX12_restored_64 : decode cX12_restored 64 = .ok (.if_icmp .ne 8, 3) := by decide +kernel
theorem dX12_restored_67 : decode cX12_restored 67 = .ok (.iload 7, 2) := by decide +kernel
theorem dX12_restored_69 : decode cX12_restored 69 = .ok (.goto 5, 3) := by decide +kernel
theorem dX12_restored_72 : decode cX12_restored 72 = .ok (.iload 5, 2) := by decide +kernel
theorem dX12_restored_74 : decode cX12_restored 74 = .ok (.istore 5, 2) := by decide +kernel
theorem dX12_restored_76 : decode cX12_restored 76 = .ok (.iload 4, 2) := by decide +kernel
theorem dX12_restored_78 : decode cX12_restored 78 = .ok (.iload 7, 2) := by decide +kernel
theorem dX12_restored_80 : decode cX12_restored 80 = .ok (.ifCond .lt 7, 3) := by decide +kernel
theorem dX12_restored_83 : decode cX12_restored 83 = .ok (.iconst 1, 1) := by decide +kernel
theorem dX12_restored_84 : decode cX12_restored 84 = .ok (.goto 4, 3) := by decide +kernel
theorem dX12_restored_87 : decode cX12_restored 87 = .ok (.iconst 0, 1) := by decide +kernel
