theorem dX12_book_29 : decode cX12_book 29 = .ok (.iconst (-1), 1) := by decide +kernel
theorem dX12_book_30 : decode cX12_book 30 = .ok (.putfield 191, 3) := by decide +kernel
theorem dX12_book_33 : decode cX12_book 33 = .ok (.aload_n 0, 1) := by decide +kernel
theorem dX12_book_34 : decode cX12_book 34 = .ok (.iconst 0, 1) := by decide +kernel
theorem dX12_book_35 : decode cX12_book 35 = .ok (.putfield 200, 3) := by decide +kernel
theorem dX12_book_38 : decode cX12_book 38 = .ok (.aload_n 0, 1) := by decide +kernel
theorem dX12_book_39 : decode cX12_book 39 = .ok (.iconst 0, 1) := by decide +kernel
theorem dX12_book_40 : decode cX12_book 40 = .ok (.putfield 211, 3) := by decide +kernel
theorem dX12_book_43 : decode cX12_book 43 = .ok (.aload_n 0, 1) := by decide +kernel
theorem dX12_book_44 : decode cX12_book 44 = .ok (.iconst 0, 1) := by decide +kernel
theorem dX12_book_45 : decode cX12_book 45 = .ok (.putfield 217, 3) := by decide +kernel
theorem dX12_book_48 : decode cX12_book 48 = .ok (.aload_n 0, 1) := by decide +kernel
theorem dX12_book_49 : decode cX12_book 49 = .ok (.invokevirtual 220, 3) := by decide +kernel
theorem dX12_book_52 : decode cX12_book 52 = .ok (.iconst 0, 1) := by decide +kernel
theorem dX12_book_53 : decode cX12_book 53 = .ok (.istore_n 1, 1) := by decide +kernel
theorem dX12_book_54 : decode cX12_book 54 = .ok (.iload_n 1, 1) := by decide +kernel
theorem dX12_book_55 : decode cX12_book 55 = .ok (.ifCond .ne 62, 3) := by decide +kernel
theorem dX12_book_58 : decode cX12_book 58 = .ok (.aload_n 0, 1) := by decide +kernel
theorem dX12_book_59 : decode cX12_book 59 = .ok (.invokevirtual 170, 3) := by decide +kernel
theorem dX12_book_62 : decode cX12_book 62 = .ok (.ifCond .lt 55, 3) := by decide +kernel
theorem dX12_book_65 : decode cX12_book 65 = .ok (.aload_n 0, 1) := by decide +kernel
theorem dX12_book_66 : decode cX12_book 66 = .ok (.invokevirtual 170, 3) := by decide +kernel
theorem dX12_book_69 : decode cX12_book 69 = .ok (.istore_n 2, 1) := by decide +kernel
theorem dX12_book_70 : decode cX12_book 70 = .ok (.iload_n 2, 1) := by decide +kernel
theorem dX12_book_71 : decode cX12_book 71 = .ok (.bipush 91, 2) := by decide +kernel
theorem dX12_book_73 : decode cX12_book 73 = .ok (.if_icmp .ne 10, 3) := by decide +kernel
theorem dX12_book_76 : decode cX12_book 76 = .ok (.aload_n 0, 1) := by decide +kernel
theorem dX12_book_77 : decode cX12_book 77 = .ok (.invokevirtual 223, 3) := by decide +kernel
theorem dX12_book_80 : decode cX12_book 80 = .ok (.goto 33, 3) := by decide +kernel
theorem dX12_book_83 : decode cX12_book 83 = .ok (.iload_n 2, 1) := by decide +kernel
theorem dX12_book_84 : decode cX12_book 84 = .ok (.bipush 124, 2) := by decide +kernel
theorem dX12_book_86 : decode cX12_book 86 = .ok (.if_icmp .ne 10, 3) := by decide +kernel
theorem dX12_book_89 : decode cX12_book 89 = .ok (.aload_n 0, 1) := by decide +kernel
theorem dX12_book_90 : decode cX12_book 90 = .ok (.invokevirtual 226, 3) := by decide +kernel
theorem dX12_book_93 : decode cX12_book 93 = .ok (.goto 20, 3) := by decide +kernel
theorem dX12_book_96 : decode cX12_book 96 = .ok (.iload_n 2, 1) := by decide +kernel
theorem dX12_book_97 : decode cX12_book 97 = .ok (.bipush 93, 2) := by decide +kernel
theorem dX12_book_99 : decode cX12_book 99 = .ok (.if_icmp .ne 10, 3) := by decide +kernel
theorem dX12_book_102 : decode cX12_book 102 = .ok (.aload_n 0, 1) := by decide +kernel
theorem dX12_book_103 : decode cX12_book 103 = .ok (.invokevirtual 229, 3) := by decide +kernel
theorem dX12_book_106 : decode cX12_book 106 = .ok (.goto 7, 3) := by decide +kernel
theorem dX12_book_109 : decode cX12_book 109 = .ok (.aload_n 0, 1) := by decide +kernel
theorem dX12_book_110 : decode cX12_book 110 = .ok (.invokevirtual 232, 3) := by decide +kernel
theorem dX12_book_113 : decode cX12_book 113 = .ok (.istore_n 1, 1) := by decide +kernel
theorem dX12_book_114 : decode cX12_book 114 = .ok (.goto (-60), 3) := by decide +kernel
theorem dX12_book_117 : decode cX12_book 117 = .ok (.iload_n 1, 1) := by decide +kernel
theorem dX12_book_118 : decode cX12_book 118 = .ok (.ifCond .ne 22, 3) := by decide +kernel
theorem dX12_book_121 : decode cX12_book 121 = .ok (.aload_n 0, 1) := by decide +kernel
theorem dX12_book_122 : decode cX12_book 122 = .ok (.getfield 214, 3) := by decide +kernel
theorem dX12_book_125 : decode cX12_book 125 = .ok (.ifCond .le 15, 3) := by decide +kernel
theorem dX12_book_128 : decode cX12_book 128 = .ok (.aload_n 0, 1) := by decide +kernel
theorem dX12_book_129 : decode cX12_book 129 = .ok (.iconst 1, 1) := by decide +kernel
theorem dX12_book_130 : decode cX12_book 130 = .ok (.aload_n 0, 1) := by decide +kernel
theorem dX12_book_131 : decode cX12_book 131 = .ok (.getfield 162, 3) := by decide +kernel
theorem dX12_book_134 : decode cX12_book 134 = .ok (.invokevirtual 178, 3) := by decide +kernel
theorem dX12_book_137 : decode cX12_book 137 = .ok (.goto 4, 3) := by decide +kernel
theorem dX12_book_140 : decode cX12_book 140 = .ok (.iload_n 1, 1) := by decide +kernel
theorem dX12_book_141 : decode cX12_book 141 = .ok (.istore_n 1, 1) := by decide +kernel
theorem dX12_book_142 : decode cX12_book 142 = .ok (.aload_n 0, 1) := by decide +kernel
theorem dX12_book_143 : decode cX12_book 143 = .ok (.iconst 0, 1) := by decide +kernel
theorem dX12_book_144 : decode cX12_book 144 = .ok (.putfield 162, 3) := by decide +kernel
theorem dX12_book_147 : decode cX12_book 147 = .ok (.iload_n 1, 1) := by decide +kernel
theorem dX12_book_148 : decode cX12_book 148 = .ok (.ifCond .le 8, 3) := by decide +kernel
theorem dX12_book_151 : decode cX12_book 151 = .ok (.bipush (-10), 2) := by decide +kernel
theorem dX12_book_153 : decode cX12_book 153 = .ok (.iload_n 1, 1) := by decide +kernel
theorem dX12_book_154 : decode cX12_book 154 = .ok (.isub, 1) := by decide +kernel
theorem dX12_book_155 : decode cX12_book 155 = .ok (.ireturn, 1) := by decide +kernel
theorem dX12_book_156 : decode cX12_book 156 = .ok (.aload_n 0, 1) := by decide +kernel
theorem dX12_book_157 : decode cX12_book 157 = .ok (.bipush 10, 2) := by decide +kernel
theorem dX12_book_159 : decode cX12_book 159 = .ok (.aload_n 0, 1) := by decide +kernel
theorem dX12_book_160 : decode cX12_book 160 = .ok (.getfield 151, 3) := by decide +kernel
theorem dX12_book_163 : decode cX12_book 163 = .ok (.invokevirtual 235, 3) := by decide +kernel
theorem dX12_book_166 : decode cX12_book 166 = .ok (.aload_n 0, 1) := by decide +kernel
theorem dX12_book_167 : decode cX12_book 167 = .ok (.dup, 1) := by decide +kernel
theorem dX12_book_168 : decode cX12_book 168 = .ok (.getfield 151, 3) := by decide +kernel
theorem dX12_book_171 : decode cX12_book 171 = .ok (.iconst 1, 1) := by decide +kernel
theorem dX12_book_172 : decode cX12_book 172 = .ok (.iadd, 1) := by decide +kernel
theorem dX12_book_173 : decode cX12_book 173 = .ok (.putfield 151, 3) := by decide +kernel
theorem dX12_book_176 : decode cX12_book 176 = .ok (.aload_n 0, 1) := by decide +kernel
theorem dX12_book_177 : decode cX12_book 177 = .ok (.getfield 151, 3) := by decide +kernel
theorem dX12_book_180 : decode cX12_book 180 = .ok (.iconst 1, 1) := by decide +kernel
theorem dX12_book_181 : decode cX12_book 181 = .ok (.isub, 1) := by decide +kernel
theorem dX12_book_182 : decode cX12_book 182 = .ok (.ireturn, 1) := by decide +kernel
theorem dX12_putBook_0 : decode cX12_putBook 0 = .ok (.aload_n 0, 1) := by decide +kernel
theorem dX12_putBook_1 : decode cX12_putBook 1 = .ok (.getfield 7, 3) := by decide +kernel
theorem dX12_putBook_4 : decode cX12_putBook 4 = .ok (.iload_n 2, 1) := by decide +kernel
theorem dX12_putBook_5 : decode cX12_putBook 5 = .ok (.aload_n 0, 1) := by decide +kernel
theorem dX12_putBook_6 : decode cX12_putBook 6 = .ok (.getfield 7, 3) := by decide +kernel
theorem dX12_putBook_9 : decode cX12_putBook 9 = .ok (.iload_n 1, 1) := by decide +kernel
theorem dX12_putBook_10 : decode cX12_putBook 10 = .ok (.iaload, 1) := by decide +kernel
theorem dX12_putBook_11 : decode cX12_putBook 11 = .ok (.iastore, 1) := by decide +kernel
theorem dX12_putBook_12 : decode cX12_putBook 12 = .ok (.iconst 0, 1) := by decide +kernel
theorem dX12_putBook_13 : decode cX12_putBook 13 = .ok (.istore_n 3, 1) := by decide +kernel
theorem dX12_putBook_14 : decode cX12_putBook 14 = .ok (.iload_n 3, 1) := by decide +kernel
theorem dX12_putBook_15 : decode cX12_putBook 15 = .ok (.bipush 40, 2) := by decide +kernel
theorem dX12_putBook_17 : decode cX12_putBook 17 = .ok (.if_icmp .ge 53, 3) := by decide +kernel
theorem dX12_putBook_20 : decode cX12_putBook 20 = .ok (.aload_n 0, 1) := by decide +kernel
theorem dX12_putBook_21 : decode cX12_putBook 21 = .ok (.getfield 13, 3) := by decide +kernel
theorem dX12_putBook_24 : decode cX12_putBook 24 = .ok (.bipush 40, 2) := by decide +kernel
theorem dX12_putBook_26 : decode cX12_putBook 26 = .ok (.iload_n 2, 1) := by decide +kernel
theorem dX12_putBook_27 : decode cX12_putBook 27 = .ok (.imul, 1) := by decide +kernel
theorem dX12_putBook_28 : decode cX12_putBook 28 = .ok (.iload_n 3, 1) := by decide +kernel
theorem dX12_putBook_29 : decode cX12_putBook 29 = .ok (.iadd, 1) := by decide +kernel
theorem dX12_putBook_30 : decode cX12_putBook 30 = .ok (.aload_n 0, 1) := by decide +kernel
theorem dX12_putBook_31 : decode cX12_putBook 31 = .ok (.getfield 13, 3) := by decide +kernel
theorem dX12_putBook_34 : decode cX12_putBook 34 = .ok (.bipush 40, 2) := by decide +kernel
theorem dX12_putBook_36 : decode cX12_putBook 36 = .ok (.iload_n 1, 1) := by decide +kernel
theorem dX12_putBook_37 : decode cX12_putBook 37 = .ok (.imul, 1) := by decide +kernel
theorem dX12_putBook_38 : decode cX12_putBook 38 = .ok (.iload_n 3, 1) := by decide +kernel
theorem dX12_putBook_39 : decode cX12_putBook 39 = .ok (.iadd, 1) := by decide +kernel
theorem dX12_putBook_40 : decode cX12_putBook 40 = .ok (.iaload, 1) := by decide +kernel
theorem dX12_putBook_41 : decode cX12_putBook 41 = .ok (.iastore, 1) := by decide +kernel
theorem dX12_putBook_42 : decode cX12_putBook 42 = .ok (.aload_n 0, 1) := by decide +kernel
theorem dX12_putBook_43 : decode cX12_putBook 43 = .ok (.getfield 16, 3) := by decide +kernel
theorem dX12_putBook_46 : decode cX12_putBook 46 = .ok (.bipush 40, 2) := by decide +kernel
theorem dX12_putBook_48 : decode cX12_putBook 48 = .ok (.iload_n 2, 1) := by decide +kernel
theorem dX12_putBook_49 : decode cX12_putBook 49 = .ok (.imul, 1) := by decide +kernel
theorem dX12_putBook_50 : decode cX12_putBook 50 = .ok (.iload_n 3, 1) := by decide +kernel
theorem dX12_putBook_51 : decode cX12_putBook 51 = .ok (.iadd, 1) := by decide +kernel
theorem dX12_putBook_52 : decode cX12_putBook 52 = .ok (.aload_n 0, 1) := by decide +kernel
theorem dX12_putBook_53 : decode cX12_putBook 53 = .ok (.getfield 16, 3) := by decide +kernel
theorem dX12_putBook_56 : decode cX12_putBook 56 = .ok (.bipush 40, 2) := by decide +kernel
theorem dX12_putBook_58 : decode cX12_putBook 58 = .ok (.iload_n 1, 1) := by decide +kernel
theorem dX12_putBook_59 : decode cX12_putBook 59 = .ok (.imul, 1) := by decide +kernel
theorem dX12_putBook_60 : decode cX12_putBook 60 = .ok (.iload_n 3, 1) := by decide +kernel
theorem dX12_putBook_61 : decode cX12_putBook 61 = .ok (.iadd, 1) := by decide +kernel
theorem dX12_putBook_62 : decode cX12_putBook 62 = .ok (.iaload, 1) := by decide +kernel
theorem dX12_putBook_63 : decode cX12_putBook 63 = .ok (.iastore, 1) := by decide +kernel
theorem dX12_putBook_64 : decode cX12_putBook 64 = .ok (.iinc 3 1, 3) := by decide +kernel
theorem dX12_putBook_67 : decode cX12_putBook 67 = .ok (.goto (-53), 3) := by decide +kernel
theorem dX12_putBook_70 : decode cX12_putBook 70 = .ok (.aload_n 0, 1) := by decide +kernel
theorem dX12_putBook_71 : decode cX12_putBook 71 = .ok (.getfield 19, 3) := by decide +kernel
theorem dX12_putBook_74 : decode cX12_putBook 74 = .ok (.iload_n 2, 1) := by decide +kernel
theorem dX12_putBook_75 : decode cX12_putBook 75 = .ok (.aload_n 0, 1) := by decide +kernel
theorem dX12_putBook_76 : decode cX12_putBook 76 = .ok (.getfield 19, 3) := by decide +kernel
theorem dX12_putBook_79 : decode cX12_putBook 79 = .ok (.iload_n 1, 1) := by decide +kernel
theorem dX12_putBook_80 : decode cX12_putBook 80 = .ok (.iaload, 1) := by decide +kernel
theorem dX12_putBook_81 : decode cX12_putBook 81 = .ok (.iastore, 1) := by decide +kernel
theorem dX12_putBook_82 : decode cX12_putBook 82 = .ok (.iconst 0, 1) := by decide +kernel
theorem dX12_putBook_83 : decode cX12_putBook 83 = .ok (.istore_n 3, 1) := by decide +kernel
theorem dX12_putBook_84 : decode cX12_putBook 84 = .ok (.iload_n 3, 1) := by decide +kernel
theorem dX12_putBook_85 : decode cX12_putBook 85 = .ok (.bipush 20, 2) := by decide +kernel
theorem dX12_putBook_87 : decode cX12_putBook 87 = .ok (.if_icmp .ge 25, 3) := by decide +kernel
theorem dX12_putBook_90 : decode cX12_putBook 90 = .ok (.aload_n 0, 1) := by decide +kernel
theorem dX12_putBook_91 : decode cX12_putBook 91 = .ok (.bipush 20, 2) := by decide +kernel
theorem dX12_putBook_93 : decode cX12_putBook 93 = .ok (.iload_n 1, 1) := by decide +kernel
theorem dX12_putBook_94 : decode cX12_putBook 94 = .ok (.imul, 1) := by decide +kernel
theorem dX12_putBook_95 : decode cX12_putBook 95 = .ok (.iload_n 3, 1) := by decide +kernel
theorem dX12_putBook_96 : decode cX12_putBook 96 = .ok (.iadd, 1) := by decide +kernel
theorem dX12_putBook_97 : decode cX12_putBook 97 = .ok (.bipush 20, 2) := by decide +kernel
theorem dX12_putBook_99 : decode cX12_putBook 99 = .ok (.iload_n 2, 1) := by decide +kernel
theorem dX12_putBook_100 : decode cX12_putBook 100 = .ok (.imul, 1) := by decide +kernel
theorem dX12_putBook_101 : decode cX12_putBook 101 = .ok (.iload_n 3, 1) := by decide +kernel
theorem dX12_putBook_102 : decode cX12_putBook 102 = .ok (.iadd, 1) := by decide +kernel
theorem dX12_putBook_103 : decode cX12_putBook 103 = .ok (.invokevirtual 239, 3) := by decide +kernel
theorem dX12_putBook_106 : decode cX12_putBook 106 = .ok (.iinc 3 1, 3) := by decide +kernel
theorem dX12_putBook_109 : decode cX12_putBook 109 = .ok (.goto (-25), 3) := by decide +kernel
theorem dX12_putBook_112 : decode cX12_putBook 112 = .ok (.aload_n 0, 1) := by decide +kernel
theorem dX12_putBook_113 : decode cX12_putBook 113 = .ok (.getfield 40, 3) := by decide +kernel
theorem dX12_putBook_116 : decode cX12_putBook 116 = .ok (.iload_n 2, 1) := by decide +kernel
theorem dX12_putBook_117 : decode cX12_putBook 117 = .ok (.aload_n 0, 1) := by decide +kernel
theorem dX12_putBook_118 : decode cX12_putBook 118 = .ok (.getfield 40, 3) := by decide +kernel
theorem dX12_putBook_121 : decode cX12_putBook 121 = .ok (.iload_n 1, 1) := by decide +kernel
theorem dX12_putBook_122 : decode cX12_putBook 122 = .ok (.iaload, 1) := by decide +kernel
theorem dX12_putBook_123 : decode cX12_putBook 123 = .ok (.iastore, 1) := by decide +kernel
theorem dX12_putBook_124 : decode cX12_putBook 124 = .ok (.aload_n 0, 1) := by decide +kernel
theorem dX12_putBook_125 : decode cX12_putBook 125 = .ok (.getfield 43, 3) := by decide +kernel
theorem dX12_putBook_128 : decode cX12_putBook 128 = .ok (.iload_n 2, 1) := by decide +kernel
theorem dX12_putBook_129 : decode cX12_putBook 129 = .ok (.aload_n 0, 1) := by decide +kernel
theorem dX12_putBook_130 : decode cX12_putBook 130 = .ok (.getfield 43, 3) := by decide +kernel
theorem dX12_putBook_133 : decode cX12_putBook 133 = .ok (.iload_n 1, 1) := by decide +kernel
theorem dX12_putBook_134 : decode cX12_putBook 134 = .ok (.iaload, 1) := by decide +kernel
theorem dX12_putBook_135 : decode cX12_putBook 135 = .ok (.iastore, 1) := by decide +kernel
theorem dX12_putBook_136 : decode cX12_putBook 136 = .ok (.iconst 0, 1) := by decide +kernel
theorem dX12_putBook_137 : decode cX12_putBook 137 = .ok (.istore_n 3, 1) := by decide +kernel
theorem dX12_putBook_138 : decode cX12_putBook 138 = .ok (.iload_n 3, 1) := by decide +kernel
theorem dX12_putBook_139 : decode cX12_putBook 139 = .ok (.bipush 6, 2) := by decide +kernel
theorem dX12_putBook_141 : decode cX12_putBook 141 = .ok (.if_icmp .ge 53, 3) := by decide +kernel
theorem dX12_putBook_144 : decode cX12_putBook 144 = .ok (.aload_n 0, 1) := by decide +kernel
theorem dX12_putBook_145 : decode cX12_putBook 145 = .ok (.getfield 46, 3) := by decide +kernel
theorem dX12_putBook_148 : decode cX12_putBook 148 = .ok (.bipush 6, 2) := by decide +kernel
theorem dX12_putBook_150 : decode cX12_putBook 150 = .ok (.iload_n 2, 1) := by decide +kernel
theorem dX12_putBook_151 : decode cX12_putBook 151 = .ok (.imul, 1) := by decide +kernel
theorem dX12_putBook_152 : decode cX12_putBook 152 = .ok (.iload_n 3, 1) := by decide +kernel
theorem dX12_putBook_153 : decode cX12_putBook 153 = .ok (.iadd, 1) := by decide +kernel
theorem dX12_putBook_154 : decode cX12_putBook 154 = .ok (.aload_n 0, 1) := by decide +kernel
theorem dX12_putBook_155 : decode cX12_putBook 155 = .ok (.getfield 46, 3) := by decide +kernel
theorem dX12_putBook_158 : decode cX12_putBook 158 = .ok (.bipush 6, 2) := by decide +kernel
theorem dX12_putBook_160 : decode cX12_putBook 160 = .ok (.iload_n 1, 1) := by decide +kernel
theorem dX12_putBook_161 : decode cX12_putBook 161 = .ok (.imul, 1) := by decide +kernel
theorem dX12_putBook_162 : decode cX12_putBook 162 = .ok (.iload_n 3, 1) := by decide +kernel
theorem dX12_putBook_163 : decode cX12_putBook 163 = .ok (.iadd, 1) := by decide +kernel
theorem dX12_putBook_164 : decode cX12_putBook 164 = .ok (.iaload, 1) := by decide +kernel
theorem dX12_putBook_165 : decode cX12_putBook 165 = .ok (.iastore, 1) := by decide +kernel
theorem dX12_putBook_166 : decode cX12_putBook 166 = .ok (.aload_n 0, 1) := by decide +kernel
theorem dX12_putBook_167 : decode cX12_putBook 167 = .ok (.getfield 49, 3) := by decide +kernel
theorem dX12_putBook_170 : decode cX12_putBook 170 = .ok (.bipush 6, 2) := by decide +kernel
theorem dX12_putBook_172 : decode cX12_putBook 172 = .ok (.iload_n 2, 1) := by decide +kernel
theorem dX12_putBook_173 : decode cX12_putBook 173 = .ok (.imul, 1) := by decide +kernel
theorem dX12_putBook_174 : decode cX12_putBook 174 = .ok (.iload_n 3, 1) := by decide +kernel
theorem dX12_putBook_175 : decode cX12_putBook 175 = .ok (.iadd, 1) := by decide +kernel
theorem dX12_putBook_176 : decode cX12_putBook 176 = .ok (.aload_n 0, 1) := by decide +kernel
theorem dX12_putBook_177 : decode cX12_putBook 177 = .ok (.getfield 49, 3) := by decide +kernel
theorem dX12_putBook_180 : decode cX12_putBook 180 = .ok (.bipush 6, 2) := by decide +kernel
theorem dX12_putBook_182 : decode cX12_putBook 182 = .ok (.iload_n 1, 1) := by decide +kernel
theorem dX12_putBook_183 : decode cX12_putBook 183 = .ok (.imul, 1) := by decide +kernel
theorem dX12_putBook_184 : decode cX12_putBook 184 = .ok (.iload_n 3, 1) := by decide +kernel
theorem dX12_putBook_185 : decode cX12_putBook 185 = .ok (.iadd, 1) := by decide +kernel
theorem dX12_putBook_186 : decode cX12_putBook 186 = .ok (.iaload, 1) := by decide +kernel
theorem dX12_putBook_187 : decode cX12_putBook 187 = .ok (.iastore, 1) := by decide +kernel
theorem dX12_putBook_188 : decode cX12_putBook 188 = .ok (.iinc 3 1, 3) := by decide +kernel
theorem dX12_putBook_191 : decode cX12_putBook 191 = .ok (.goto (-53), 3) := by decide +kernel
theorem dX12_putBook_194 : decode cX12_putBook 194 = .ok (.return_, 1) := by decide +kernel
theorem dX12_putGloss_0 : decode cX12_putGloss 0 = .ok (.aload_n 0, 1) := by decide +kernel
theorem dX12_putGloss_1 : decode cX12_putGloss 1 = .ok (.getfield 22, 3) := by decide +kernel
theorem dX12_putGloss_4 : decode cX12_putGloss 4 = .ok (.iload_n 2, 1) := by decide +kernel
theorem dX12_putGloss_5 : decode cX12_putGloss 5 = .ok (.aload_n 0, 1) := by decide +kernel
theorem dX12_putGloss_6 : decode cX12_putGloss 6 = .ok (.getfield 22, 3) := by decide +kernel
theorem dX12_putGloss_9 : decode cX12_putGloss 9 = .ok (.iload_n 1, 1) := by decide +kernel
theorem dX12_putGloss_10 : decode cX12_putGloss 10 = .ok (.iaload, 1) := by decide +kernel
theorem dX12_putGloss_11 : decode cX12_putGloss 11 = .ok (.iastore, 1) := by decide +kernel
theorem dX12_putGloss_12 : decode cX12_putGloss 12 = .ok (.aload_n 0, 1) := by decide +kernel
theorem dX12_putGloss_13 : decode cX12_putGloss 13 = .ok (.getfield 25, 3) := by decide +kernel
theorem dX12_putGloss_16 : decode cX12_putGloss 16 = .ok (.iload_n 2, 1) := by decide +kernel
theorem dX12_putGloss_17 : decode cX12_putGloss 17 = .ok (.aload_n 0, 1) := by decide +kernel
theorem dX12_putGloss_18 : decode cX12_putGloss 18 = .ok (.getfield 25, 3) := by decide +kernel
theorem dX12_putGloss_21 : decode cX12_putGloss 21 = .ok (.iload_n 1, 1) := by decide +kernel
theorem dX12_putGloss_22 : decode cX12_putGloss 22 = .ok (.iaload, 1) := by decide +kernel
theorem dX12_putGloss_23 : decode cX12_putGloss 23 = .ok (.iastore, 1) := by decide +kernel
theorem dX12_putGloss_24 : decode cX12_putGloss 24 = .ok (.aload_n 0, 1) := by decide +kernel
theorem dX12_putGloss_25 : decode cX12_putGloss 25 = .ok (.getfield 28, 3) := by decide +kernel
theorem dX12_putGloss_28 : decode cX12_putGloss 28 = .ok (.iload_n 2, 1) := by decide +kernel
theorem dX12_putGloss_29 : decode cX12_putGloss 29 = .ok (.aload_n 0, 1) := by decide +kernel
theorem dX12_putGloss_30 : decode cX12_putGloss 30 = .ok (.getfield 28, 3) := by decide +kernel
theorem dX12_putGloss_33 : decode cX12_putGloss 33 = .ok (.iload_n 1, 1) := by decide +kernel
theorem dX12_putGloss_34 : decode cX12_putGloss 34 = .ok (.iaload, 1) := by decide +kernel
theorem dX12_putGloss_35 : decode cX12_putGloss 35 = .ok (.iastore, 1) := by decide +kernel
theorem dX12_putGloss_36 : decode cX12_putGloss 36 = .ok (.aload_n 0, 1) := by decide +kernel
theorem dX12_putGloss_37 : decode cX12_putGloss 37 = .ok (.getfield 31, 3) := by decide +kernel
theorem dX12_putGloss_40 : decode cX12_putGloss 40 = .ok (.iload_n 2, 1) := by decide +kernel
theorem dX12_putGloss_41 : decode cX12_putGloss 41 = .ok (.aload_n 0, 1) := by decide +kernel
theorem dX12_putGloss_42 : decode cX12_putGloss 42 = .ok (.getfield 31, 3) := by decide +kernel
theorem dX12_putGloss_45 : decode cX12_putGloss 45 = .ok (.iload_n 1, 1) := by decide +kernel
theorem dX12_putGloss_46 : decode cX12_putGloss 46 = .ok (.iaload, 1) := by decide +kernel
theorem dX12_putGloss_47 : decode cX12_putGloss 47 = .ok (.iastore, 1) := by decide +kernel
theorem dX12_putGloss_48 : decode cX12_putGloss 48 = .ok (.iconst 0, 1) := by decide +kernel
theorem dX12_putGloss_49 : decode cX12_putGloss 49 = .ok (.istore_n 3, 1) := by decide +kernel
theorem dX12_putGloss_50 : decode cX12_putGloss 50 = .ok (.iload_n 3, 1) := by decide +kernel
theorem dX12_putGloss_51 : decode cX12_putGloss 51 = .ok (.bipush 8, 2) := by decide +kernel
theorem dX12_putGloss_53 : decode cX12_putGloss 53 = .ok (.if_icmp .ge 53, 3) := by decide +kernel
theorem dX12_putGloss_56 : decode cX12_putGloss 56 = .ok (.aload_n 0, 1) := by decide +kernel
theorem dX12_putGloss_57 : decode cX12_putGloss 57 = .ok (.getfield 34, 3) := by decide +kernel
theorem dX12_putGloss_60 : decode cX12_putGloss 60 = .ok (.bipush 8, 2) := by decide +kernel
theorem dX12_putGloss_62 : decode cX12_putGloss 62 = .ok (.iload_n 2, 1) := by decide +kernel
theorem dX12_putGloss_63 : decode cX12_putGloss 63 = .ok (.imul, 1) := by decide +kernel
theorem dX12_putGloss_64 : decode cX12_putGloss 64 = .ok (.iload_n 3, 1) := by decide +kernel
theorem dX12_putGloss_65 : decode cX12_putGloss 65 = .ok (.iadd, 1) := by decide +kernel
theorem dX12_putGloss_66 : decode cX12_putGloss 66 = .ok (.aload_n 0, 1) := by decide +kernel
theorem dX12_putGloss_67 : decode cX12_putGloss 67 = .ok (.getfield 34, 3) := by decide +kernel
theorem dX12_putGloss_70 : decode cX12_putGloss 70 = .ok (.bipush 8, 2) := by decide +kernel
theorem dX12_putGloss_72 : decode cX12_putGloss 72 = .ok (.iload_n 1, 1) := by decide +kernel
theorem dX12_putGloss_73 : decode cX12_putGloss 73 = .ok (.imul, 1) := by decide +kernel
theorem dX12_putGloss_74 : decode cX12_putGloss 74 = .ok (.iload_n 3, 1) := by decide +kernel
theorem dX12_putGloss_75 : decode cX12_putGloss 75 = .ok (.iadd, 1) := by decide +kernel
theorem dX12_putGloss_76 : decode cX12_putGloss 76 = .ok (.iaload, 1) := by decide +kernel
theorem dX12_putGloss_77 : decode cX12_putGloss 77 = .ok (.iastore, 1) := by decide +kernel
theorem dX12_putGloss_78 : decode cX12_putGloss 78 = .ok (.aload_n 0, 1) := by decide +kernel
theorem dX12_putGloss_79 : decode cX12_putGloss 79 = .ok (.getfield 37, 3) := by decide +kernel
theorem dX12_putGloss_82 : decode cX12_putGloss 82 = .ok (.bipush 8, 2) := by decide +kernel
theorem dX12_putGloss_84 : decode cX12_putGloss 84 = .ok (.iload_n 2, 1) := by decide +kernel
theorem dX12_putGloss_85 : decode cX12_putGloss 85 = .ok (.imul, 1) := by decide +kernel
theorem dX12_putGloss_86 : decode cX12_putGloss 86 = .ok (.iload_n 3, 1) := by decide +kernel
theorem dX12_putGloss_87 : decode cX12_putGloss 87 = .ok (.iadd, 1) := by decide +kernel
theorem dX12_putGloss_88 : decode cX12_putGloss 88 = .ok (.aload_n 0, 1) := by decide +kernel
theorem dX12_putGloss_89 : decode cX12_putGloss 89 = .ok (.getfield 37, 3) := by decide +kernel
theorem dX12_putGloss_92 : decode cX12_putGloss 92 = .ok (.bipush 8, 2) := by decide +kernel
theorem dX12_putGloss_94 : decode cX12_putGloss 94 = .ok (.iload_n 1, 1) := by decide +kernel
theorem dX12_putGloss_95 : decode cX12_putGloss 95 = .ok (.imul, 1) := by decide +kernel
theorem dX12_putGloss_96 : decode cX12_putGloss 96 = .ok (.iload_n 3, 1) := by decide +kernel
theorem dX12_putGloss_97 : decode cX12_putGloss 97 = .ok (.iadd, 1) := by decide +kernel
theorem dX12_putGloss_98 : decode cX12_putGloss 98 = .ok (.iaload, 1) := by decide +kernel
theorem dX12_putGloss_99 : decode cX12_putGloss 99 = .ok (.iastore, 1) := by decide +kernel
theorem dX12_putGloss_100 : decode cX12_putGloss 100 = .ok (.iinc 3 1, 3) := by decide +kernel
theorem dX12_putGloss_103 : decode cX12_putGloss 103 = .ok (.goto (-53), 3) := by decide +kernel
theorem dX12_putGloss_106 : decode cX12_putGloss 106 = .ok (.return_, 1) := by decide +kernel
theorem dX12_bareHand_0 : decode cX12_bareHand 0 = .ok (.aload_n 0, 1) := by decide +kernel
theorem dX12_bareHand_1 : decode cX12_bareHand 1 = .ok (.iconst 0, 1) := by decide +kernel
theorem dX12_bareHand_2 : decode cX12_bareHand 2 = .ok (.putfield 242, 3) := by decide +kernel
theorem dX12_bareHand_5 : decode cX12_bareHand 5 = .ok (.aload_n 0, 1) := by decide +kernel
theorem dX12_bareHand_6 : decode cX12_bareHand 6 = .ok (.iconst (-1), 1) := by decide +kernel
theorem dX12_bareHand_7 : decode cX12_bareHand 7 = .ok (.putfield 245, 3) := by decide +kernel
theorem dX12_bareHand_10 : decode cX12_bareHand 10 = .ok (.aload_n 0, 1) := by decide +kernel
theorem dX12_bareHand_11 : decode cX12_bareHand 11 = .ok (.iconst (-1), 1) := by decide +kernel
theorem dX12_bareHand_12 : decode cX12_bareHand 12 = .ok (.putfield 248, 3) := by decide +kernel
theorem dX12_bareHand_15 : decode cX12_bareHand 15 = .ok (.iconst 0, 1) := by decide +kernel
theorem dX12_bareHand_16 : decode cX12_bareHand 16 = .ok (.istore_n 1, 1) := by decide +kernel
theorem dX12_bareHand_17 : decode cX12_bareHand 17 = .ok (.iload_n 1, 1) := by decide +kernel
theorem dX12_bareHand_18 : decode cX12_bareHand 18 = .ok (.bipush 6, 2) := by decide +kernel
theorem dX12_bareHand_20 : decode cX12_bareHand 20 = .ok (.if_icmp .ge 16, 3) := by decide +kernel
theorem dX12_bareHand_23 : decode cX12_bareHand 23 = .ok (.aload_n 0, 1) := by decide +kernel
theorem dX12_bareHand_24 : decode cX12_bareHand 24 = .ok (.getfield 95, 3) := by decide +kernel
theorem dX12_bareHand_27 : decode cX12_bareHand 27 = .ok (.iload_n 1, 1) := by decide +kernel
theorem dX12_bareHand_28 : decode cX12_bareHand 28 = .ok (.iconst (-1), 1) := by decide +kernel
theorem dX12_bareHand_29 : decode cX12_bareHand 29 = .ok (.iastore, 1) := by decide +kernel
theorem dX12_bareHand_30 : decode cX12_bareHand 30 = .ok (.iinc 1 1, 3) := by decide +kernel
theorem dX12_bareHand_33 : decode cX12_bareHand 33 = .ok (.goto (-16), 3) := by decide +kernel
theorem dX12_bareHand_36 : decode cX12_bareHand 36 = .ok (.return_, 1) := by decide +kernel
theorem dX12_keepHand_0 : decode cX12_keepHand 0 = .ok (.aload_n 0, 1) := by decide +kernel
theorem dX12_keepHand_1 : decode cX12_keepHand 1 = .ok (.getfield 65, 3) := by decide +kernel
theorem dX12_keepHand_4 : decode cX12_keepHand 4 = .ok (.iload_n 1, 1) := by decide +kernel
theorem dX12_keepHand_5 : decode cX12_keepHand 5 = .ok (.aload_n 0, 1) := by decide +kernel
theorem dX12_keepHand_6 : decode cX12_keepHand 6 = .ok (.getfield 242, 3) := by decide +kernel
theorem dX12_keepHand_9 : decode cX12_keepHand 9 = .ok (.iastore, 1) := by decide +kernel
theorem dX12_keepHand_10 : decode cX12_keepHand 10 = .ok (.iconst 0, 1) := by decide +kernel
theorem dX12_keepHand_11 : decode cX12_keepHand 11 = .ok (.istore_n 2, 1) := by decide +kernel
theorem dX12_keepHand_12 : decode cX12_keepHand 12 = .ok (.iload_n 2, 1) := by decide +kernel
theorem dX12_keepHand_13 : decode cX12_keepHand 13 = .ok (.iconst 4, 1) := by decide +kernel
theorem dX12_keepHand_14 : decode cX12_keepHand 14 = .ok (.if_icmp .ge 57, 3) := by decide +kernel
theorem dX12_keepHand_17 : decode cX12_keepHand 17 = .ok (.aload_n 0, 1) := by decide +kernel
theorem dX12_keepHand_18 : decode cX12_keepHand 18 = .ok (.getfield 68, 3) := by decide +kernel
theorem dX12_keepHand_21 : decode cX12_keepHand 21 = .ok (.iconst 4, 1) := by decide +kernel
theorem dX12_keepHand_22 : decode cX12_keepHand 22 = .ok (.iload_n 1, 1) := by decide +kernel
theorem dX12_keepHand_23 : decode cX12_keepHand 23 = .ok (.imul, 1) := by decide +kernel
theorem dX12_keepHand_24 : decode cX12_keepHand 24 = .ok (.iload_n 2, 1) := by decide +kernel
theorem dX12_keepHand_25 : decode cX12_keepHand 25 = .ok (.iadd, 1) := by decide +kernel
theorem dX12_keepHand_26 : decode cX12_keepHand 26 = .ok (.aload_n 0, 1) := by decide +kernel
theorem dX12_keepHand_27 : decode cX12_keepHand 27 = .ok (.getfield 86, 3) := by decide +kernel
theorem dX12_keepHand_30 : decode cX12_keepHand 30 = .ok (.iload_n 2, 1) := by decide +kernel
theorem dX12_keepHand_31 : decode cX12_keepHand 31 = .ok (.iaload, 1) := by decide +kernel
theorem dX12_keepHand_32 : decode cX12_keepHand 32 = .ok (.iastore, 1) := by decide +kernel
theorem dX12_keepHand_33 : decode cX12_keepHand 33 = .ok (.aload_n 0, 1) := by decide +kernel
theorem dX12_keepHand_34 : decode cX12_keepHand 34 = .ok (.getfield 71, 3) := by decide +kernel
theorem dX12_keepHand_37 : decode cX12_keepHand 37 = .ok (.iconst 4, 1) := by decide +kernel
theorem dX12_keepHand_38 : decode cX12_keepHand 38 = .ok (.iload_n 1, 1) := by decide +kernel
theorem dX12_keepHand_39 : decode cX12_keepHand 39 = .ok (.imul, 1) := by decide +kernel
theorem dX12_keepHand_40 : decode cX12_keepHand 40 = .ok (.iload_n 2, 1) := by decide +kernel
theorem dX12_keepHand_41 : decode cX12_keepHand 41 = .ok (.iadd, 1) := by decide +kernel
theorem dX12_keepHand_42 : decode cX12_keepHand 42 = .ok (.aload_n 0, 1) := by decide +kernel
theorem dX12_keepHand_43 : decode cX12_keepHand 43 = .ok (.getfield 89, 3) := by decide +kernel
theorem dX12_keepHand_46 : decode cX12_keepHand 46 = .ok (.iload_n 2, 1) := by decide +kernel
theorem dX12_keepHand_47 : decode cX12_keepHand 47 = .ok (.iaload, 1) := by decide +kernel
theorem dX12_keepHand_48 : decode cX12_keepHand 48 = .ok (.iastore, 1) := by decide +kernel
theorem dX12_keepHand_49 : decode cX12_keepHand 49 = .ok (.aload_n 0, 1) := by decide +kernel
theorem dX12_keepHand_50 : decode cX12_keepHand 50 = .ok (.getfield 74, 3) := by decide +kernel
theorem dX12_keepHand_53 : decode cX12_keepHand 53 = .ok (.iconst 4, 1) := by decide +kernel
theorem dX12_keepHand_54 : decode cX12_keepHand 54 = .ok (.iload_n 1, 1) := by decide +kernel
theorem dX12_keepHand_55 : decode cX12_keepHand 55 = .ok (.imul, 1) := by decide +kernel
theorem dX12_keepHand_56 : decode cX12_keepHand 56 = .ok (.iload_n 2, 1) := by decide +kernel
theorem dX12_keepHand_57 : decode cX12_keepHand 57 = .ok (.iadd, 1) := by decide +kernel
theorem dX12_keepHand_58 : decode cX12_keepHand 58 = .ok (.aload_n 0, 1) := by decide +kernel
theorem dX12_keepHand_59 : decode cX12_keepHand 59 = .ok (.getfield 92, 3) := by decide +kernel
theorem dX12_keepHand_62 : decode cX12_keepHand 62 = .ok (.iload_n 2, 1) := by decide +kernel
theorem dX12_keepHand_63 : decode cX12_keepHand 63 = .ok (.iaload, 1) := by decide +kernel
theorem dX12_keepHand_64 : decode cX12_keepHand 64 = .ok (.iastore, 1) := by decide +kernel
theorem dX12_keepHand_65 : decode cX12_keepHand 65 = .ok (.iinc 2 1, 3) := by decide +kernel
theorem dX12_keepHand_68 : decode cX12_keepHand 68 = .ok (.goto (-56), 3) := by decide +kernel
theorem dX12_keepHand_71 : decode cX12_keepHand 71 = .ok (.iconst 0, 1) := by decide +kernel
theorem dX12_keepHand_72 : decode cX12_keepHand 72 = .ok (.istore_n 2, 1) := by decide +kernel
theorem dX12_keepHand_73 : decode cX12_keepHand 73 = .ok (.iload_n 2, 1) := by decide +kernel
theorem dX12_keepHand_74 : decode cX12_keepHand 74 = .ok (.bipush 6, 2) := by decide +kernel
theorem dX12_keepHand_76 : decode cX12_keepHand 76 = .ok (.if_icmp .ge 26, 3) := by decide +kernel
theorem dX12_keepHand_79 : decode cX12_keepHand 79 = .ok (.aload_n 0, 1) := by decide +kernel
theorem dX12_keepHand_80 : decode cX12_keepHand 80 = .ok (.getfield 77, 3) := by decide +kernel
theorem dX12_keepHand_83 : decode cX12_keepHand 83 = .ok (.bipush 6, 2) := by decide +kernel
theorem dX12_keepHand_85 : decode cX12_keepHand 85 = .ok (.iload_n 1, 1) := by decide +kernel
theorem dX12_keepHand_86 : decode cX12_keepHand 86 = .ok (.imul, 1) := by decide +kernel
theorem dX12_keepHand_87 : decode cX12_keepHand 87 = .ok (.iload_n 2, 1) := by decide +kernel
theorem dX12_keepHand_88 : decode cX12_keepHand 88 = .ok (.iadd, 1) := by decide +kernel
theorem dX12_keepHand_89 : decode cX12_keepHand 89 = .ok (.aload_n 0, 1) := by decide +kernel
theorem dX12_keepHand_90 : decode cX12_keepHand 90 = .ok (.getfield 95, 3) := by decide +kernel
theorem dX12_keepHand_93 : decode cX12_keepHand 93 = .ok (.iload_n 2, 1) := by decide +kernel
theorem dX12_keepHand_94 : decode cX12_keepHand 94 = .ok (.iaload, 1) := by decide +kernel
theorem dX12_keepHand_95 : decode cX12_keepHand 95 = .ok (.iastore, 1) := by decide +kernel
theorem dX12_keepHand_96 : decode cX12_keepHand 96 = .ok (.iinc 2 1, 3) := by decide +kernel
theorem dX12_keepHand_99 : decode cX12_keepHand 99 = .ok (.goto (-26), 3) := by decide +kernel
theorem dX12_keepHand_102 : decode cX12_keepHand 102 = .ok (.aload_n 0, 1) := by decide +kernel
theorem dX12_keepHand_103 : decode cX12_keepHand 103 = .ok (.getfield 80, 3) := by decide +kernel
theorem dX12_keepHand_106 : decode cX12_keepHand 106 = .ok (.iload_n 1, 1) := by decide +kernel
theorem dX12_keepHand_107 : decode cX12_keepHand 107 = .ok (.aload_n 0, 1) := by decide +kernel
theorem dX12_keepHand_108 : decode cX12_keepHand 108 = .ok (.getfield 245, 3) := by decide +kernel
theorem dX12_keepHand_111 : decode cX12_keepHand 111 = .ok (.iastore, 1) := by decide +kernel
theorem dX12_keepHand_112 : decode cX12_keepHand 112 = .ok (.aload_n 0, 1) := by decide +kernel
theorem dX12_keepHand_113 : decode cX12_keepHand 113 = .ok (.getfield 83, 3) := by decide +kernel
theorem dX12_keepHand_116 : decode cX12_keepHand 116 = .ok (.iload_n 1, 1) := by decide +kernel
theorem dX12_keepHand_117 : decode cX12_keepHand 117 = .ok (.aload_n 0, 1) := by decide +kernel
theorem dX12_keepHand_118 : decode cX12_keepHand 118 = .ok (.getfield 248, 3) := by decide +kernel
theorem dX12_keepHand_121 : decode cX12_keepHand 121 = .ok (.iastore, 1) := by decide +kernel
theorem dX12_keepHand_122 : decode cX12_keepHand 122 = .ok (.return_, 1) := by decide +kernel
theorem dX12_readWord_0 : decode cX12_readWord 0 = .ok (.aload_n 0, 1) := by decide +kernel
theorem dX12_readWord_1 : decode cX12_readWord 1 = .ok (.invokevirtual 170, 3) := by decide +kernel
theorem dX12_readWord_4 : decode cX12_readWord 4 = .ok (.istore_n 1, 1) := by decide +kernel
theorem dX12_readWord_5 : decode cX12_readWord 5 = .ok (.aload_n 0, 1) := by decide +kernel
theorem dX12_readWord_6 : decode cX12_readWord 6 = .ok (.lconst 0, 1) := by decide +kernel
theorem dX12_readWord_7 : decode cX12_readWord 7 = .ok (.putfield 251, 3) := by decide +kernel
theorem dX12_readWord_10 : decode cX12_readWord 10 = .ok (.aload_n 0, 1) := by decide +kernel
theorem dX12_readWord_11 : decode cX12_readWord 11 = .ok (.aload_n 0, 1) := by decide +kernel
theorem dX12_readWord_12 : decode cX12_readWord 12 = .ok (.getfield 167, 3) := by decide +kernel
theorem dX12_readWord_15 : decode cX12_readWord 15 = .ok (.putfield 255, 3) := by decide +kernel
theorem dX12_readWord_18 : decode cX12_readWord 18 = .ok (.aload_n 0, 1) := by decide +kernel
theorem dX12_readWord_19 : decode cX12_readWord 19 = .ok (.getfield 255, 3) := by decide +kernel
theorem dX12_readWord_22 : decode cX12_readWord 22 = .ok (.aload_n 0, 1) := by decide +kernel
theorem dX12_readWord_23 : decode cX12_readWord 23 = .ok (.getfield 162, 3) := by decide +kernel
theorem dX12_readWord_26 : decode cX12_readWord 26 = .ok (.if_icmp .ge 82, 3) := by decide +kernel
theorem dX12_readWord_29 : decode cX12_readWord 29 = .ok (.aload_n 0, 1) := by decide +kernel
theorem dX12_readWord_30 : decode cX12_readWord 30 = .ok (.getfield 52, 3) := by decide +kernel
theorem dX12_readWord_33 : decode cX12_readWord 33 = .ok (.aload_n 0, 1) := by decide +kernel
theorem dX12_readWord_34 : decode cX12_readWord 34 = .ok (.getfield 255, 3) := by decide +kernel
theorem dX12_readWord_37 : decode cX12_readWord 37 = .ok (.iaload, 1) := by decide +kernel
theorem dX12_readWord_38 : decode cX12_readWord 38 = .ok (.i2l, 1) := by decide +kernel
theorem dX12_readWord_39 : decode cX12_readWord 39 = .ok (.ldc2_w 258, 3) := by decide +kernel
theorem dX12_readWord_42 : decode cX12_readWord 42 = .ok (.ldc2_w 260, 3) := by decide +kernel
theorem dX12_readWord_45 : decode cX12_readWord 45 = .ok (.invokestatic 154, 3) := by decide +kernel
theorem dX12_readWord_48 : decode cX12_readWord 48 = .ok (.ifCond .eq 60, 3) := by decide +kernel
theorem dX12_readWord_51 : decode cX12_readWord 51 = .ok (.aload_n 0, 1) := by decide +kernel
theorem dX12_readWord_52 : decode cX12_readWord 52 = .ok (.aload_n 0, 1) := by decide +kernel
theorem dX12_readWord_53 : decode cX12_readWord 53 = .ok (.getfield 251, 3) := by decide +kernel
theorem dX12_readWord_56 : decode cX12_readWord 56 = .ok (.ldc2_w 262, 3) := by decide +kernel
theorem dX12_readWord_59 : decode cX12_readWord 59 = .ok (.lcmp, 1) := by decide +kernel
theorem dX12_readWord_60 : decode cX12_readWord 60 = .ok (.ifCond .le 9, 3) := by decide +kernel
theorem dX12_readWord_63 : decode cX12_readWord 63 = .ok (.ldc2_w 264, 3) := by decide +kernel
theorem dX12_readWord_66 : decode cX12_readWord 66 = .ok (.goto 26, 3) := by decide +kernel
theorem dX12_readWord_69 : decode cX12_readWord 69 = .ok (.ldc2_w 266, 3) := by decide +kernel
theorem dX12_readWord_72 : decode cX12_readWord 72 = .ok (.aload_n 0, 1) := by decide +kernel
theorem dX12_readWord_73 : decode cX12_readWord 73 = .ok (.getfield 251, 3) := by decide +kernel
theorem dX12_readWord_76 : decode cX12_readWord 76 = .ok (.lmul, 1) := by decide +kernel
theorem dX12_readWord_77 : decode cX12_readWord 77 = .ok (.aload_n 0, 1) := by decide +kernel
theorem dX12_readWord_78 : decode cX12_readWord 78 = .ok (.getfield 52, 3) := by decide +kernel
theorem dX12_readWord_81 : decode cX12_readWord 81 = .ok (.aload_n 0, 1) := by decide +kernel
theorem dX12_readWord_82 : decode cX12_readWord 82 = .ok (.getfield 255, 3) := by decide +kernel
theorem dX12_readWord_85 : decode cX12_readWord 85 = .ok (.iaload, 1) := by decide +kernel
theorem dX12_readWord_86 : decode cX12_readWord 86 = .ok (.i2l, 1) := by decide +kernel
theorem dX12_readWord_87 : decode cX12_readWord 87 = .ok (.ladd, 1) := by decide +kernel
theorem dX12_readWord_88 : decode cX12_readWord 88 = .ok (.ldc2_w 268, 3) := by decide +kernel
theorem dX12_readWord_91 : decode cX12_readWord 91 = .ok (.lsub, 1) := by decide +kernel
theorem dX12_readWord_92 : decode cX12_readWord 92 = .ok (.putfield 251, 3) := by decide +kernel
theorem dX12_readWord_95 : decode cX12_readWord 95 = .ok (.aload_n 0, 1) := by decide +kernel
theorem dX12_readWord_96 : decode cX12_readWord 96 = .ok (.dup, 1) := by decide +kernel
theorem dX12_readWord_97 : decode cX12_readWord 97 = .ok (.getfield 255, 3) := by decide +kernel
theorem dX12_readWord_100 : decode cX12_readWord 100 = .ok (.iconst 1, 1) := by decide +kernel
theorem dX12_readWord_101 : decode cX12_readWord 101 = .ok (.iadd, 1) := by decide +kernel
theorem dX12_readWord_102 : decode cX12_readWord 102 = .ok (.putfield 255, 3) := by decide +kernel
theorem dX12_readWord_105 : decode cX12_readWord 105 = .ok (.goto (-87), 3) := by decide +kernel
theorem dX12_readWord_108 : decode cX12_readWord 108 = .ok (.return_, 1) := by decide +kernel
theorem dX12_code_0 : decode cX12_code 0 = .ok (.ldc2_w 266, 3) := by decide +kernel
theorem dX12_code_3 : decode cX12_code 3 = .ok (.ldc2_w 266, 3) := by decide +kernel
theorem dX12_code_6 : decode cX12_code 6 = .ok (.ldc2_w 266, 3) := by decide +kernel
theorem dX12_code_9 : decode cX12_code 9 = .ok (.iload_n 0, 1) := by decide +kernel
theorem dX12_code_10 : decode cX12_code 10 = .ok (.i2l, 1) := by decide +kernel
theorem dX12_code_11 : decode cX12_code 11 = .ok (.ldc2_w 268, 3) := by decide +kernel
theorem dX12_code_14 : decode cX12_code 14 = .ok (.lsub, 1) := by decide +kernel
theorem dX12_code_15 : decode cX12_code 15 = .ok (.lmul, 1) := by decide +kernel
theorem dX12_code_16 : decode cX12_code 16 = .ok (.iload_n 1, 1) := by decide +kernel
theorem dX12_code_17 : decode cX12_code 17 = .ok (.i2l, 1) := by decide +kernel
theorem dX12_code_18 : decode cX12_code 18 = .ok (.ladd, 1) := by decide +kernel
theorem dX12_code_19 : decode cX12_code 19 = .ok (.ldc2_w 268, 3) := by decide +kernel
theorem dX12_code_22 : decode cX12_code 22 = .ok (.lsub, 1) := by decide +kernel
theorem dX12_code_23 : decode cX12_code 23 = .ok (.lmul, 1) := by decide +kernel
theorem dX12_code_24 : decode cX12_code 24 = .ok (.iload_n 2, 1) := by decide +kernel
theorem dX12_code_25 : decode cX12_code 25 = .ok (.i2l, 1) := by decide +kernel
theorem dX12_code_26 : decode cX12_code 26 = .ok (.ladd, 1) := by decide +kernel
theorem dX12_code_27 : decode cX12_code 27 = .ok (.ldc2_w 268, 3) := by decide +kernel
theorem dX12_code_30 : decode cX12_code 30 = .ok (.lsub, 1) := by decide +kernel
theorem dX12_code_31 : decode cX12_code 31 = .ok (.lmul, 1) := by decide +kernel
theorem dX12_code_32 : decode cX12_code 32 = .ok (.iload_n 3, 1) := by decide +kernel
theorem dX12_code_33 : decode cX12_code 33 = .ok (.i2l, 1) := by decide +kernel
theorem dX12_code_34 : decode cX12_code 34 = .ok (.ladd, 1) := by decide +kernel
theorem dX12_code_35 : decode cX12_code 35 = .ok (.ldc2_w 268, 3) := by decide +kernel
theorem dX12_code_38 : decode cX12_code 38 = .ok (.lsub, 1) := by decide +kernel
theorem dX12_code_39 : decode cX12_code 39 = .ok (.lreturn, 1) := by decide +kernel
theorem dX12_longer_0 : decode cX12_longer 0 = .ok (.ldc2_w 266, 3) := by decide +kernel
theorem dX12_longer_3 : decode cX12_longer 3 = .ok (.ldc2_w 266, 3) := by decide +kernel
theorem dX12_longer_6 : decode cX12_longer 6 = .ok (.lload_n 0, 1) := by decide +kernel
theorem dX12_longer_7 : decode cX12_longer 7 = .ok (.lmul, 1) := by decide +kernel
theorem dX12_longer_8 : decode cX12_longer 8 = .ok (.iload_n 2, 1) := by decide +kernel
theorem dX12_longer_9 : decode cX12_longer 9 = .ok (.i2l, 1) := by decide +kernel
theorem dX12_longer_10 : decode cX12_longer 10 = .ok (.ladd, 1) := by decide +kernel
theorem dX12_longer_11 : decode cX12_longer 11 = .ok (.ldc2_w 268, 3) := by decide +kernel
theorem dX12_longer_14 : decode cX12_longer 14 = .ok (.lsub, 1) := by decide +kernel
theorem dX12_longer_15 : decode cX12_longer 15 = .ok (.lmul, 1) := by decide +kernel
theorem dX12_longer_16 : decode cX12_longer 16 = .ok (.iload_n 3, 1) := by decide +kernel
theorem dX12_longer_17 : decode cX12_longer 17 = .ok (.i2l, 1) := by decide +kernel
theorem dX12_longer_18 : decode cX12_longer 18 = .ok (.ladd, 1) := by decide +kernel
theorem dX12_longer_19 : decode cX12_longer 19 = .ok (.ldc2_w 268, 3) := by decide +kernel
theorem dX12_longer_22 : decode cX12_longer 22 = .ok (.lsub, 1) := by decide +kernel
theorem dX12_longer_23 : decode cX12_longer 23 = .ok (.lreturn, 1) := by decide +kernel
theorem dX12_habitOf_0 : decode cX12_habitOf 0 = .ok (.ldc2_w 270, 3) := by decide +kernel
theorem dX12_habitOf_3 : decode cX12_habitOf 3 = .ok (.lstore_n 1, 1) := by decide +kernel
theorem dX12_habitOf_4 : decode cX12_habitOf 4 = .ok (.aload_n 0, 1) := by decide +kernel
theorem dX12_habitOf_5 : decode cX12_habitOf 5 = .ok (.getfield 251, 3) := by decide +kernel
theorem dX12_habitOf_8 : decode cX12_habitOf 8 = .ok (.lload_n 1, 1) := by decide +kernel
theorem dX12_habitOf_9 : decode cX12_habitOf 9 = .ok (.lcmp, 1) := by decide +kernel
theorem dX12_habitOf_10 : decode cX12_habitOf 10 = .ok (.ifCond .ne 7, 3) := by decide +kernel
theorem dX12_habitOf_13 : decode cX12_habitOf 13 = .ok (.iconst 0, 1) := by decide +kernel
theorem dX12_habitOf_14 : decode cX12_habitOf 14 = .ok (.goto 119, 3) := by decide +kernel
theorem dX12_habitOf_17 : decode cX12_habitOf 17 = .ok (.aload_n 0, 1) := by decide +kernel
theorem dX12_habitOf_18 : decode cX12_habitOf 18 = .ok (.getfield 251, 3) := by decide +kernel
theorem dX12_habitOf_21 : decode cX12_habitOf 21 = .ok (.bipush 115, 2) := by decide +kernel
theorem dX12_habitOf_23 : decode cX12_habitOf 23 = .ok (.bipush 107, 2) := by decide +kernel
theorem dX12_habitOf_25 : decode cX12_habitOf 25 = .ok (.bipush 105, 2) := by decide +kernel
theorem dX12_habitOf_27 : decode cX12_habitOf 27 = .ok (.bipush 112, 2) := by decide +kernel
theorem dX12_habitOf_29 : decode cX12_habitOf 29 = .ok (.invokestatic 272, 3) := by decide +kernel
theorem dX12_habitOf_32 : decode cX12_habitOf 32 = .ok (.lcmp, 1) := by decide +kernel
theorem dX12_habitOf_33 : decode cX12_habitOf 33 = .ok (.ifCond .ne 7, 3) := by decide +kernel
theorem dX12_habitOf_36 : decode cX12_habitOf 36 = .ok (.iconst 1, 1) := by decide +kernel
theorem dX12_habitOf_37 : decode cX12_habitOf 37 = .ok (.goto 96, 3) := by decide +kernel
theorem dX12_habitOf_40 : decode cX12_habitOf 40 = .ok (.aload_n 0, 1) := by decide +kernel
theorem dX12_habitOf_41 : decode cX12_habitOf 41 = .ok (.getfield 251, 3) := by decide +kernel
theorem dX12_habitOf_44 : decode cX12_habitOf 44 = .ok (.bipush 116, 2) := by decide +kernel
theorem dX12_habitOf_46 : decode cX12_habitOf 46 = .ok (.bipush 117, 2) := by decide +kernel
theorem dX12_habitOf_48 : decode cX12_habitOf 48 = .ok (.bipush 114, 2) := by decide +kernel
theorem dX12_habitOf_50 : decode cX12_habitOf 50 = .ok (.bipush 110, 2) := by decide +kernel
theorem dX12_habitOf_52 : decode cX12_habitOf 52 = .ok (.invokestatic 272, 3) := by decide +kernel
theorem dX12_habitOf_55 : decode cX12_habitOf 55 = .ok (.lcmp, 1) := by decide +kernel
theorem dX12_habitOf_56 : decode cX12_habitOf 56 = .ok (.ifCond .ne 7, 3) := by decide +kernel
theorem dX12_habitOf_59 : decode cX12_habitOf 59 = .ok (.iconst 2, 1) := by decide +kernel
theorem dX12_habitOf_60 : decode cX12_habitOf 60 = .ok (.goto 73, 3) := by decide +kernel
theorem dX12_habitOf_63 : decode cX12_habitOf 63 = .ok (.aload_n 0, 1) := by decide +kernel
theorem dX12_habitOf_64 : decode cX12_habitOf 64 = .ok (.getfield 251, 3) := by decide +kernel
theorem dX12_habitOf_67 : decode cX12_habitOf 67 = .ok (.bipush 105, 2) := by decide +kernel
theorem dX12_habitOf_69 : decode cX12_habitOf 69 = .ok (.bipush 110, 2) := by decide +kernel
theorem dX12_habitOf_71 : decode cX12_habitOf 71 = .ok (.bipush 116, 2) := by decide +kernel
theorem dX12_habitOf_73 : decode cX12_habitOf 73 = .ok (.bipush 111, 2) := by decide +kernel
theorem dX12_habitOf_75 : decode cX12_habitOf 75 = .ok (.invokestatic 272, 3) := by decide +kernel
theorem dX12_habitOf_78 : decode cX12_habitOf 78 = .ok (.lcmp, 1) := by decide +kernel
theorem dX12_habitOf_79 : decode cX12_habitOf 79 = .ok (.ifCond .ne 7, 3) := by decide +kernel
theorem dX12_habitOf_82 : decode cX12_habitOf 82 = .ok (.iconst 3, 1) := by decide +kernel
theorem dX12_habitOf_83 : decode cX12_habitOf 83 = .ok (.goto 50, 3) := by decide +kernel
theorem dX12_habitOf_86 : decode cX12_habitOf 86 = .ok (.aload_n 0, 1) := by decide +kernel
theorem dX12_habitOf_87 : decode cX12_habitOf 87 = .ok (.getfield 251, 3) := by decide +kernel
theorem dX12_habitOf_90 : decode cX12_habitOf 90 = .ok (.bipush 100, 2) := by decide +kernel
theorem dX12_habitOf_92 : decode cX12_habitOf 92 = .ok (.bipush 114, 2) := by decide +kernel
theorem dX12_habitOf_94 : decode cX12_habitOf 94 = .ok (.bipush 111, 2) := by decide +kernel
theorem dX12_habitOf_96 : decode cX12_habitOf 96 = .ok (.bipush 112, 2) := by decide +kernel
theorem dX12_habitOf_98 : decode cX12_habitOf 98 = .ok (.invokestatic 272, 3) := by decide +kernel
theorem dX12_habitOf_101 : decode cX12_habitOf 101 = .ok (.lcmp, 1) := by decide +kernel
theorem dX12_habitOf_102 : decode cX12_habitOf 102 = .ok (.ifCond .ne 7, 3) := by decide +kernel
theorem dX12_habitOf_105 : decode cX12_habitOf 105 = .ok (.iconst 4, 1) := by decide +kernel
theorem dX12_habitOf_106 : decode cX12_habitOf 106 = .ok (.goto 27, 3) := by decide +kernel
theorem dX12_habitOf_109 : decode cX12_habitOf 109 = .ok (.aload_n 0, 1) := by decide +kernel
theorem dX12_habitOf_110 : decode cX12_habitOf 110 = .ok (.getfield 251, 3) := by decide +kernel
theorem dX12_habitOf_113 : decode cX12_habitOf 113 = .ok (.bipush 109, 2) := by decide +kernel
theorem dX12_habitOf_115 : decode cX12_habitOf 115 = .ok (.bipush 111, 2) := by decide +kernel
theorem dX12_habitOf_117 : decode cX12_habitOf 117 = .ok (.bipush 118, 2) := by decide +kernel
theorem dX12_habitOf_119 : decode cX12_habitOf 119 = .ok (.bipush 101, 2) := by decide +kernel
theorem dX12_habitOf_121 : decode cX12_habitOf 121 = .ok (.invokestatic 272, 3) := by decide +kernel
theorem dX12_habitOf_124 : decode cX12_habitOf 124 = .ok (.lcmp, 1) := by decide +kernel
theorem dX12_habitOf_125 : decode cX12_habitOf 125 = .ok (.ifCond .ne 7, 3) := by decide +kernel
theorem dX12_habitOf_128 : decode cX12_habitOf 128 = .ok (.iconst 5, 1) := by decide +kernel
theorem dX12_habitOf_129 : decode cX12_habitOf 129 = .ok (.goto 4, 3) := by decide +kernel
theorem dX12_habitOf_132 : decode cX12_habitOf 132 = .ok (.iconst (-1), 1) := by decide +kernel
theorem dX12_habitOf_133 : decode cX12_habitOf 133 = .ok (.ireturn, 1) := by decide +kernel
theorem dX12_wayOf_0 : decode cX12_wayOf 0 = .ok (.ldc2_w 266, 3) := by decide +kernel
theorem dX12_wayOf_3 : decode cX12_wayOf 3 = .ok (.bipush 97, 2) := by decide +kernel
theorem dX12_wayOf_5 : decode cX12_wayOf 5 = .ok (.bipush 104, 2) := by decide +kernel
theorem dX12_wayOf_7 : decode cX12_wayOf 7 = .ok (.bipush 101, 2) := by decide +kernel
theorem dX12_wayOf_9 : decode cX12_wayOf 9 = .ok (.bipush 97, 2) := by decide +kernel
theorem dX12_wayOf_11 : decode cX12_wayOf 11 = .ok (.invokestatic 272, 3) := by decide +kernel
theorem dX12_wayOf_14 : decode cX12_wayOf 14 = .ok (.lmul, 1) := by decide +kernel
theorem dX12_wayOf_15 : decode cX12_wayOf 15 = .ok (.ldc2_w 276, 3) := by decide +kernel
theorem dX12_wayOf_18 : decode cX12_wayOf 18 = .ok (.ladd, 1) := by decide +kernel
theorem dX12_wayOf_19 : decode cX12_wayOf 19 = .ok (.ldc2_w 268, 3) := by decide +kernel
theorem dX12_wayOf_22 : decode cX12_wayOf 22 = .ok (.lsub, 1) := by decide +kernel
theorem dX12_wayOf_23 : decode cX12_wayOf 23 = .ok (.lstore_n 1, 1) := by decide +kernel
theorem dX12_wayOf_24 : decode cX12_wayOf 24 = .ok (.bipush 98, 2) := by decide +kernel
theorem dX12_wayOf_26 : decode cX12_wayOf 26 = .ok (.bipush 101, 2) := by decide +kernel
theorem dX12_wayOf_28 : decode cX12_wayOf 28 = .ok (.bipush 104, 2) := by decide +kernel
theorem dX12_wayOf_30 : decode cX12_wayOf 30 = .ok (.bipush 105, 2) := by decide +kernel
theorem dX12_wayOf_32 : decode cX12_wayOf 32 = .ok (.invokestatic 272, 3) := by decide +kernel
theorem dX12_wayOf_35 : decode cX12_wayOf 35 = .ok (.bipush 110, 2) := by decide +kernel
theorem dX12_wayOf_37 : decode cX12_wayOf 37 = .ok (.bipush 100, 2) := by decide +kernel
theorem dX12_wayOf_39 : decode cX12_wayOf 39 = .ok (.invokestatic 278, 3) := by decide +kernel
theorem dX12_wayOf_42 : decode cX12_wayOf 42 = .ok (.lstore_n 3, 1) := by decide +kernel
theorem dX12_wayOf_43 : decode cX12_wayOf 43 = .ok (.ldc2_w 266, 3) := by decide +kernel
theorem dX12_wayOf_46 : decode cX12_wayOf 46 = .ok (.bipush 105, 2) := by decide +kernel
theorem dX12_wayOf_48 : decode cX12_wayOf 48 = .ok (.bipush 110, 2) := by decide +kernel
theorem dX12_wayOf_50 : decode cX12_wayOf 50 = .ok (.bipush 115, 2) := by decide +kernel
theorem dX12_wayOf_52 : decode cX12_wayOf 52 = .ok (.bipush 116, 2) := by decide +kernel
theorem dX12_wayOf_54 : decode cX12_wayOf 54 = .ok (.invokestatic 272, 3) := by decide +kernel
theorem dX12_wayOf_57 : decode cX12_wayOf 57 = .ok (.bipush 101, 2) := by decide +kernel
theorem dX12_wayOf_59 : decode cX12_wayOf 59 = .ok (.bipush 97, 2) := by decide +kernel
theorem dX12_wayOf_61 : decode cX12_wayOf 61 = .ok (.invokestatic 278, 3) := by decide +kernel
theorem dX12_wayOf_64 : decode cX12_wayOf 64 = .ok (.lmul, 1) := by decide +kernel
theorem dX12_wayOf_65 : decode cX12_wayOf 65 = .ok (.ldc2_w 276, 3) := by decide +kernel
theorem dX12_wayOf_68 : decode cX12_wayOf 68 = .ok (.ladd, 1) := by decide +kernel
theorem dX12_wayOf_69 : decode cX12_wayOf 69 = .ok (.ldc2_w 268, 3) := by decide +kernel
theorem dX12_wayOf_72 : decode cX12_wayOf 72 = .ok (.lsub, 1) := by decide +kernel
theorem dX12_wayOf_73 : decode cX12_wayOf 73 = .ok (.lstore 5, 2) := by decide +kernel
theorem dX12_wayOf_75 : decode cX12_wayOf 75 = .ok (.aload_n 0, 1) := by decide +kernel
theorem dX12_wayOf_76 : decode cX12_wayOf 76 = .ok (.getfield 251, 3) := by decide +kernel
theorem dX12_wayOf_79 : decode cX12_wayOf 79 = .ok (.lload_n 1, 1) := by decide +kernel
theorem dX12_wayOf_80 : decode cX12_wayOf 80 = .ok (.lcmp, 1) := by decide +kernel
theorem dX12_wayOf_81 : decode cX12_wayOf 81 = .ok (.ifCond .ne 7, 3) := by decide +kernel
theorem dX12_wayOf_84 : decode cX12_wayOf 84 = .ok (.iconst 0, 1) := by decide +kernel
theorem dX12_wayOf_85 : decode cX12_wayOf 85 = .ok (.goto 31, 3) := by decide +kernel
theorem dX12_wayOf_88 : decode cX12_wayOf 88 = .ok (.aload_n 0, 1) := by decide +kernel
theorem dX12_wayOf_89 : decode cX12_wayOf 89 = .ok (.getfield 251, 3) := by decide +kernel
theorem dX12_wayOf_92 : decode cX12_wayOf 92 = .ok (.lload_n 3, 1) := by decide +kernel
theorem dX12_wayOf_93 : decode cX12_wayOf 93 = .ok (.lcmp, 1) := by decide +kernel
theorem dX12_wayOf_94 : decode cX12_wayOf 94 = .ok (.ifCond .ne 7, 3) := by decide +kernel
theorem dX12_wayOf_97 : decode cX12_wayOf 97 = .ok (.iconst 1, 1) := by decide +kernel
theorem dX12_wayOf_98 : decode cX12_wayOf 98 = .ok (.goto 18, 3) := by decide +kernel
theorem dX12_wayOf_101 : decode cX12_wayOf 101 = .ok (.aload_n 0, 1) := by decide +kernel
theorem dX12_wayOf_102 : decode cX12_wayOf 102 = .ok (.getfield 251, 3) := by decide +kernel
theorem dX12_wayOf_105 : decode cX12_wayOf 105 = .ok (.lload 5, 2) := by decide +kernel
theorem dX12_wayOf_107 : decode cX12_wayOf 107 = .ok (.lcmp, 1) := by decide +kernel
theorem dX12_wayOf_108 : decode cX12_wayOf 108 = .ok (.ifCond .ne 7, 3) := by decide +kernel
theorem dX12_wayOf_111 : decode cX12_wayOf 111 = .ok (.iconst 2, 1) := by decide +kernel
theorem dX12_wayOf_112 : decode cX12_wayOf 112 = .ok (.goto 4, 3) := by decide +kernel
theorem dX12_wayOf_115 : decode cX12_wayOf 115 = .ok (.iconst (-1), 1) := by decide +kernel
theorem dX12_wayOf_116 : decode cX12_wayOf 116 = .ok (.ireturn, 1) := by decide +kernel
theorem dX12_takeFor_0 : decode cX12_takeFor 0 = .ok (.aload_n 0, 1) := by decide +kernel
theorem dX12_takeFor_1 : decode cX12_takeFor 1 = .ok (.iconst 0, 1) := by decide +kernel
theorem dX12_takeFor_2 : decode cX12_takeFor 2 = .ok (.bipush 63, 2) := by decide +kernel
theorem dX12_takeFor_4 : decode cX12_takeFor 4 = .ok (.invokevirtual 188, 3) := by decide +kernel
theorem dX12_takeFor_7 : decode cX12_takeFor 7 = .ok (.istore_n 1, 1) := by decide +kernel
theorem dX12_takeFor_8 : decode cX12_takeFor 8 = .ok (.aload_n 0, 1) := by decide +kernel
theorem dX12_takeFor_9 : decode cX12_takeFor 9 = .ok (.getfield 86, 3) := by decide +kernel
theorem dX12_takeFor_12 : decode cX12_takeFor 12 = .ok (.aload_n 0, 1) := by decide +kernel
theorem dX12_takeFor_13 : decode cX12_takeFor 13 = .ok (.getfield 242, 3) := by decide +kernel
theorem dX12_takeFor_16 : decode cX12_takeFor 16 = .ok (.aload_n 0, 1) := by decide +kernel
theorem dX12_takeFor_17 : decode cX12_takeFor 17 = .ok (.getfield 185, 3) := by decide +kernel
theorem dX12_takeFor_20 : decode cX12_takeFor 20 = .ok (.iastore, 1) := by decide +kernel
theorem dX12_takeFor_21 : decode cX12_takeFor 21 = .ok (.iconst 0, 1) := by decide +kernel
theorem dX12_takeFor_22 : decode cX12_takeFor 22 = .ok (.istore_n 2, 1) := by decide +kernel
theorem dX12_takeFor_23 : decode cX12_takeFor 23 = .ok (.iload_n 2, 1) := by decide +kernel
theorem dX12_takeFor_24 : decode cX12_takeFor 24 = .ok (.aload_n 0, 1) := by decide +kernel
theorem dX12_takeFor_25 : decode cX12_takeFor 25 = .ok (.getfield 242, 3) := by decide +kernel
theorem dX12_takeFor_28 : decode cX12_takeFor 28 = .ok (.if_icmp .ge 40, 3) := by decide +kernel
theorem dX12_takeFor_31 : decode cX12_takeFor 31 = .ok (.iload_n 1, 1) := by decide +kernel
theorem dX12_takeFor_32 : decode cX12_takeFor 32 = .ok (.ifCond .ne 36, 3) := by decide +kernel
theorem dX12_takeFor_35 : decode cX12_takeFor 35 = .ok (.aload_n 0, 1) := by decide +kernel
theorem dX12_takeFor_36 : decode cX12_takeFor 36 = .ok (.getfield 86, 3) := by decide +kernel
theorem dX12_takeFor_39 : decode cX12_takeFor 39 = .ok (.iload_n 2, 1) := by decide +kernel
theorem dX12_takeFor_40 : decode cX12_takeFor 40 = .ok (.iaload, 1) := by decide +kernel
theorem dX12_takeFor_41 : decode cX12_takeFor 41 = .ok (.aload_n 0, 1) := by decide +kernel
theorem dX12_takeFor_42 : decode cX12_takeFor 42 = .ok (.getfield 185, 3) := by decide +kernel
theorem dX12_takeFor_45 : decode cX12_takeFor 45 = .ok (.if_icmp .ne 15, 3) := by decide +kernel
theorem dX12_takeFor_48 : decode cX12_takeFor 48 = .ok (.aload_n 0, 1) := by decide +kernel
theorem dX12_takeFor_49 : decode cX12_takeFor 49 = .ok (.iconst 3, 1) := by decide +kernel
theorem dX12_takeFor_50 : decode cX12_takeFor 50 = .ok (.aload_n 0, 1) := by decide +kernel
theorem dX12_takeFor_51 : decode cX12_takeFor 51 = .ok (.getfield 182, 3) := by decide +kernel
theorem dX12_takeFor_54 : decode cX12_takeFor 54 = .ok (.invokevirtual 178, 3) := by decide +kernel
theorem dX12_takeFor_57 : decode cX12_takeFor 57 = .ok (.goto 4, 3) := by decide +kernel
theorem dX12_takeFor_60 : decode cX12_takeFor 60 = .ok (.iconst 0, 1) := by decide +kernel
theorem dX12_takeFor_61 : decode cX12_takeFor 61 = .ok (.istore_n 1, 1) := by decide +kernel
theorem dX12_takeFor_62 : decode cX12_takeFor 62 = .ok (.iinc 2 1, 3) := by decide +kernel
theorem dX12_takeFor_65 : decode cX12_takeFor 65 = .ok (.goto (-42), 3) := by decide +kernel
theorem dX12_takeFor_68 : decode cX12_takeFor 68 = .ok (.iload_n 1, 1) := by decide +kernel
theorem dX12_takeFor_69 : decode cX12_takeFor 69 = .ok (.ifCond .le 7, 3) := by decide +kernel
theorem dX12_takeFor_72 : decode cX12_takeFor 72 = .ok (.iload_n 1, 1) := by decide +kernel
theorem dX12_takeFor_73 : decode cX12_takeFor 73 = .ok (.goto 10, 3) := by decide +kernel
theorem dX12_takeFor_76 : decode cX12_takeFor 76 = .ok (.aload_n 0, 1) := by decide +kernel
theorem dX12_takeFor_77 : decode cX12_takeFor 77 = .ok (.iconst 0, 1) := by decide +kernel
theorem dX12_takeFor_78 : decode cX12_takeFor 78 = .ok (.bipush 63, 2) := by decide +kernel
theorem dX12_takeFor_80 : decode cX12_takeFor 80 = .ok (.invokevirtual 188, 3) := by decide +kernel
theorem dX12_takeFor_83 : decode cX12_takeFor 83 = .ok (.istore_n 1, 1) := by decide +kernel
theorem dX12_takeFor_84 : decode cX12_takeFor 84 = .ok (.aload_n 0, 1) := by decide +kernel
theorem dX12_takeFor_85 : decode cX12_takeFor 85 = .ok (.getfield 89, 3) := by decide +kernel
theorem dX12_takeFor_88 : decode cX12_takeFor 88 = .ok (.aload_n 0, 1) := by decide +kernel
theorem dX12_takeFor_89 : decode cX12_takeFor 89 = .ok (.getfield 242, 3) := by decide +kernel
theorem dX12_takeFor_92 : decode cX12_takeFor 92 = .ok (.aload_n 0, 1) := by decide +kernel
theorem dX12_takeFor_93 : decode cX12_takeFor 93 = .ok (.getfield 185, 3) := by decide +kernel
theorem dX12_takeFor_96 : decode cX12_takeFor 96 = .ok (.iastore, 1) := by decide +kernel
theorem dX12_takeFor_97 : decode cX12_takeFor 97 = .ok (.iload_n 1, 1) := by decide +kernel
theorem dX12_takeFor_98 : decode cX12_takeFor 98 = .ok (.ifCond .ne 31, 3) := by decide +kernel
theorem dX12_takeFor_101 : decode cX12_takeFor 101 = .ok (.aload_n 0, 1) := by decide +kernel
theorem dX12_takeFor_102 : decode cX12_takeFor 102 = .ok (.getfield 185, 3) := by decide +kernel
theorem dX12_takeFor_105 : decode cX12_takeFor 105 = .ok (.aload_n 0, 1) := by decide +kernel
theorem dX12_takeFor_106 : decode cX12_takeFor 106 = .ok (.getfield 86, 3) := by decide +kernel
theorem dX12_takeFor_109 : decode cX12_takeFor 109 = .ok (.aload_n 0, 1) := by decide +kernel
theorem dX12_takeFor_110 : decode cX12_takeFor 110 = .ok (.getfield 242, 3) := by decide +kernel
theorem dX12_takeFor_113 : decode cX12_takeFor 113 = .ok (.iaload, 1) := by decide +kernel
theorem dX12_takeFor_114 : decode cX12_takeFor 114 = .ok (.if_icmp .ne 15, 3) := by decide +kernel
theorem dX12_takeFor_117 : decode cX12_takeFor 117 = .ok (.aload_n 0, 1) := by decide +kernel
theorem dX12_takeFor_118 : decode cX12_takeFor 118 = .ok (.iconst 3, 1) := by decide +kernel
theorem dX12_takeFor_119 : decode cX12_takeFor 119 = .ok (.aload_n 0, 1) := by decide +kernel
theorem dX12_takeFor_120 : decode cX12_takeFor 120 = .ok (.getfield 182, 3) := by decide +kernel
theorem dX12_takeFor_123 : decode cX12_takeFor 123 = .ok (.invokevirtual 178, 3) := by decide +kernel
theorem dX12_takeFor_126 : decode cX12_takeFor 126 = .ok (.goto 4, 3) := by decide +kernel
theorem dX12_takeFor_129 : decode cX12_takeFor 129 = .ok (.iload_n 1, 1) := by decide +kernel
theorem dX12_takeFor_130 : decode cX12_takeFor 130 = .ok (.istore_n 1, 1) := by decide +kernel
theorem dX12_takeFor_131 : decode cX12_takeFor 131 = .ok (.iload_n 1, 1) := by decide +kernel
theorem dX12_takeFor_132 : decode cX12_takeFor 132 = .ok (.ifCond .le 7, 3) := by decide +kernel
theorem dX12_takeFor_135 : decode cX12_takeFor 135 = .ok (.iload_n 1, 1) := by decide +kernel
theorem dX12_takeFor_136 : decode cX12_takeFor 136 = .ok (.goto 10, 3) := by decide +kernel
theorem dX12_takeFor_139 : decode cX12_takeFor 139 = .ok (.aload_n 0, 1) := by decide +kernel
theorem dX12_takeFor_140 : decode cX12_takeFor 140 = .ok (.iconst 1, 1) := by decide +kernel
theorem dX12_takeFor_141 : decode cX12_takeFor 141 = .ok (.bipush 99, 2) := by decide +kernel
theorem dX12_takeFor_143 : decode cX12_takeFor 143 = .ok (.invokevirtual 188, 3) := by decide +kernel
theorem dX12_takeFor_146 : decode cX12_takeFor 146 = .ok (.istore_n 1, 1) := by decide +kernel
theorem dX12_takeFor_147 : decode cX12_takeFor 147 = .ok (.aload_n 0, 1) := by decide +kernel
theorem dX12_takeFor_148 : decode cX12_takeFor 148 = .ok (.getfield 92, 3) := by decide +kernel
theorem dX12_takeFor_151 : decode cX12_takeFor 151 = .ok (.aload_n 0, 1) := by decide +kernel
theorem dX12_takeFor_152 : decode cX12_takeFor 152 = .ok (.getfield 242, 3) := by decide +kernel
theorem dX12_takeFor_155 : decode cX12_takeFor 155 = .ok (.aload_n 0, 1) := by decide +kernel
theorem dX12_takeFor_156 : decode cX12_takeFor 156 = .ok (.getfield 185, 3) := by decide +kernel
theorem dX12_takeFor_159 : decode cX12_takeFor 159 = .ok (.iastore, 1) := by decide +kernel
theorem dX12_takeFor_160 : decode cX12_takeFor 160 = .ok (.aload_n 0, 1) := by decide +kernel
theorem dX12_takeFor_161 : decode cX12_takeFor 161 = .ok (.dup, 1) := by decide +kernel
theorem dX12_takeFor_162 : decode cX12_takeFor 162 = .ok (.getfield 242, 3) := by decide +kernel
theorem dX12_takeFor_165 : decode cX12_takeFor 165 = .ok (.iconst 1, 1) := by decide +kernel
theorem dX12_takeFor_166 : decode cX12_takeFor 166 = .ok (.iadd, 1) := by decide +kernel
theorem dX12_takeFor_167 : decode cX12_takeFor 167 = .ok (.putfield 242, 3) := by decide +kernel
theorem dX12_takeFor_170 : decode cX12_takeFor 170 = .ok (.iload_n 1, 1) := by decide +kernel
theorem dX12_takeFor_171 : decode cX12_takeFor 171 = .ok (.ireturn, 1) := by decide +kernel
theorem dX12_takeHabit_0 : decode cX12_takeHabit 0 = .ok (.aload_n 0, 1) := by decide +kernel
theorem dX12_takeHabit_1 : decode cX12_takeHabit 1 = .ok (.invokevirtual 282, 3) := by decide +kernel
theorem dX12_takeHabit_4 : decode cX12_takeHabit 4 = .ok (.aload_n 0, 1) := by decide +kernel
theorem dX12_takeHabit_5 : decode cX12_takeHabit 5 = .ok (.invokevirtual 285, 3) := by decide +kernel
theorem dX12_takeHabit_8 : decode cX12_takeHabit 8 = .ok (.istore_n 1, 1) := by decide +kernel
theorem dX12_takeHabit_9 : decode cX12_takeHabit 9 = .ok (.iload_n 1, 1) := by decide +kernel
theorem dX12_takeHabit_10 : decode cX12_takeHabit 10 = .ok (.ifCond .ne 19, 3) := by decide +kernel
theorem dX12_takeHabit_13 : decode cX12_takeHabit 13 = .ok (.aload_n 0, 1) := by decide +kernel
theorem dX12_takeHabit_14 : decode cX12_takeHabit 14 = .ok (.getfield 242, 3) := by decide +kernel
theorem dX12_takeHabit_17 : decode cX12_takeHabit 17 = .ok (.iconst 4, 1) := by decide +kernel
theorem dX12_takeHabit_18 : decode cX12_takeHabit 18 = .ok (.if_icmp .ne 7, 3) := by decide +kernel
theorem dX12_takeHabit_21 : decode cX12_takeHabit 21 = .ok (.iconst 1, 1) := by decide +kernel
theorem dX12_takeHabit_22 : decode cX12_takeHabit 22 = .ok (.goto 25, 3) := by decide +kernel
theorem dX12_takeHabit_25 : decode cX12_takeHabit 25 = .ok (.iconst 0, 1) := by decide +kernel
theorem dX12_takeHabit_26 : decode cX12_takeHabit 26 = .ok (.goto 21, 3) := by decide +kernel
theorem dX12_takeHabit_29 : decode cX12_takeHabit 29 = .ok (.iload_n 1, 1) := by decide +kernel
theorem dX12_takeHabit_30 : decode cX12_takeHabit 30 = .ok (.ifCond .le 16, 3) := by decide +kernel
theorem dX12_takeHabit_33 : decode cX12_takeHabit 33 = .ok (.aload_n 0, 1) := by decide +kernel
theorem dX12_takeHabit_34 : decode cX12_takeHabit 34 = .ok (.getfield 95, 3) := by decide +kernel
theorem dX12_takeHabit_37 : decode cX12_takeHabit 37 = .ok (.iload_n 1, 1) := by decide +kernel
theorem dX12_takeHabit_38 : decode cX12_takeHabit 38 = .ok (.iaload, 1) := by decide +kernel
theorem dX12_takeHabit_39 : decode cX12_takeHabit 39 = .ok (.ifCond .lt 7, 3) := by decide +kernel
theorem dX12_takeHabit_42 : decode cX12_takeHabit 42 = .ok (.iconst 1, 1) := by decide +kernel
theorem dX12_takeHabit_43 : decode cX12_takeHabit 43 = .ok (.goto 4, 3) := by decide +kernel
theorem dX12_takeHabit_46 : decode cX12_takeHabit 46 = .ok (.iconst 0, 1) := by decide +kernel
theorem dX12_takeHabit_47 : decode cX12_takeHabit 47 = .ok (.istore_n 2, 1) := by decide +kernel
theorem dX12_takeHabit_48 : decode cX12_takeHabit 48 = .ok (.iload_n 1, 1) := by decide +kernel
theorem dX12_takeHabit_49 : decode cX12_takeHabit 49 = .ok (.ifCond .lt 7, 3) := by decide +kernel
theorem dX12_takeHabit_52 : decode cX12_takeHabit 52 = .ok (.iload_n 2, 1) := by decide +kernel
theorem dX12_takeHabit_53 : decode cX12_takeHabit 53 = .ok (.ifCond .eq 21, 3) := by decide +kernel
theorem dX12_takeHabit_56 : decode cX12_takeHabit 56 = .ok (.aload_n 0, 1) := by decide +kernel
theorem dX12_takeHabit_57 : decode cX12_takeHabit 57 = .ok (.iload_n 2, 1) := by decide +kernel
theorem dX12_takeHabit_58 : decode cX12_takeHabit 58 = .ok (.ifCond .eq 7, 3) := by decide +kernel
theorem dX12_takeHabit_61 : decode cX12_takeHabit 61 = .ok (.iconst 3, 1) := by decide +kernel
theorem dX12_takeHabit_62 : decode cX12_takeHabit 62 = .ok (.goto 4, 3) := by decide +kernel
theorem dX12_takeHabit_65 : decode cX12_takeHabit 65 = .ok (.iconst 1, 1) := by decide +kernel
theorem dX12_takeHabit_66 : decode cX12_takeHabit 66 = .ok (.aload_n 0, 1) := by decide +kernel
theorem dX12_takeHabit_67 : decode cX12_takeHabit 67 = .ok (.getfield 167, 3) := by decide +kernel
theorem dX12_takeHabit_70 : decode cX12_takeHabit 70 = .ok (.invokevirtual 178, 3) := by decide +kernel
theorem dX12_takeHabit_73 : decode cX12_takeHabit 73 = .ok (.ireturn, 1) := by decide +kernel
theorem dX12_takeHabit_74 : decode cX12_takeHabit 74 = .ok (.aload_n 0, 1) := by decide +kernel
theorem dX12_takeHabit_75 : decode cX12_takeHabit 75 = .ok (.aload_n 0, 1) := by decide +kernel
theorem dX12_takeHabit_76 : decode cX12_takeHabit 76 = .ok (.getfield 255, 3) := by decide +kernel
theorem dX12_takeHabit_79 : decode cX12_takeHabit 79 = .ok (.putfield 167, 3) := by decide +kernel
theorem dX12_takeHabit_82 : decode cX12_takeHabit 82 = .ok (.iconst 0, 1) := by decide +kernel
theorem dX12_takeHabit_83 : decode cX12_takeHabit 83 = .ok (.istore_n 3, 1) := by decide +kernel
theorem dX12_takeHabit_84 : decode cX12_takeHabit 84 = .ok (.iload_n 1, 1) := by decide +kernel
theorem dX12_takeHabit_85 : decode cX12_takeHabit 85 = .ok (.ifCond .ne 11, 3) := by decide +kernel
theorem dX12_takeHabit_88 : decode cX12_takeHabit 88 = .ok (.aload_n 0, 1) := by decide +kernel
theorem dX12_takeHabit_89 : decode cX12_takeHabit 89 = .ok (.invokevirtual 288, 3) := by decide +kernel
theorem dX12_takeHabit_92 : decode cX12_takeHabit 92 = .ok (.istore_n 3, 1) := by decide +kernel
theorem dX12_takeHabit_93 : decode cX12_takeHabit 93 = .ok (.goto 107, 3) := by decide +kernel
theorem dX12_takeHabit_96 : decode cX12_takeHabit 96 = .ok (.iload_n 1, 1) := by decide +kernel
theorem dX12_takeHabit_97 : decode cX12_takeHabit 97 = .ok (.iconst 1, 1) := by decide +kernel
theorem dX12_takeHabit_98 : decode cX12_takeHabit 98 = .ok (.if_icmp .ne 19, 3) := by decide +kernel
theorem dX12_takeHabit_101 : decode cX12_takeHabit 101 = .ok (.aload_n 0, 1) := by decide +kernel
theorem dX12_takeHabit_102 : decode cX12_takeHabit 102 = .ok (.iconst 1, 1) := by decide +kernel
theorem dX12_takeHabit_103 : decode cX12_takeHabit 103 = .ok (.bipush 20, 2) := by decide +kernel
theorem dX12_takeHabit_105 : decode cX12_takeHabit 105 = .ok (.invokevirtual 188, 3) := by decide +kernel
theorem dX12_takeHabit_108 : decode cX12_takeHabit 108 = .ok (.istore_n 3, 1) := by decide +kernel
theorem dX12_takeHabit_109 : decode cX12_takeHabit 109 = .ok (.aload_n 0, 1) := by decide +kernel
theorem dX12_takeHabit_110 : decode cX12_takeHabit 110 = .ok (.aload_n 0, 1) := by decide +kernel
theorem dX12_takeHabit_111 : decode cX12_takeHabit 111 = .ok (.getfield 185, 3) := by decide +kernel
theorem dX12_takeHabit_114 : decode cX12_takeHabit 114 = .ok (.putfield 245, 3) := by decide +kernel
theorem dX12_takeHabit_117 : decode cX12_takeHabit 117 = .ok (.iload_n 1, 1) := by decide +kernel
theorem dX12_takeHabit_118 : decode cX12_takeHabit 118 = .ok (.iconst 3, 1) := by decide +kernel
theorem dX12_takeHabit_119 : decode cX12_takeHabit 119 = .ok (.if_icmp .ne 55, 3) := by decide +kernel
theorem dX12_takeHabit_122 : decode cX12_takeHabit 122 = .ok (.aload_n 0, 1) := by decide +kernel
theorem dX12_takeHabit_123 : decode cX12_takeHabit 123 = .ok (.invokevirtual 282, 3) := by decide +kernel
theorem dX12_takeHabit_126 : decode cX12_takeHabit 126 = .ok (.aload_n 0, 1) := by decide +kernel
theorem dX12_takeHabit_127 : decode cX12_takeHabit 127 = .ok (.aload_n 0, 1) := by decide +kernel
theorem dX12_takeHabit_128 : decode cX12_takeHabit 128 = .ok (.invokevirtual 291, 3) := by decide +kernel
theorem dX12_takeHabit_131 : decode cX12_takeHabit 131 = .ok (.putfield 248, 3) := by decide +kernel
theorem dX12_takeHabit_134 : decode cX12_takeHabit 134 = .ok (.aload_n 0, 1) := by decide +kernel
theorem dX12_takeHabit_135 : decode cX12_takeHabit 135 = .ok (.getfield 248, 3) := by decide +kernel
theorem dX12_takeHabit_138 : decode cX12_takeHabit 138 = .ok (.ifCond .ge 15, 3) := by decide +kernel
theorem dX12_takeHabit_141 : decode cX12_takeHabit 141 = .ok (.aload_n 0, 1) := by decide +kernel
theorem dX12_takeHabit_142 : decode cX12_takeHabit 142 = .ok (.iconst 1, 1) := by decide +kernel
theorem dX12_takeHabit_143 : decode cX12_takeHabit 143 = .ok (.aload_n 0, 1) := by decide +kernel
theorem dX12_takeHabit_144 : decode cX12_takeHabit 144 = .ok (.getfield 167, 3) := by decide +kernel
theorem dX12_takeHabit_147 : decode cX12_takeHabit 147 = .ok (.invokevirtual 178, 3) := by decide +kernel
theorem dX12_takeHabit_150 : decode cX12_takeHabit 150 = .ok (.goto 4, 3) := by decide +kernel
theorem dX12_takeHabit_153 : decode cX12_takeHabit 153 = .ok (.iconst 0, 1) := by decide +kernel
theorem dX12_takeHabit_154 : decode cX12_takeHabit 154 = .ok (.istore_n 3, 1) := by decide +kernel
theorem dX12_takeHabit_155 : decode cX12_takeHabit 155 = .ok (.aload_n 0, 1) := by decide +kernel
theorem dX12_takeHabit_156 : decode cX12_takeHabit 156 = .ok (.iload_n 3, 1) := by decide +kernel
theorem dX12_takeHabit_157 : decode cX12_takeHabit 157 = .ok (.ifCond .le 10, 3) := by decide +kernel
theorem dX12_takeHabit_160 : decode cX12_takeHabit 160 = .ok (.aload_n 0, 1) := by decide +kernel
theorem dX12_takeHabit_161 : decode cX12_takeHabit 161 = .ok (.getfield 167, 3) := by decide +kernel
theorem dX12_takeHabit_164 : decode cX12_takeHabit 164 = .ok (.goto 7, 3) := by decide +kernel
theorem dX12_takeHabit_167 : decode cX12_takeHabit 167 = .ok (.aload_n 0, 1) := by decide +kernel
theorem dX12_takeHabit_168 : decode cX12_takeHabit 168 = .ok (.getfield 255, 3) := by decide +kernel
theorem dX12_takeHabit_171 : decode cX12_takeHabit 171 = .ok (.putfield 167, 3) := by decide +kernel
theorem dX12_takeHabit_174 : decode cX12_takeHabit 174 = .ok (.iload_n 3, 1) := by decide +kernel
theorem dX12_takeHabit_175 : decode cX12_takeHabit 175 = .ok (.ifCond .le 7, 3) := by decide +kernel
theorem dX12_takeHabit_178 : decode cX12_takeHabit 178 = .ok (.iload_n 3, 1) := by decide +kernel
theorem dX12_takeHabit_179 : decode cX12_takeHabit 179 = .ok (.goto 10, 3) := by decide +kernel
theorem dX12_takeHabit_182 : decode cX12_takeHabit 182 = .ok (.aload_n 0, 1) := by decide +kernel
theorem dX12_takeHabit_183 : decode cX12_takeHabit 183 = .ok (.iconst 1, 1) := by decide +kernel
theorem dX12_takeHabit_184 : decode cX12_takeHabit 184 = .ok (.bipush 99, 2) := by decide +kernel
theorem dX12_takeHabit_186 : decode cX12_takeHabit 186 = .ok (.invokevirtual 188, 3) := by decide +kernel
theorem dX12_takeHabit_189 : decode cX12_takeHabit 189 = .ok (.istore_n 3, 1) := by decide +kernel
theorem dX12_takeHabit_190 : decode cX12_takeHabit 190 = .ok (.aload_n 0, 1) := by decide +kernel
theorem dX12_takeHabit_191 : decode cX12_takeHabit 191 = .ok (.getfield 95, 3) := by decide +kernel
theorem dX12_takeHabit_194 : decode cX12_takeHabit 194 = .ok (.iload_n 1, 1) := by decide +kernel
theorem dX12_takeHabit_195 : decode cX12_takeHabit 195 = .ok (.aload_n 0, 1) := by decide +kernel
theorem dX12_takeHabit_196 : decode cX12_takeHabit 196 = .ok (.getfield 185, 3) := by decide +kernel
theorem dX12_takeHabit_199 : decode cX12_takeHabit 199 = .ok (.iastore, 1) := by decide +kernel
theorem dX12_takeHabit_200 : decode cX12_takeHabit 200 = .ok (.iload_n 3, 1) := by decide +kernel
theorem dX12_takeHabit_201 : decode cX12_takeHabit 201 = .ok (.ifCond .le 5, 3) := by decide +kernel
theorem dX12_takeHabit_204 : decode cX12_takeHabit 204 = .ok (.iload_n 3, 1) := by decide +kernel
theorem dX12_takeHabit_205 : decode cX12_takeHabit 205 = .ok (.ireturn, 1) := by decide +kernel
theorem dX12_takeHabit_206 : decode cX12_takeHabit 206 = .ok (.aload_n 0, 1) := by decide +kernel
theorem dX12_takeHabit_207 : decode cX12_takeHabit 207 = .ok (.invokevirtual 170, 3) := by decide +kernel
theorem dX12_takeHabit_210 : decode cX12_takeHabit 210 = .ok (.bipush 59, 2) := by decide +kernel
theorem dX12_takeHabit_212 : decode cX12_takeHabit 212 = .ok (.if_icmp .eq 13, 3) := by decide +kernel
theorem dX12_takeHabit_215 : decode cX12_takeHabit 215 = .ok (.aload_n 0, 1) := by decide +kernel
theorem dX12_takeHabit_216 : decode cX12_takeHabit 216 = .ok (.iconst 1, 1) := by decide +kernel
theorem dX12_takeHabit_217 : decode cX12_takeHabit 217 = .ok (.aload_n 0, 1) := by decide +kernel
theorem dX12_takeHabit_218 : decode cX12_takeHabit 218 = .ok (.getfield 167, 3) := by decide +kernel
theorem dX12_takeHabit_221 : decode cX12_takeHabit 221 = .ok (.invokevirtual 178, 3) := by decide +kernel
theorem dX12_takeHabit_224 : decode cX12_takeHabit 224 = .ok (.ireturn, 1) := by decide +kernel
theorem dX12_takeHabit_225 : decode cX12_takeHabit 225 = .ok (.aload_n 0, 1) := by decide +kernel
theorem dX12_takeHabit_226 : decode cX12_takeHabit 226 = .ok (.dup, 1) := by decide +kernel
theorem dX12_takeHabit_227 : decode cX12_takeHabit 227 = .ok (.getfield 167, 3) := by decide +kernel
theorem dX12_takeHabit_230 : decode cX12_takeHabit 230 = .ok (.iconst 1, 1) := by decide +kernel
theorem dX12_takeHabit_231 : decode cX12_takeHabit 231 = .ok (.iadd, 1) := by decide +kernel
theorem dX12_takeHabit_232 : decode cX12_takeHabit 232 = .ok (.putfield 167, 3) := by decide +kernel
theorem dX12_takeHabit_235 : decode cX12_takeHabit 235 = .ok (.iconst 0, 1) := by decide +kernel
theorem dX12_takeHabit_236 : decode cX12_takeHabit 236 = .ok (.ireturn, 1) := by decide +kernel
theorem dX12_hand_0 : decode cX12_hand 0 = .ok (.iload_n 1, 1) := by decide +kernel
theorem dX12_hand_1 : decode cX12_hand 1 = .ok (.i2l, 1) := by decide +kernel
theorem dX12_hand_2 : decode cX12_hand 2 = .ok (.lconst 0, 1) := by decide +kernel
theorem dX12_hand_3 : decode cX12_hand 3 = .ok (.ldc2_w 294, 3) := by decide +kernel
theorem dX12_hand_6 : decode cX12_hand 6 = .ok (.invokestatic 154, 3) := by decide +kernel
theorem dX12_hand_9 : decode cX12_hand 9 = .ok (.ifCond .ne 7, 3) := by decide +kernel
theorem dX12_hand_12 : decode cX12_hand 12 = .ok (.sipush (-1001), 3) := by decide +kernel
theorem dX12_hand_15 : decode cX12_hand 15 = .ok (.ireturn, 1) := by decide +kernel
theorem dX12_hand_16 : decode cX12_hand 16 = .ok (.aload_n 0, 1) := by decide +kernel
theorem dX12_hand_17 : decode cX12_hand 17 = .ok (.getfield 162, 3) := by decide +kernel
theorem dX12_hand_20 : decode cX12_hand 20 = .ok (.sipush 160, 3) := by decide +kernel
theorem dX12_hand_23 : decode cX12_hand 23 = .ok (.if_icmp .le 7, 3) := by decide +kernel
theorem dX12_hand_26 : decode cX12_hand 26 = .ok (.sipush (-1002), 3) := by decide +kernel
theorem dX12_hand_29 : decode cX12_hand 29 = .ok (.ireturn, 1) := by decide +kernel
theorem dX12_hand_30 : decode cX12_hand 30 = .ok (.aload_n 0, 1) := by decide +kernel
theorem dX12_hand_31 : decode cX12_hand 31 = .ok (.iconst (-1), 1) := by decide +kernel
theorem dX12_hand_32 : decode cX12_hand 32 = .ok (.putfield 55, 3) := by decide +kernel
theorem dX12_hand_35 : decode cX12_hand 35 = .ok (.aload_n 0, 1) := by decide +kernel
theorem dX12_hand_36 : decode cX12_hand 36 = .ok (.iconst 0, 1) := by decide +kernel
theorem dX12_hand_37 : decode cX12_hand 37 = .ok (.putfield 167, 3) := by decide +kernel
theorem dX12_hand_40 : decode cX12_hand 40 = .ok (.aload_n 0, 1) := by decide +kernel
theorem dX12_hand_41 : decode cX12_hand 41 = .ok (.invokevirtual 144, 3) := by decide +kernel
theorem dX12_hand_44 : decode cX12_hand 44 = .ok (.iconst 0, 1) := by decide +kernel
theorem dX12_hand_45 : decode cX12_hand 45 = .ok (.istore_n 2, 1) := by decide +kernel
theorem dX12_hand_46 : decode cX12_hand 46 = .ok (.iconst 0, 1) := by decide +kernel
theorem dX12_hand_47 : decode cX12_hand 47 = .ok (.istore_n 3, 1) := by decide +kernel
theorem dX12_hand_48 : decode cX12_hand 48 = .ok (.iload_n 3, 1) := by decide +kernel
theorem dX12_hand_49 : decode cX12_hand 49 = .ok (.ifCond .ne 21, 3) := by decide +kernel
theorem dX12_hand_52 : decode cX12_hand 52 = .ok (.aload_n 0, 1) := by decide +kernel
theorem dX12_hand_53 : decode cX12_hand 53 = .ok (.invokevirtual 170, 3) := by decide +kernel
theorem dX12_hand_56 : decode cX12_hand 56 = .ok (.ifCond .lt 14, 3) := by decide +kernel
theorem dX12_hand_59 : decode cX12_hand 59 = .ok (.aload_n 0, 1) := by decide +kernel
theorem dX12_hand_60 : decode cX12_hand 60 = .ok (.invokevirtual 296, 3) := by decide +kernel
theorem dX12_hand_63 : decode cX12_hand 63 = .ok (.istore_n 3, 1) := by decide +kernel
theorem dX12_hand_64 : decode cX12_hand 64 = .ok (.iinc 2 1, 3) := by decide +kernel
theorem dX12_hand_67 : decode cX12_hand 67 = .ok (.goto (-19), 3) := by decide +kernel
theorem dX12_hand_70 : decode cX12_hand 70 = .ok (.aload_n 0, 1) := by decide +kernel
theorem dX12_hand_71 : decode cX12_hand 71 = .ok (.iconst 0, 1) := by decide +kernel
theorem dX12_hand_72 : decode cX12_hand 72 = .ok (.putfield 162, 3) := by decide +kernel
theorem dX12_hand_75 : decode cX12_hand 75 = .ok (.iload_n 3, 1) := by decide +kernel
theorem dX12_hand_76 : decode cX12_hand 76 = .ok (.ifCond .le 8, 3) := by decide +kernel
theorem dX12_hand_79 : decode cX12_hand 79 = .ok (.bipush (-10), 2) := by decide +kernel
theorem dX12_hand_81 : decode cX12_hand 81 = .ok (.iload_n 3, 1) := by decide +kernel
theorem dX12_hand_82 : decode cX12_hand 82 = .ok (.isub, 1) := by decide +kernel
theorem dX12_hand_83 : decode cX12_hand 83 = .ok (.ireturn, 1) := by decide +kernel
theorem dX12_hand_84 : decode cX12_hand 84 = .ok (.aload_n 0, 1) := by decide +kernel
theorem dX12_hand_85 : decode cX12_hand 85 = .ok (.iload_n 1, 1) := by decide +kernel
theorem dX12_hand_86 : decode cX12_hand 86 = .ok (.invokevirtual 147, 3) := by decide +kernel
theorem dX12_hand_89 : decode cX12_hand 89 = .ok (.iload_n 2, 1) := by decide +kernel
theorem dX12_hand_90 : decode cX12_hand 90 = .ok (.ireturn, 1) := by decide +kernel
theorem dX12_fault_0 : decode cX12_fault 0 = .ok (.aload_n 0, 1) := by decide +kernel
theorem dX12_fault_1 : decode cX12_fault 1 = .ok (.getfield 55, 3) := by decide +kernel
theorem dX12_fault_4 : decode cX12_fault 4 = .ok (.ireturn, 1) := by decide +kernel
theorem dX12_habit_0 : decode cX12_habit 0 = .ok (.iload_n 1, 1) := by decide +kernel
theorem dX12_habit_1 : decode cX12_habit 1 = .ok (.i2l, 1) := by decide +kernel
theorem dX12_habit_2 : decode cX12_habit 2 = .ok (.lconst 0, 1) := by decide +kernel
theorem dX12_habit_3 : decode cX12_habit 3 = .ok (.ldc2_w 294, 3) := by decide +kernel
theorem dX12_habit_6 : decode cX12_habit 6 = .ok (.invokestatic 154, 3) := by decide +kernel
theorem dX12_habit_9 : decode cX12_habit 9 = .ok (.ifCond .ne 7, 3) := by decide +kernel
theorem dX12_habit_12 : decode cX12_habit 12 = .ok (.sipush (-1001), 3) := by decide +kernel
theorem dX12_habit_15 : decode cX12_habit 15 = .ok (.ireturn, 1) := by decide +kernel
theorem dX12_habit_16 : decode cX12_habit 16 = .ok (.iload_n 2, 1) := by decide +kernel
theorem dX12_habit_17 : decode cX12_habit 17 = .ok (.lookupswitch 56 #[(0, 35), (6, 42), (7, 49)], 35) := by decide +kernel
theorem dX12_habit_52 : decode cX12_habit 52 = .ok (.aload_n 0, 1) := by decide +kernel
theorem dX12_habit_53 : decode cX12_habit 53 = .ok (.getfield 65, 3) := by decide +kernel
theorem dX12_habit_56 : decode cX12_habit 56 = .ok (.iload_n 1, 1) := by decide +kernel
theorem dX12_habit_57 : decode cX12_habit 57 = .ok (.iaload, 1) := by decide +kernel
theorem dX12_habit_58 : decode cX12_habit 58 = .ok (.ireturn, 1) := by decide +kernel
theorem dX12_habit_59 : decode cX12_habit 59 = .ok (.aload_n 0, 1) := by decide +kernel
theorem dX12_habit_60 : decode cX12_habit 60 = .ok (.getfield 80, 3) := by decide +kernel
theorem dX12_habit_63 : decode cX12_habit 63 = .ok (.iload_n 1, 1) := by decide +kernel
theorem dX12_habit_64 : decode cX12_habit 64 = .ok (.iaload, 1) := by decide +kernel
theorem dX12_habit_65 : decode cX12_habit 65 = .ok (.ireturn, 1) := by decide +kernel
theorem dX12_habit_66 : decode cX12_habit 66 = .ok (.aload_n 0, 1) := by decide +kernel
theorem dX12_habit_67 : decode cX12_habit 67 = .ok (.getfield 83, 3) := by decide +kernel
theorem dX12_habit_70 : decode cX12_habit 70 = .ok (.iload_n 1, 1) := by decide +kernel
theorem dX12_habit_71 : decode cX12_habit 71 = .ok (.iaload, 1) := by decide +kernel
theorem dX12_habit_72 : decode cX12_habit 72 = .ok (.ireturn, 1) := by decide +kernel
theorem dX12_habit_73 : decode cX12_habit 73 = .ok (.iload_n 2, 1) := by decide +kernel
theorem dX12_habit_74 : decode cX12_habit 74 = .ok (.i2l, 1) := by decide +kernel
theorem dX12_habit_75 : decode cX12_habit 75 = .ok (.lconst 1, 1) := by decide +kernel
theorem dX12_habit_76 : decode cX12_habit 76 = .ok (.ldc2_w 299, 3) := by decide +kernel
theorem dX12_habit_79 : decode cX12_habit 79 = .ok (.invokestatic 154, 3) := by decide +kernel
theorem dX12_habit_82 : decode cX12_habit 82 = .ok (.ifCond .eq 17, 3) := by decide +kernel
theorem dX12_habit_85 : decode cX12_habit 85 = .ok (.aload_n 0, 1) := by decide +kernel
theorem dX12_habit_86 : decode cX12_habit 86 = .ok (.getfield 77, 3) := by decide +kernel
theorem dX12_habit_89 : decode cX12_habit 89 = .ok (.bipush 6, 2) := by decide +kernel
theorem dX12_habit_91 : decode cX12_habit 91 = .ok (.iload_n 1, 1) := by decide +kernel
theorem dX12_habit_92 : decode cX12_habit 92 = .ok (.imul, 1) := by decide +kernel
theorem dX12_habit_93 : decode cX12_habit 93 = .ok (.iload_n 2, 1) := by decide +kernel
theorem dX12_habit_94 : decode cX12_habit 94 = .ok (.iadd, 1) := by decide +kernel
theorem dX12_habit_95 : decode cX12_habit 95 = .ok (.iaload, 1) := by decide +kernel
theorem dX12_habit_96 : decode cX12_habit 96 = .ok (.goto 6, 3) := by decide +kernel
theorem dX12_habit_99 : decode cX12_habit 99 = .ok (.sipush (-1002), 3) := by decide +kernel
theorem dX12_habit_102 : decode cX12_habit 102 = .ok (.ireturn, 1) := by decide +kernel
theorem dX12_noneGone_0 : decode cX12_noneGone 0 = .ok (.iconst 0, 1) := by decide +kernel
theorem dX12_noneGone_1 : decode cX12_noneGone 1 = .ok (.istore_n 1, 1) := by decide +kernel
theorem dX12_noneGone_2 : decode cX12_noneGone 2 = .ok (.iload_n 1, 1) := by decide +kernel
theorem dX12_noneGone_3 : decode cX12_noneGone 3 = .ok (.bipush 20, 2) := by decide +kernel
theorem dX12_noneGone_5 : decode cX12_noneGone 5 = .ok (.if_icmp .ge 16, 3) := by decide +kernel
theorem dX12_noneGone_8 : decode cX12_noneGone 8 = .ok (.aload_n 0, 1) := by decide +kernel
theorem dX12_noneGone_9 : decode cX12_noneGone 9 = .ok (.getfield 98, 3) := by decide +kernel
theorem dX12_noneGone_12 : decode cX12_noneGone 12 = .ok (.iload_n 1, 1) := by decide +kernel
theorem dX12_noneGone_13 : decode cX12_noneGone 13 = .ok (.iconst 0, 1) := by decide +kernel
theorem dX12_noneGone_14 : decode cX12_noneGone 14 = .ok (.bastore, 1) := by decide +kernel
theorem dX12_noneGone_15 : decode cX12_noneGone 15 = .ok (.iinc 1 1, 3) := by decide +kernel
theorem dX12_noneGone_18 : decode cX12_noneGone 18 = .ok (.goto (-16), 3) := by decide +kernel
theorem dX12_noneGone_21 : decode cX12_noneGone 21 = .ok (.return_, 1) := by decide +kernel
theorem dX12_goes_0 : decode cX12_goes 0 = .ok (.aload_n 0, 1) := by decide +kernel
theorem dX12_goes_1 : decode cX12_goes 1 = .ok (.getfield 25, 3) := by decide +kernel
theorem dX12_goes_4 : decode cX12_goes 4 = .ok (.sipush 200, 3) := by decide +kernel
theorem dX12_goes_7 : decode cX12_goes 7 = .ok (.iload_n 1, 1) := by decide +kernel
theorem dX12_goes_8 : decode cX12_goes 8 = .ok (.iadd, 1) := by decide +kernel
theorem dX12_goes_9 : decode cX12_goes 9 = .ok (.iaload, 1) := by decide +kernel
theorem dX12_goes_10 : decode cX12_goes 10 = .ok (.istore_n 2, 1) := by decide +kernel
theorem dX12_goes_11 : decode cX12_goes 11 = .ok (.aload_n 0, 1) := by decide +kernel
theorem dX12_goes_12 : decode cX12_goes 12 = .ok (.getfield 98, 3) := by decide +kernel
theorem dX12_goes_15 : decode cX12_goes 15 = .ok (.iload_n 1, 1) := by decide +kernel
theorem dX12_goes_16 : decode cX12_goes 16 = .ok (.iconst 1, 1) := by decide +kernel
theorem dX12_goes_17 : decode cX12_goes 17 = .ok (.bastore, 1) := by decide +kernel
theorem dX12_goes_18 : decode cX12_goes 18 = .ok (.iload_n 1, 1) := by decide +kernel
theorem dX12_goes_19 : decode cX12_goes 19 = .ok (.iconst 1, 1) := by decide +kernel
theorem dX12_goes_20 : decode cX12_goes 20 = .ok (.iadd, 1) := by decide +kernel
theorem dX12_goes_21 : decode cX12_goes 21 = .ok (.istore_n 3, 1) := by decide +kernel
theorem dX12_goes_22 : decode cX12_goes 22 = .ok (.iload_n 3, 1) := by decide +kernel
theorem dX12_goes_23 : decode cX12_goes 23 = .ok (.aload_n 0, 1) := by decide +kernel
theorem dX12_goes_24 : decode cX12_goes 24 = .ok (.getfield 19, 3) := by decide +kernel
theorem dX12_goes_27 : decode cX12_goes 27 = .ok (.bipush 10, 2) := by decide +kernel
theorem dX12_goes_29 : decode cX12_goes 29 = .ok (.iaload, 1) := by decide +kernel
theorem dX12_goes_30 : decode cX12_goes 30 = .ok (.if_icmp .ge 56, 3) := by decide +kernel
theorem dX12_goes_33 : decode cX12_goes 33 = .ok (.aload_n 0, 1) := by decide +kernel
theorem dX12_goes_34 : decode cX12_goes 34 = .ok (.getfield 25, 3) := by decide +kernel
theorem dX12_goes_37 : decode cX12_goes 37 = .ok (.sipush 200, 3) := by decide +kernel
theorem dX12_goes_40 : decode cX12_goes 40 = .ok (.iload_n 3, 1) := by decide +kernel
theorem dX12_goes_41 : decode cX12_goes 41 = .ok (.iadd, 1) := by decide +kernel
theorem dX12_goes_42 : decode cX12_goes 42 = .ok (.iaload, 1) := by decide +kernel
theorem dX12_goes_43 : decode cX12_goes 43 = .ok (.istore 4, 2) := by decide +kernel
theorem dX12_goes_45 : decode cX12_goes 45 = .ok (.aload_n 0, 1) := by decide +kernel
theorem dX12_goes_46 : decode cX12_goes 46 = .ok (.getfield 98, 3) := by decide +kernel
theorem dX12_goes_49 : decode cX12_goes 49 = .ok (.iload_n 3, 1) := by decide +kernel
theorem dX12_goes_50 : decode cX12_goes 50 = .ok (.aload_n 0, 1) := by decide +kernel
theorem dX12_goes_51 : decode cX12_goes 51 = .ok (.getfield 98, 3) := by decide +kernel
theorem dX12_goes_54 : decode cX12_goes 54 = .ok (.iload_n 3, 1) := by decide +kernel
theorem dX12_goes_55 : decode cX12_goes 55 = .ok (.baload, 1) := by decide +kernel
theorem dX12_goes_56 : decode cX12_goes 56 = .ok (.ifCond .ne 18, 3) := by decide +kernel
theorem dX12_goes_59 : decode cX12_goes 59 = .ok (.iload 4, 2) := by decide +kernel
theorem dX12_goes_61 : decode cX12_goes 61 = .ok (.ifCond .lt 17, 3) := by decide +kernel
theorem dX12_goes_64 : decode cX12_goes 64 = .ok (.aload_n 0, 1) := by decide +kernel
theorem dX12_goes_65 : decode cX12_goes 65 = .ok (.getfield 98, 3) := by decide +kernel
theorem dX12_goes_68 : decode cX12_goes 68 = .ok (.iload 4, 2) := by decide +kernel
theorem dX12_goes_70 : decode cX12_goes 70 = .ok (.baload, 1) := by decide +kernel
theorem dX12_goes_71 : decode cX12_goes 71 = .ok (.ifCond .eq 7, 3) := by decide +kernel
theorem dX12_goes_74 : decode cX12_goes 74 = .ok (.iconst 1, 1) := by decide +kernel
theorem dX12_goes_75 : decode cX12_goes 75 = .ok (.goto 4, 3) := by decide +kernel
theorem dX12_goes_78 : decode cX12_goes 78 = .ok (.iconst 0, 1) := by decide +kernel
theorem dX12_goes_79 : decode cX12_goes 79 = .ok (.bastore, 1) := by decide +kernel
theorem dX12_goes_80 : decode cX12_goes 80 = .ok (.iinc 3 1, 3) := by decide +kernel
theorem dX12_goes_83 : decode cX12_goes 83 = .ok (.goto (-61), 3) := by decide +kernel
theorem dX12_goes_86 : decode cX12_goes 86 = .ok (.aload_n 0, 1) := by decide +kernel
theorem dX12_goes_87 : decode cX12_goes 87 = .ok (.iload_n 2, 1) := by decide +kernel
theorem dX12_goes_88 : decode cX12_goes 88 = .ok (.aload_n 0, 1) := by decide +kernel
theorem dX12_goes_89 : decode cX12_goes 89 = .ok (.getfield 28, 3) := by decide +kernel
theorem dX12_goes_92 : decode cX12_goes 92 = .ok (.sipush 200, 3) := by decide +kernel
theorem dX12_goes_95 : decode cX12_goes 95 = .ok (.iload_n 1, 1) := by decide +kernel
theorem dX12_goes_96 : decode cX12_goes 96 = .ok (.iadd, 1) := by decide +kernel
theorem dX12_goes_97 : decode cX12_goes 97 = .ok (.iaload, 1) := by decide +kernel
theorem dX12_goes_98 : decode cX12_goes 98 = .ok (.invokevirtual 301, 3) := by decide +kernel
theorem dX12_goes_101 : decode cX12_goes 101 = .ok (.return_, 1) := by decide +kernel
theorem dX12_glossesOn_0 : decode cX12_glossesOn 0 = .ok (.iconst 0, 1) := by decide +kernel
theorem dX12_glossesOn_1 : decode cX12_glossesOn 1 = .ok (.istore_n 2, 1) := by decide +kernel
theorem dX12_glossesOn_2 : decode cX12_glossesOn 2 = .ok (.iconst 0, 1) := by decide +kernel
theorem dX12_glossesOn_3 : decode cX12_glossesOn 3 = .ok (.istore_n 3, 1) := by decide +kernel
theorem dX12_glossesOn_4 : decode cX12_glossesOn 4 = .ok (.iload_n 3, 1) := by decide +kernel
theorem dX12_glossesOn_5 : decode cX12_glossesOn 5 = .ok (.aload_n 0, 1) := by decide +kernel
theorem dX12_glossesOn_6 : decode cX12_glossesOn 6 = .ok (.getfield 19, 3) := by decide +kernel
theorem dX12_glossesOn_9 : decode cX12_glossesOn 9 = .ok (.bipush 10, 2) := by decide +kernel
theorem dX12_glossesOn_11 : decode cX12_glossesOn 11 = .ok (.iaload, 1) := by decide +kernel
theorem dX12_glossesOn_12 : decode cX12_glossesOn 12 = .ok (.if_icmp .ge 40, 3) := by decide +kernel
theorem dX12_glossesOn_15 : decode cX12_glossesOn 15 = .ok (.iload_n 2, 1) := by decide +kernel
theorem dX12_glossesOn_16 : decode cX12_glossesOn 16 = .ok (.aload_n 0, 1) := by decide +kernel
theorem dX12_glossesOn_17 : decode cX12_glossesOn 17 = .ok (.getfield 98, 3) := by decide +kernel
theorem dX12_glossesOn_20 : decode cX12_glossesOn 20 = .ok (.iload_n 3, 1) := by decide +kernel
theorem dX12_glossesOn_21 : decode cX12_glossesOn 21 = .ok (.baload, 1) := by decide +kernel
theorem dX12_glossesOn_22 : decode cX12_glossesOn 22 = .ok (.ifCond .ne 21, 3) := by decide +kernel
theorem dX12_glossesOn_25 : decode cX12_glossesOn 25 = .ok (.aload_n 0, 1) := by decide +kernel
theorem dX12_glossesOn_26 : decode cX12_glossesOn 26 = .ok (.getfield 28, 3) := by decide +kernel
theorem dX12_glossesOn_29 : decode cX12_glossesOn 29 = .ok (.sipush 200, 3) := by decide +kernel
theorem dX12_glossesOn_32 : decode cX12_glossesOn 32 = .ok (.iload_n 3, 1) := by decide +kernel
theorem dX12_glossesOn_33 : decode cX12_glossesOn 33 = .ok (.iadd, 1) := by decide +kernel
theorem dX12_glossesOn_34 : decode cX12_glossesOn 34 = .ok (.iaload, 1) := by decide +kernel
theorem dX12_glossesOn_35 : decode cX12_glossesOn 35 = .ok (.iload_n 1, 1) := by decide +kernel
theorem dX12_glossesOn_36 : decode cX12_glossesOn 36 = .ok (.if_icmp .ne 7, 3) := by decide +kernel
theorem dX12_glossesOn_39 : decode cX12_glossesOn 39 = .ok (.iconst 1, 1) := by decide +kernel
theorem dX12_glossesOn_40 : decode cX12_glossesOn 40 = .ok (.goto 4, 3) := by decide +kernel
theorem dX12_glossesOn_43 : decode cX12_glossesOn 43 = .ok (.iconst 0, 1) := by decide +kernel
theorem dX12_glossesOn_44 : decode cX12_glossesOn 44 = .ok (.iadd, 1) := by decide +kernel
theorem dX12_glossesOn_45 : decode cX12_glossesOn 45 = .ok (.istore_n 2, 1) := by decide +kernel
theorem dX12_glossesOn_46 : decode cX12_glossesOn 46 = .ok (.iinc 3 1, 3) := by decide +kernel
theorem dX12_glossesOn_49 : decode cX12_glossesOn 49 = .ok (.goto (-45), 3) := by decide +kernel
theorem dX12_glossesOn_52 : decode cX12_glossesOn 52 = .ok (.iload_n 2, 1) := by decide +kernel
theorem dX12_glossesOn_53 : decode cX12_glossesOn 53 = .ok (.ireturn, 1) := by decide +kernel
theorem dX12_clearSpan_0 : decode cX12_clearSpan 0 = .ok (.aload_n 0, 1) := by decide +kernel
theorem dX12_clearSpan_1 : decode cX12_clearSpan 1 = .ok (.iload_n 2, 1) := by decide +kernel
theorem dX12_clearSpan_2 : decode cX12_clearSpan 2 = .ok (.invokevirtual 304, 3) := by decide +kernel
theorem dX12_clearSpan_5 : decode cX12_clearSpan 5 = .ok (.ifCond .ne 54, 3) := by decide +kernel
theorem dX12_clearSpan_8 : decode cX12_clearSpan 8 = .ok (.iconst 0, 1) := by decide +kernel
theorem dX12_clearSpan_9 : decode cX12_clearSpan 9 = .ok (.istore_n 3, 1) := by decide +kernel
theorem dX12_clearSpan_10 : decode cX12_clearSpan 10 = .ok (.iload_n 3, 1) := by decide +kernel
theorem dX12_clearSpan_11 : decode cX12_clearSpan 11 = .ok (.aload_n 0, 1) := by decide +kernel
theorem dX12_clearSpan_12 : decode cX12_clearSpan 12 = .ok (.bipush 10, 2) := by decide +kernel
theorem dX12_clearSpan_14 : decode cX12_clearSpan 14 = .ok (.iload_n 1, 1) := by decide +kernel
theorem dX12_clearSpan_15 : decode cX12_clearSpan 15 = .ok (.invokevirtual 194, 3) := by decide +kernel
theorem dX12_clearSpan_18 : decode cX12_clearSpan 18 = .ok (.if_icmp .ge 41, 3) := by decide +kernel
theorem dX12_clearSpan_21 : decode cX12_clearSpan 21 = .ok (.aload_n 0, 1) := by decide +kernel
theorem dX12_clearSpan_22 : decode cX12_clearSpan 22 = .ok (.bipush 10, 2) := by decide +kernel
theorem dX12_clearSpan_24 : decode cX12_clearSpan 24 = .ok (.iload_n 1, 1) := by decide +kernel
theorem dX12_clearSpan_25 : decode cX12_clearSpan 25 = .ok (.iload_n 3, 1) := by decide +kernel
theorem dX12_clearSpan_26 : decode cX12_clearSpan 26 = .ok (.aload_n 0, 1) := by decide +kernel
theorem dX12_clearSpan_27 : decode cX12_clearSpan 27 = .ok (.bipush 10, 2) := by decide +kernel
theorem dX12_clearSpan_29 : decode cX12_clearSpan 29 = .ok (.iload_n 1, 1) := by decide +kernel
theorem dX12_clearSpan_30 : decode cX12_clearSpan 30 = .ok (.iload_n 3, 1) := by decide +kernel
theorem dX12_clearSpan_31 : decode cX12_clearSpan 31 = .ok (.invokevirtual 308, 3) := by decide +kernel
theorem dX12_clearSpan_34 : decode cX12_clearSpan 34 = .ok (.iload_n 2, 1) := by decide +kernel
theorem dX12_clearSpan_35 : decode cX12_clearSpan 35 = .ok (.if_icmp .ne 7, 3) := by decide +kernel
theorem dX12_clearSpan_38 : decode cX12_clearSpan 38 = .ok (.iconst (-1), 1) := by decide +kernel
theorem dX12_clearSpan_39 : decode cX12_clearSpan 39 = .ok (.goto 11, 3) := by decide +kernel
theorem dX12_clearSpan_42 : decode cX12_clearSpan 42 = .ok (.aload_n 0, 1) := by decide +kernel
theorem dX12_clearSpan_43 : decode cX12_clearSpan 43 = .ok (.bipush 10, 2) := by decide +kernel
theorem dX12_clearSpan_45 : decode cX12_clearSpan 45 = .ok (.iload_n 1, 1) := by decide +kernel
theorem dX12_clearSpan_46 : decode cX12_clearSpan 46 = .ok (.iload_n 3, 1) := by decide +kernel
theorem dX12_clearSpan_47 : decode cX12_clearSpan 47 = .ok (.invokevirtual 308, 3) := by decide +kernel
theorem dX12_clearSpan_50 : decode cX12_clearSpan 50 = .ok (.invokevirtual 207, 3) := by decide +kernel
theorem dX12_clearSpan_53 : decode cX12_clearSpan 53 = .ok (.iinc 3 1, 3) := by decide +kernel
theorem dX12_clearSpan_56 : decode cX12_clearSpan 56 = .ok (.goto (-46), 3) := by decide +kernel
theorem dX12_clearSpan_59 : decode cX12_clearSpan 59 = .ok (.return_, 1) := by decide +kernel
theorem dX12_enter_0 : decode cX12_enter 0 = .ok (.aload_n 0, 1) := by decide +kernel
theorem dX12_enter_1 : decode cX12_enter 1 = .ok (.getfield 102, 3) := by decide +kernel
theorem dX12_enter_4 : decode cX12_enter 4 = .ok (.aload_n 0, 1) := by decide +kernel
theorem dX12_enter_5 : decode cX12_enter 5 = .ok (.getfield 312, 3) := by decide +kernel
theorem dX12_enter_8 : decode cX12_enter 8 = .ok (.iload_n 1, 1) := by decide +kernel
theorem dX12_enter_9 : decode cX12_enter 9 = .ok (.iastore, 1) := by decide +kernel
theorem dX12_enter_10 : decode cX12_enter 10 = .ok (.aload_n 0, 1) := by decide +kernel
theorem dX12_enter_11 : decode cX12_enter 11 = .ok (.getfield 105, 3) := by decide +kernel
theorem dX12_enter_14 : decode cX12_enter 14 = .ok (.aload_n 0, 1) := by decide +kernel
theorem dX12_enter_15 : decode cX12_enter 15 = .ok (.getfield 312, 3) := by decide +kernel
theorem dX12_enter_18 : decode cX12_enter 18 = .ok (.iconst 0, 1) := by decide +kernel
theorem dX12_enter_19 : decode cX12_enter 19 = .ok (.iastore, 1) := by decide +kernel
theorem dX12_enter_20 : decode cX12_enter 20 = .ok (.aload_n 0, 1) := by decide +kernel
theorem dX12_enter_21 : decode cX12_enter 21 = .ok (.getfield 108, 3) := by decide +kernel
theorem dX12_enter_24 : decode cX12_enter 24 = .ok (.aload_n 0, 1) := by decide +kernel
theorem dX12_enter_25 : decode cX12_enter 25 = .ok (.getfield 312, 3) := by decide +kernel
theorem dX12_enter_28 : decode cX12_enter 28 = .ok (.iconst (-1), 1) := by decide +kernel
theorem dX12_enter_29 : decode cX12_enter 29 = .ok (.iastore, 1) := by decide +kernel
theorem dX12_enter_30 : decode cX12_enter 30 = .ok (.aload_n 0, 1) := by decide +kernel
theorem dX12_enter_31 : decode cX12_enter 31 = .ok (.getfield 111, 3) := by decide +kernel
theorem dX12_enter_34 : decode cX12_enter 34 = .ok (.aload_n 0, 1) := by decide +kernel
theorem dX12_enter_35 : decode cX12_enter 35 = .ok (.getfield 312, 3) := by decide +kernel
theorem dX12_enter_38 : decode cX12_enter 38 = .ok (.iconst (-1), 1) := by decide +kernel
theorem dX12_enter_39 : decode cX12_enter 39 = .ok (.iastore, 1) := by decide +kernel
theorem dX12_enter_40 : decode cX12_enter 40 = .ok (.aload_n 0, 1) := by decide +kernel
theorem dX12_enter_41 : decode cX12_enter 41 = .ok (.dup, 1) := by decide +kernel
theorem dX12_enter_42 : decode cX12_enter 42 = .ok (.getfield 312, 3) := by decide +kernel
theorem dX12_enter_45 : decode cX12_enter 45 = .ok (.iconst 1, 1) := by decide +kernel
theorem dX12_enter_46 : decode cX12_enter 46 = .ok (.iadd, 1) := by decide +kernel
theorem dX12_enter_47 : decode cX12_enter 47 = .ok (.putfield 312, 3) := by decide +kernel
theorem dX12_enter_50 : decode cX12_enter 50 = .ok (.return_, 1) := by decide +kernel
theorem dX12_nextOn_0 : decode cX12_nextOn 0 = .ok (.iload_n 3, 1) := by decide +kernel
theorem dX12_nextOn_1 : decode cX12_nextOn 1 = .ok (.iconst 1, 1) := by decide +kernel
theorem dX12_nextOn_2 : decode cX12_nextOn 2 = .ok (.iadd, 1) := by decide +kernel
theorem dX12_nextOn_3 : decode cX12_nextOn 3 = .ok (.istore 4, 2) := by decide +kernel
theorem dX12_nextOn_5 : decode cX12_nextOn 5 = .ok (.iload 4, 2) := by decide +kernel
theorem dX12_nextOn_7 : decode cX12_nextOn 7 = .ok (.aload_n 0, 1) := by decide +kernel
theorem dX12_nextOn_8 : decode cX12_nextOn 8 = .ok (.getfield 19, 3) := by decide +kernel
theorem dX12_nextOn_11 : decode cX12_nextOn 11 = .ok (.iload_n 1, 1) := by decide +kernel
theorem dX12_nextOn_12 : decode cX12_nextOn 12 = .ok (.iaload, 1) := by decide +kernel
theorem dX12_nextOn_13 : decode cX12_nextOn 13 = .ok (.if_icmp .ge 38, 3) := by decide +kernel
theorem dX12_nextOn_16 : decode cX12_nextOn 16 = .ok (.aload_n 0, 1) := by decide +kernel
theorem dX12_nextOn_17 : decode cX12_nextOn 17 = .ok (.getfield 98, 3) := by decide +kernel
theorem dX12_nextOn_20 : decode cX12_nextOn 20 = .ok (.iload 4, 2) := by decide +kernel
theorem dX12_nextOn_22 : decode cX12_nextOn 22 = .ok (.baload, 1) := by decide +kernel
theorem dX12_nextOn_23 : decode cX12_nextOn 23 = .ok (.ifCond .ne 22, 3) := by decide +kernel
theorem dX12_nextOn_26 : decode cX12_nextOn 26 = .ok (.aload_n 0, 1) := by decide +kernel
theorem dX12_nextOn_27 : decode cX12_nextOn 27 = .ok (.getfield 28, 3) := by decide +kernel
theorem dX12_nextOn_30 : decode cX12_nextOn 30 = .ok (.bipush 20, 2) := by decide +kernel
theorem dX12_nextOn_32 : decode cX12_nextOn 32 = .ok (.iload_n 1, 1) := by decide +kernel
theorem dX12_nextOn_33 : decode cX12_nextOn 33 = .ok (.imul, 1) := by decide +kernel
theorem dX12_nextOn_34 : decode cX12_nextOn 34 = .ok (.iload 4, 2) := by decide +kernel
theorem dX12_nextOn_36 : decode cX12_nextOn 36 = .ok (.iadd, 1) := by decide +kernel
theorem dX12_nextOn_37 : decode cX12_nextOn 37 = .ok (.iaload, 1) := by decide +kernel
theorem dX12_nextOn_38 : decode cX12_nextOn 38 = .ok (.iload_n 2, 1) := by decide +kernel
theorem dX12_nextOn_39 : decode cX12_nextOn 39 = .ok (.if_icmp .ne 6, 3) := by decide +kernel
theorem dX12_nextOn_42 : decode cX12_nextOn 42 = .ok (.iload 4, 2) := by decide +kernel
theorem dX12_nextOn_44 : decode cX12_nextOn 44 = .ok (.ireturn, 1) := by decide +kernel
theorem dX12_nextOn_45 : decode cX12_nextOn 45 = .ok (.iinc 4 1, 3) := by decide +kernel
theorem dX12_nextOn_48 : decode cX12_nextOn 48 = .ok (.goto (-43), 3) := by decide +kernel
theorem dX12_nextOn_51 : decode cX12_nextOn 51 = .ok (.iconst (-1), 1) := by decide +kernel
theorem dX12_nextOn_52 : decode cX12_nextOn 52 = .ok (.ireturn, 1) := by decide +kernel
theorem dX12_printNumber_0 : decode cX12_printNumber 0 = .ok (.aload_n 0, 1) := by decide +kernel
theorem dX12_printNumber_1 : decode cX12_printNumber 1 = .ok (.getfield 315, 3) := by decide +kernel
theorem dX12_printNumber_4 : decode cX12_printNumber 4 = .ok (.ifCond .le 31, 3) := by decide +kernel
theorem dX12_printNumber_7 : decode cX12_printNumber 7 = .ok (.aload_n 0, 1) := by decide +kernel
theorem dX12_printNumber_8 : decode cX12_printNumber 8 = .ok (.getfield 120, 3) := by decide +kernel
theorem dX12_printNumber_11 : decode cX12_printNumber 11 = .ok (.aload_n 0, 1) := by decide +kernel
theorem dX12_printNumber_12 : decode cX12_printNumber 12 = .ok (.getfield 315, 3) := by decide +kernel
theorem dX12_printNumber_15 : decode cX12_printNumber 15 = .ok (.iconst 1, 1) := by decide +kernel
theorem dX12_printNumber_16 : decode cX12_printNumber 16 = .ok (.isub, 1) := by decide +kernel
theorem dX12_printNumber_17 : decode cX12_printNumber 17 = .ok (.iaload, 1) := by decide +kernel
theorem dX12_printNumber_18 : decode cX12_printNumber 18 = .ok (.i2l, 1) := by decide +kernel
theorem dX12_printNumber_19 : decode cX12_printNumber 19 = .ok (.ldc2_w 174, 3) := by decide +kernel
theorem dX12_printNumber_22 : decode cX12_printNumber 22 = .ok (.ldc2_w 176, 3) := by decide +kernel
theorem dX12_printNumber_25 : decode cX12_printNumber 25 = .ok (.invokestatic 154, 3) := by decide +kernel
theorem dX12_printNumber_28 : decode cX12_printNumber 28 = .ok (.ifCond .eq 7, 3) := by decide +kernel
theorem dX12_printNumber_31 : decode cX12_printNumber 31 = .ok (.iconst 1, 1) := by decide +kernel
theorem dX12_printNumber_32 : decode cX12_printNumber 32 = .ok (.goto 4, 3) := by decide +kernel
theorem dX12_printNumber_35 : decode cX12_printNumber 35 = .ok (.iconst 0, 1) := by decide +kernel
theorem dX12_printNumber_36 : decode cX12_printNumber 36 = .ok (.istore_n 2, 1) := by decide +kernel
theorem dX12_printNumber_37 : decode cX12_printNumber 37 = .ok (.iload_n 2, 1) := by decide +kernel
theorem dX12_printNumber_38 : decode cX12_printNumber 38 = .ok (.ifCond .eq 24, 3) := by decide +kernel
theorem dX12_printNumber_41 : decode cX12_printNumber 41 = .ok (.aload_n 0, 1) := by decide +kernel
theorem dX12_printNumber_42 : decode cX12_printNumber 42 = .ok (.getfield 120, 3) := by decide +kernel
theorem dX12_printNumber_45 : decode cX12_printNumber 45 = .ok (.aload_n 0, 1) := by decide +kernel
theorem dX12_printNumber_46 : decode cX12_printNumber 46 = .ok (.getfield 315, 3) := by decide +kernel
theorem dX12_printNumber_49 : decode cX12_printNumber 49 = .ok (.bipush 32, 2) := by decide +kernel
theorem dX12_printNumber_51 : decode cX12_printNumber 51 = .ok (.iastore, 1) := by decide +kernel
theorem dX12_printNumber_52 : decode cX12_printNumber 52 = .ok (.aload_n 0, 1) := by decide +kernel
theorem dX12_printNumber_53 : decode cX12_printNumber 53 = .ok (.dup, 1) := by decide +kernel
theorem dX12_printNumber_54 : decode cX12_printNumber 54 = .ok (.getfield 315, 3) := by decide +kernel
theorem dX12_printNumber_57 : decode cX12_printNumber 57 = .ok (.iconst 1, 1) := by decide +kernel
theorem dX12_printNumber_58 : decode cX12_printNumber 58 = .ok (.iadd, 1) := by decide +kernel
theorem dX12_printNumber_59 : decode cX12_printNumber 59 = .ok (.putfield 315, 3) := by decide +kernel
theorem dX12_printNumber_62 : decode cX12_printNumber 62 = .ok (.iload_n 1, 1) := by decide +kernel
theorem dX12_printNumber_63 : decode cX12_printNumber 63 = .ok (.bipush 9, 2) := by decide +kernel
theorem dX12_printNumber_65 : decode cX12_printNumber 65 = .ok (.if_icmp .le 29, 3) := by decide +kernel
theorem dX12_printNumber_68 : decode cX12_printNumber 68 = .ok (.aload_n 0, 1) := by decide +kernel
theorem dX12_printNumber_69 : decode cX12_printNumber 69 = .ok (.getfield 120, 3) := by decide +kernel
theorem dX12_printNumber_72 : decode cX12_printNumber 72 = .ok (.aload_n 0, 1) := by decide +kernel
theorem dX12_printNumber_73 : decode cX12_printNumber 73 = .ok (.getfield 315, 3) := by decide +kernel
theorem dX12_printNumber_76 : decode cX12_printNumber 76 = .ok (.bipush 48, 2) := by decide +kernel
theorem dX12_printNumber_78 : decode cX12_printNumber 78 = .ok (.iload_n 1, 1) := by decide +kernel
theorem dX12_printNumber_79 : decode cX12_printNumber 79 = .ok (.bipush 10, 2) := by decide +kernel
theorem dX12_printNumber_81 : decode cX12_printNumber 81 = .ok (.idiv, 1) := by decide +kernel
theorem dX12_printNumber_82 : decode cX12_printNumber 82 = .ok (.iadd, 1) := by decide +kernel
theorem dX12_printNumber_83 : decode cX12_printNumber 83 = .ok (.iastore, 1) := by decide +kernel
theorem dX12_printNumber_84 : decode cX12_printNumber 84 = .ok (.aload_n 0, 1) := by decide +kernel
theorem dX12_printNumber_85 : decode cX12_printNumber 85 = .ok (.dup, 1) := by decide +kernel
theorem dX12_printNumber_86 : decode cX12_printNumber 86 = .ok (.getfield 315, 3) := by decide +kernel
theorem dX12_printNumber_89 : decode cX12_printNumber 89 = .ok (.iconst 1, 1) := by decide +kernel
theorem dX12_printNumber_90 : decode cX12_printNumber 90 = .ok (.iadd, 1) := by decide +kernel
theorem dX12_printNumber_91 : decode cX12_printNumber 91 = .ok (.putfield 315, 3) := by decide +kernel
theorem dX12_printNumber_94 : decode cX12_printNumber 94 = .ok (.aload_n 0, 1) := by decide +kernel
theorem dX12_printNumber_95 : decode cX12_printNumber 95 = .ok (.getfield 120, 3) := by decide +kernel
theorem dX12_printNumber_98 : decode cX12_printNumber 98 = .ok (.aload_n 0, 1) := by decide +kernel
theorem dX12_printNumber_99 : decode cX12_printNumber 99 = .ok (.getfield 315, 3) := by decide +kernel
theorem dX12_printNumber_102 : decode cX12_printNumber 102 = .ok (.bipush 48, 2) := by decide +kernel
theorem dX12_printNumber_104 : decode cX12_printNumber 104 = .ok (.iload_n 1, 1) := by decide +kernel
theorem dX12_printNumber_105 : decode cX12_printNumber 105 = .ok (.bipush 10, 2) := by decide +kernel
theorem dX12_printNumber_107 : decode cX12_printNumber 107 = .ok (.irem, 1) := by decide +kernel
theorem dX12_printNumber_108 : decode cX12_printNumber 108 = .ok (.iadd, 1) := by decide +kernel
theorem dX12_printNumber_109 : decode cX12_printNumber 109 = .ok (.iastore, 1) := by decide +kernel
theorem dX12_printNumber_110 : decode cX12_printNumber 110 = .ok (.aload_n 0, 1) := by decide +kernel
theorem dX12_printNumber_111 : decode cX12_printNumber 111 = .ok (.dup, 1) := by decide +kernel
theorem dX12_printNumber_112 : decode cX12_printNumber 112 = .ok (.getfield 315, 3) := by decide +kernel
theorem dX12_printNumber_115 : decode cX12_printNumber 115 = .ok (.iconst 1, 1) := by decide +kernel
theorem dX12_printNumber_116 : decode cX12_printNumber 116 = .ok (.iadd, 1) := by decide +kernel
theorem dX12_printNumber_117 : decode cX12_printNumber 117 = .ok (.putfield 315, 3) := by decide +kernel
theorem dX12_printNumber_120 : decode cX12_printNumber 120 = .ok (.return_, 1) := by decide +kernel
theorem dX12_printSign_0 : decode cX12_printSign 0 = .ok (.aload_n 0, 1) := by decide +kernel
theorem dX12_printSign_1 : decode cX12_printSign 1 = .ok (.getfield 120, 3) := by decide +kernel
theorem dX12_printSign_4 : decode cX12_printSign 4 = .ok (.aload_n 0, 1) := by decide +kernel
theorem dX12_printSign_5 : decode cX12_printSign 5 = .ok (.getfield 315, 3) := by decide +kernel
theorem dX12_printSign_8 : decode cX12_printSign 8 = .ok (.iload_n 1, 1) := by decide +kernel
theorem dX12_printSign_9 : decode cX12_printSign 9 = .ok (.iastore, 1) := by decide +kernel
theorem dX12_printSign_10 : decode cX12_printSign 10 = .ok (.aload_n 0, 1) := by decide +kernel
theorem dX12_printSign_11 : decode cX12_printSign 11 = .ok (.dup, 1) := by decide +kernel
theorem dX12_printSign_12 : decode cX12_printSign 12 = .ok (.getfield 315, 3) := by decide +kernel
theorem dX12_printSign_15 : decode cX12_printSign 15 = .ok (.iconst 1, 1) := by decide +kernel
theorem dX12_printSign_16 : decode cX12_printSign 16 = .ok (.iadd, 1) := by decide +kernel
theorem dX12_printSign_17 : decode cX12_printSign 17 = .ok (.putfield 315, 3) := by decide +kernel
theorem dX12_printSign_20 : decode cX12_printSign 20 = .ok (.return_, 1) := by decide +kernel
theorem dX12_walkOn_0 : decode cX12_walkOn 0 = .ok (.aload_n 0, 1) := by decide +kernel
theorem dX12_walkOn_1 : decode cX12_walkOn 1 = .ok (.getfield 102, 3) := by decide +kernel
theorem dX12_walkOn_4 : decode cX12_walkOn 4 = .ok (.iload_n 2, 1) := by decide +kernel
theorem dX12_walkOn_5 : decode cX12_walkOn 5 = .ok (.iaload, 1) := by decide +kernel
theorem dX12_walkOn_6 : decode cX12_walkOn 6 = .ok (.istore_n 3, 1) := by decide +kernel
theorem dX12_walkOn_7 : decode cX12_walkOn 7 = .ok (.aload_n 0, 1) := by decide +kernel
theorem dX12_walkOn_8 : decode cX12_walkOn 8 = .ok (.getfield 105, 3) := by decide +kernel
theorem dX12_walkOn_11 : decode cX12_walkOn 11 = .ok (.iload_n 2, 1) := by decide +kernel
theorem dX12_walkOn_12 : decode cX12_walkOn 12 = .ok (.iaload, 1) := by decide +kernel
theorem dX12_walkOn_13 : decode cX12_walkOn 13 = .ok (.istore 4, 2) := by decide +kernel
theorem dX12_walkOn_15 : decode cX12_walkOn 15 = .ok (.aload_n 0, 1) := by decide +kernel
theorem dX12_walkOn_16 : decode cX12_walkOn 16 = .ok (.iload_n 1, 1) := by decide +kernel
theorem dX12_walkOn_17 : decode cX12_walkOn 17 = .ok (.iload_n 3, 1) := by decide +kernel
theorem dX12_walkOn_18 : decode cX12_walkOn 18 = .ok (.iload 4, 2) := by decide +kernel
theorem dX12_walkOn_20 : decode cX12_walkOn 20 = .ok (.invokevirtual 308, 3) := by decide +kernel
theorem dX12_walkOn_23 : decode cX12_walkOn 23 = .ok (.istore 5, 2) := by decide +kernel
theorem dX12_walkOn_25 : decode cX12_walkOn 25 = .ok (.iload 5, 2) := by decide +kernel
theorem dX12_walkOn_27 : decode cX12_walkOn 27 = .ok (.ifCond .ge 26, 3) := by decide +kernel
theorem dX12_walkOn_30 : decode cX12_walkOn 30 = .ok (.aload_n 0, 1) := by decide +kernel
theorem dX12_walkOn_31 : decode cX12_walkOn 31 = .ok (.aload_n 0, 1) := by decide +kernel
theorem dX12_walkOn_32 : decode cX12_walkOn 32 = .ok (.iload_n 1, 1) := by decide +kernel
theorem dX12_walkOn_33 : decode cX12_walkOn 33 = .ok (.iload_n 3, 1) := by decide +kernel
theorem dX12_walkOn_34 : decode cX12_walkOn 34 = .ok (.iload 4, 2) := by decide +kernel
theorem dX12_walkOn_36 : decode cX12_walkOn 36 = .ok (.invokevirtual 318, 3) := by decide +kernel
theorem dX12_walkOn_39 : decode cX12_walkOn 39 = .ok (.invokevirtual 321, 3) := by decide +kernel
theorem dX12_walkOn_42 : decode cX12_walkOn 42 = .ok (.aload_n 0, 1) := by decide +kernel
theorem dX12_walkOn_43 : decode cX12_walkOn 43 = .ok (.getfield 105, 3) := by decide +kernel
theorem dX12_walkOn_46 : decode cX12_walkOn 46 = .ok (.iload_n 2, 1) := by decide +kernel
theorem dX12_walkOn_47 : decode cX12_walkOn 47 = .ok (.dup2, 1) := by decide +kernel
theorem dX12_walkOn_48 : decode cX12_walkOn 48 = .ok (.iaload, 1) := by decide +kernel
theorem dX12_walkOn_49 : decode cX12_walkOn 49 = .ok (.iconst 1, 1) := by decide +kernel
theorem dX12_walkOn_50 : decode cX12_walkOn 50 = .ok (.iadd, 1) := by decide +kernel
theorem dX12_walkOn_51 : decode cX12_walkOn 51 = .ok (.iastore, 1) := by decide +kernel
theorem dX12_walkOn_52 : decode cX12_walkOn 52 = .ok (.return_, 1) := by decide +kernel
theorem dX12_walkOn_53 : decode cX12_walkOn 53 = .ok (.aload_n 0, 1) := by decide +kernel
theorem dX12_walkOn_54 : decode cX12_walkOn 54 = .ok (.bipush 91, 2) := by decide +kernel
theorem dX12_walkOn_56 : decode cX12_walkOn 56 = .ok (.invokevirtual 324, 3) := by decide +kernel
theorem dX12_walkOn_59 : decode cX12_walkOn 59 = .ok (.aload_n 0, 1) := by decide +kernel
theorem dX12_walkOn_60 : decode cX12_walkOn 60 = .ok (.getfield 105, 3) := by decide +kernel
theorem dX12_walkOn_63 : decode cX12_walkOn 63 = .ok (.iload_n 2, 1) := by decide +kernel
theorem dX12_walkOn_64 : decode cX12_walkOn 64 = .ok (.iaload, 1) := by decide +kernel
theorem dX12_walkOn_65 : decode cX12_walkOn 65 = .ok (.aload_n 0, 1) := by decide +kernel
theorem dX12_walkOn_66 : decode cX12_walkOn 66 = .ok (.iload_n 1, 1) := by decide +kernel
theorem dX12_walkOn_67 : decode cX12_walkOn 67 = .ok (.iload_n 3, 1) := by decide +kernel
theorem dX12_walkOn_68 : decode cX12_walkOn 68 = .ok (.invokevirtual 194, 3) := by decide +kernel
theorem dX12_walkOn_71 : decode cX12_walkOn 71 = .ok (.if_icmp .ge 49, 3) := by decide +kernel
theorem dX12_walkOn_74 : decode cX12_walkOn 74 = .ok (.aload_n 0, 1) := by decide +kernel
theorem dX12_walkOn_75 : decode cX12_walkOn 75 = .ok (.iload_n 1, 1) := by decide +kernel
theorem dX12_walkOn_76 : decode cX12_walkOn 76 = .ok (.iload_n 3, 1) := by decide +kernel
theorem dX12_walkOn_77 : decode cX12_walkOn 77 = .ok (.aload_n 0, 1) := by decide +kernel
theorem dX12_walkOn_78 : decode cX12_walkOn 78 = .ok (.getfield 105, 3) := by decide +kernel
theorem dX12_walkOn_81 : decode cX12_walkOn 81 = .ok (.iload_n 2, 1) := by decide +kernel
theorem dX12_walkOn_82 : decode cX12_walkOn 82 = .ok (.iaload, 1) := by decide +kernel
theorem dX12_walkOn_83 : decode cX12_walkOn 83 = .ok (.invokevirtual 308, 3) := by decide +kernel
theorem dX12_walkOn_86 : decode cX12_walkOn 86 = .ok (.iload 5, 2) := by decide +kernel
theorem dX12_walkOn_88 : decode cX12_walkOn 88 = .ok (.if_icmp .ne 32, 3) := by decide +kernel
theorem dX12_walkOn_91 : decode cX12_walkOn 91 = .ok (.aload_n 0, 1) := by decide +kernel
theorem dX12_walkOn_92 : decode cX12_walkOn 92 = .ok (.aload_n 0, 1) := by decide +kernel
theorem dX12_walkOn_93 : decode cX12_walkOn 93 = .ok (.iload_n 1, 1) := by decide +kernel
theorem dX12_walkOn_94 : decode cX12_walkOn 94 = .ok (.iload_n 3, 1) := by decide +kernel
theorem dX12_walkOn_95 : decode cX12_walkOn 95 = .ok (.aload_n 0, 1) := by decide +kernel
theorem dX12_walkOn_96 : decode cX12_walkOn 96 = .ok (.getfield 105, 3) := by decide +kernel
theorem dX12_walkOn_99 : decode cX12_walkOn 99 = .ok (.iload_n 2, 1) := by decide +kernel
theorem dX12_walkOn_100 : decode cX12_walkOn 100 = .ok (.iaload, 1) := by decide +kernel
theorem dX12_walkOn_101 : decode cX12_walkOn 101 = .ok (.invokevirtual 318, 3) := by decide +kernel
theorem dX12_walkOn_104 : decode cX12_walkOn 104 = .ok (.invokevirtual 321, 3) := by decide +kernel
theorem dX12_walkOn_107 : decode cX12_walkOn 107 = .ok (.aload_n 0, 1) := by decide +kernel
theorem dX12_walkOn_108 : decode cX12_walkOn 108 = .ok (.getfield 105, 3) := by decide +kernel
theorem dX12_walkOn_111 : decode cX12_walkOn 111 = .ok (.iload_n 2, 1) := by decide +kernel
theorem dX12_walkOn_112 : decode cX12_walkOn 112 = .ok (.dup2, 1) := by decide +kernel
theorem dX12_walkOn_113 : decode cX12_walkOn 113 = .ok (.iaload, 1) := by decide +kernel
theorem dX12_walkOn_114 : decode cX12_walkOn 114 = .ok (.iconst 1, 1) := by decide +kernel
theorem dX12_walkOn_115 : decode cX12_walkOn 115 = .ok (.iadd, 1) := by decide +kernel
theorem dX12_walkOn_116 : decode cX12_walkOn 116 = .ok (.iastore, 1) := by decide +kernel
theorem dX12_walkOn_117 : decode cX12_walkOn 117 = .ok (.goto (-58), 3) := by decide +kernel
theorem dX12_walkOn_120 : decode cX12_walkOn 120 = .ok (.aload_n 0, 1) := by decide +kernel
theorem dX12_walkOn_121 : decode cX12_walkOn 121 = .ok (.getfield 108, 3) := by decide +kernel
theorem dX12_walkOn_124 : decode cX12_walkOn 124 = .ok (.iload_n 2, 1) := by decide +kernel
theorem dX12_walkOn_125 : decode cX12_walkOn 125 = .ok (.iload 5, 2) := by decide +kernel
theorem dX12_walkOn_127 : decode cX12_walkOn 127 = .ok (.iastore, 1) := by decide +kernel
theorem dX12_walkOn_128 : decode cX12_walkOn 128 = .ok (.aload_n 0, 1) := by decide +kernel
theorem dX12_walkOn_129 : decode cX12_walkOn 129 = .ok (.getfield 111, 3) := by decide +kernel
theorem dX12_walkOn_132 : decode cX12_walkOn 132 = .ok (.iload_n 2, 1) := by decide +kernel
theorem dX12_walkOn_133 : decode cX12_walkOn 133 = .ok (.iconst (-1), 1) := by decide +kernel
theorem dX12_walkOn_134 : decode cX12_walkOn 134 = .ok (.iastore, 1) := by decide +kernel
theorem dX12_walkOn_135 : decode cX12_walkOn 135 = .ok (.return_, 1) := by decide +kernel
theorem dX12_walk_0 : decode cX12_walk 0 = .ok (.aload_n 0, 1) := by decide +kernel
theorem dX12_walk_1 : decode cX12_walk 1 = .ok (.iconst 0, 1) := by decide +kernel
theorem dX12_walk_2 : decode cX12_walk 2 = .ok (.putfield 312, 3) := by decide +kernel
theorem dX12_walk_5 : decode cX12_walk 5 = .ok (.aload_n 0, 1) := by decide +kernel
theorem dX12_walk_6 : decode cX12_walk 6 = .ok (.iconst 0, 1) := by decide +kernel
theorem dX12_walk_7 : decode cX12_walk 7 = .ok (.putfield 327, 3) := by decide +kernel
theorem dX12_walk_10 : decode cX12_walk 10 = .ok (.aload_n 0, 1) := by decide +kernel
theorem dX12_walk_11 : decode cX12_walk 11 = .ok (.iconst 0, 1) := by decide +kernel
theorem dX12_walk_12 : decode cX12_walk 12 = .ok (.putfield 315, 3) := by decide +kernel
theorem dX12_walk_15 : decode cX12_walk 15 = .ok (.aload_n 0, 1) := by decide +kernel
theorem dX12_walk_16 : decode cX12_walk 16 = .ok (.iconst (-1), 1) := by decide +kernel
theorem dX12_walk_17 : decode cX12_walk 17 = .ok (.invokevirtual 330, 3) := by decide +kernel
theorem dX12_walk_20 : decode cX12_walk 20 = .ok (.aload_n 0, 1) := by decide +kernel
theorem dX12_walk_21 : decode cX12_walk 21 = .ok (.getfield 312, 3) := by decide +kernel
theorem dX12_walk_24 : decode cX12_walk 24 = .ok (.ifCond .le 175, 3) := by decide +kernel
theorem dX12_walk_27 : decode cX12_walk 27 = .ok (.aload_n 0, 1) := by decide +kernel
theorem dX12_walk_28 : decode cX12_walk 28 = .ok (.getfield 312, 3) := by decide +kernel
theorem dX12_walk_31 : decode cX12_walk 31 = .ok (.iconst 1, 1) := by decide +kernel
theorem dX12_walk_32 : decode cX12_walk 32 = .ok (.isub, 1) := by decide +kernel
theorem dX12_walk_33 : decode cX12_walk 33 = .ok (.istore_n 2, 1) := by decide +kernel
theorem dX12_walk_34 : decode cX12_walk 34 = .ok (.aload_n 0, 1) := by decide +kernel
theorem dX12_walk_35 : decode cX12_walk 35 = .ok (.getfield 108, 3) := by decide +kernel
theorem dX12_walk_38 : decode cX12_walk 38 = .ok (.iload_n 2, 1) := by decide +kernel
theorem dX12_walk_39 : decode cX12_walk 39 = .ok (.iaload, 1) := by decide +kernel
theorem dX12_walk_40 : decode cX12_walk 40 = .ok (.ifCond .ge 45, 3) := by decide +kernel
theorem dX12_walk_43 : decode cX12_walk 43 = .ok (.aload_n 0, 1) := by decide +kernel
theorem dX12_walk_44 : decode cX12_walk 44 = .ok (.getfield 105, 3) := by decide +kernel
theorem dX12_walk_47 : decode cX12_walk 47 = .ok (.iload_n 2, 1) := by decide +kernel
theorem dX12_walk_48 : decode cX12_walk 48 = .ok (.iaload, 1) := by decide +kernel
theorem dX12_walk_49 : decode cX12_walk 49 = .ok (.aload_n 0, 1) := by decide +kernel
theorem dX12_walk_50 : decode cX12_walk 50 = .ok (.iload_n 1, 1) := by decide +kernel
theorem dX12_walk_51 : decode cX12_walk 51 = .ok (.aload_n 0, 1) := by decide +kernel
theorem dX12_walk_52 : decode cX12_walk 52 = .ok (.getfield 102, 3) := by decide +kernel
theorem dX12_walk_55 : decode cX12_walk 55 = .ok (.iload_n 2, 1) := by decide +kernel
theorem dX12_walk_56 : decode cX12_walk 56 = .ok (.iaload, 1) := by decide +kernel
theorem dX12_walk_57 : decode cX12_walk 57 = .ok (.invokevirtual 194, 3) := by decide +kernel
theorem dX12_walk_60 : decode cX12_walk 60 = .ok (.if_icmp .lt 16, 3) := by decide +kernel
theorem dX12_walk_63 : decode cX12_walk 63 = .ok (.aload_n 0, 1) := by decide +kernel
theorem dX12_walk_64 : decode cX12_walk 64 = .ok (.dup, 1) := by decide +kernel
theorem dX12_walk_65 : decode cX12_walk 65 = .ok (.getfield 312, 3) := by decide +kernel
theorem dX12_walk_68 : decode cX12_walk 68 = .ok (.iconst 1, 1) := by decide +kernel
theorem dX12_walk_69 : decode cX12_walk 69 = .ok (.isub, 1) := by decide +kernel
theorem dX12_walk_70 : decode cX12_walk 70 = .ok (.putfield 312, 3) := by decide +kernel
theorem dX12_walk_73 : decode cX12_walk 73 = .ok (.goto 123, 3) := by decide +kernel
theorem dX12_walk_76 : decode cX12_walk 76 = .ok (.aload_n 0, 1) := by decide +kernel
theorem dX12_walk_77 : decode cX12_walk 77 = .ok (.iload_n 1, 1) := by decide +kernel
theorem dX12_walk_78 : decode cX12_walk 78 = .ok (.iload_n 2, 1) := by decide +kernel
theorem dX12_walk_79 : decode cX12_walk 79 = .ok (.invokevirtual 333, 3) := by decide +kernel
theorem dX12_walk_82 : decode cX12_walk 82 = .ok (.goto 114, 3) := by decide +kernel
theorem dX12_walk_85 : decode cX12_walk 85 = .ok (.aload_n 0, 1) := by decide +kernel
theorem dX12_walk_86 : decode cX12_walk 86 = .ok (.iload_n 1, 1) := by decide +kernel
theorem dX12_walk_87 : decode cX12_walk 87 = .ok (.aload_n 0, 1) := by decide +kernel
theorem dX12_walk_88 : decode cX12_walk 88 = .ok (.getfield 108, 3) := by decide +kernel
theorem dX12_walk_91 : decode cX12_walk 91 = .ok (.iload_n 2, 1) := by decide +kernel
theorem dX12_walk_92 : decode cX12_walk 92 = .ok (.iaload, 1) := by decide +kernel
theorem dX12_walk_93 : decode cX12_walk 93 = .ok (.aload_n 0, 1) := by decide +kernel
theorem dX12_walk_94 : decode cX12_walk 94 = .ok (.getfield 111, 3) := by decide +kernel
theorem dX12_walk_97 : decode cX12_walk 97 = .ok (.iload_n 2, 1) := by decide +kernel
theorem dX12_walk_98 : decode cX12_walk 98 = .ok (.iaload, 1) := by decide +kernel
theorem dX12_walk_99 : decode cX12_walk 99 = .ok (.invokevirtual 336, 3) := by decide +kernel
theorem dX12_walk_102 : decode cX12_walk 102 = .ok (.istore_n 3, 1) := by decide +kernel
theorem dX12_walk_103 : decode cX12_walk 103 = .ok (.aload_n 0, 1) := by decide +kernel
theorem dX12_walk_104 : decode cX12_walk 104 = .ok (.getfield 111, 3) := by decide +kernel
theorem dX12_walk_107 : decode cX12_walk 107 = .ok (.iload_n 2, 1) := by decide +kernel
theorem dX12_walk_108 : decode cX12_walk 108 = .ok (.iload_n 3, 1) := by decide +kernel
theorem dX12_walk_109 : decode cX12_walk 109 = .ok (.iastore, 1) := by decide +kernel
theorem dX12_walk_110 : decode cX12_walk 110 = .ok (.iload_n 3, 1) := by decide +kernel
theorem dX12_walk_111 : decode cX12_walk 111 = .ok (.ifCond .ge 19, 3) := by decide +kernel
theorem dX12_walk_114 : decode cX12_walk 114 = .ok (.aload_n 0, 1) := by decide +kernel
theorem dX12_walk_115 : decode cX12_walk 115 = .ok (.bipush 93, 2) := by decide +kernel
theorem dX12_walk_117 : decode cX12_walk 117 = .ok (.invokevirtual 324, 3) := by decide +kernel
theorem dX12_walk_120 : decode cX12_walk 120 = .ok (.aload_n 0, 1) := by decide +kernel
theorem dX12_walk_121 : decode cX12_walk 121 = .ok (.getfield 108, 3) := by decide +kernel
theorem dX12_walk_124 : decode cX12_walk 124 = .ok (.iload_n 2, 1) := by decide +kernel
theorem dX12_walk_125 : decode cX12_walk 125 = .ok (.iconst (-1), 1) := by decide +kernel
theorem dX12_walk_126 : decode cX12_walk 126 = .ok (.iastore, 1) := by decide +kernel
theorem dX12_walk_127 : decode cX12_walk 127 = .ok (.goto 69, 3) := by decide +kernel
theorem dX12_walk_130 : decode cX12_walk 130 = .ok (.aload_n 0, 1) := by decide +kernel
theorem dX12_walk_131 : decode cX12_walk 131 = .ok (.bipush 124, 2) := by decide +kernel
theorem dX12_walk_133 : decode cX12_walk 133 = .ok (.invokevirtual 324, 3) := by decide +kernel
theorem dX12_walk_136 : decode cX12_walk 136 = .ok (.aload_n 0, 1) := by decide +kernel
theorem dX12_walk_137 : decode cX12_walk 137 = .ok (.aload_n 0, 1) := by decide +kernel
theorem dX12_walk_138 : decode cX12_walk 138 = .ok (.getfield 22, 3) := by decide +kernel
theorem dX12_walk_141 : decode cX12_walk 141 = .ok (.bipush 20, 2) := by decide +kernel
theorem dX12_walk_143 : decode cX12_walk 143 = .ok (.iload_n 1, 1) := by decide +kernel
theorem dX12_walk_144 : decode cX12_walk 144 = .ok (.imul, 1) := by decide +kernel
theorem dX12_walk_145 : decode cX12_walk 145 = .ok (.iload_n 3, 1) := by decide +kernel
theorem dX12_walk_146 : decode cX12_walk 146 = .ok (.iadd, 1) := by decide +kernel
theorem dX12_walk_147 : decode cX12_walk 147 = .ok (.iaload, 1) := by decide +kernel
theorem dX12_walk_148 : decode cX12_walk 148 = .ok (.ifCond .ne 8, 3) := by decide +kernel
theorem dX12_walk_151 : decode cX12_walk 151 = .ok (.bipush 97, 2) := by decide +kernel
theorem dX12_walk_153 : decode cX12_walk 153 = .ok (.goto 5, 3) := by decide +kernel
theorem dX12_walk_156 : decode cX12_walk 156 = .ok (.bipush 98, 2) := by decide +kernel
theorem dX12_walk_158 : decode cX12_walk 158 = .ok (.invokevirtual 324, 3) := by decide +kernel
theorem dX12_walk_161 : decode cX12_walk 161 = .ok (.aload_n 0, 1) := by decide +kernel
theorem dX12_walk_162 : decode cX12_walk 162 = .ok (.getfield 114, 3) := by decide +kernel
theorem dX12_walk_165 : decode cX12_walk 165 = .ok (.aload_n 0, 1) := by decide +kernel
theorem dX12_walk_166 : decode cX12_walk 166 = .ok (.getfield 327, 3) := by decide +kernel
theorem dX12_walk_169 : decode cX12_walk 169 = .ok (.iload_n 3, 1) := by decide +kernel
theorem dX12_walk_170 : decode cX12_walk 170 = .ok (.iastore, 1) := by decide +kernel
theorem dX12_walk_171 : decode cX12_walk 171 = .ok (.aload_n 0, 1) := by decide +kernel
theorem dX12_walk_172 : decode cX12_walk 172 = .ok (.getfield 117, 3) := by decide +kernel
theorem dX12_walk_175 : decode cX12_walk 175 = .ok (.iload_n 3, 1) := by decide +kernel
theorem dX12_walk_176 : decode cX12_walk 176 = .ok (.aload_n 0, 1) := by decide +kernel
theorem dX12_walk_177 : decode cX12_walk 177 = .ok (.getfield 327, 3) := by decide +kernel
theorem dX12_walk_180 : decode cX12_walk 180 = .ok (.iastore, 1) := by decide +kernel
theorem dX12_walk_181 : decode cX12_walk 181 = .ok (.aload_n 0, 1) := by decide +kernel
theorem dX12_walk_182 : decode cX12_walk 182 = .ok (.dup, 1) := by decide +kernel
theorem dX12_walk_183 : decode cX12_walk 183 = .ok (.getfield 327, 3) := by decide +kernel
theorem dX12_walk_186 : decode cX12_walk 186 = .ok (.iconst 1, 1) := by decide +kernel
theorem dX12_walk_187 : decode cX12_walk 187 = .ok (.iadd, 1) := by decide +kernel
theorem dX12_walk_188 : decode cX12_walk 188 = .ok (.putfield 327, 3) := by decide +kernel
theorem dX12_walk_191 : decode cX12_walk 191 = .ok (.aload_n 0, 1) := by decide +kernel
theorem dX12_walk_192 : decode cX12_walk 192 = .ok (.iload_n 3, 1) := by decide +kernel
theorem dX12_walk_193 : decode cX12_walk 193 = .ok (.invokevirtual 330, 3) := by decide +kernel
theorem dX12_walk_196 : decode cX12_walk 196 = .ok (.goto (-176), 3) := by decide +kernel
theorem dX12_walk_199 : decode cX12_walk 199 = .ok (.return_, 1) := by decide +kernel
theorem dX12_renumber_0 : decode cX12_renumber 0 = .ok (.aload_n 0, 1) := by decide +kernel
theorem dX12_renumber_1 : decode cX12_renumber 1 = .ok (.bipush 10, 2) := by decide +kernel
theorem dX12_renumber_3 : decode cX12_renumber 3 = .ok (.invokevirtual 339, 3) := by decide +kernel
theorem dX12_renumber_6 : decode cX12_renumber 6 = .ok (.aload_n 0, 1) := by decide +kernel
theorem dX12_renumber_7 : decode cX12_renumber 7 = .ok (.bipush 10, 2) := by decide +kernel
theorem dX12_renumber_9 : decode cX12_renumber 9 = .ok (.iload_n 1, 1) := by decide +kernel
theorem dX12_renumber_10 : decode cX12_renumber 10 = .ok (.invokevirtual 235, 3) := by decide +kernel
theorem dX12_renumber_13 : decode cX12_renumber 13 = .ok (.iconst 0, 1) := by decide +kernel
theorem dX12_renumber_14 : decode cX12_renumber 14 = .ok (.istore_n 2, 1) := by decide +kernel
theorem dX12_renumber_15 : decode cX12_renumber 15 = .ok (.iload_n 2, 1) := by decide +kernel
theorem dX12_renumber_16 : decode cX12_renumber 16 = .ok (.aload_n 0, 1) := by decide +kernel
theorem dX12_renumber_17 : decode cX12_renumber 17 = .ok (.getfield 327, 3) := by decide +kernel
theorem dX12_renumber_20 : decode cX12_renumber 20 = .ok (.if_icmp .ge 70, 3) := by decide +kernel
theorem dX12_renumber_23 : decode cX12_renumber 23 = .ok (.aload_n 0, 1) := by decide +kernel
theorem dX12_renumber_24 : decode cX12_renumber 24 = .ok (.getfield 114, 3) := by decide +kernel
theorem dX12_renumber_27 : decode cX12_renumber 27 = .ok (.iload_n 2, 1) := by decide +kernel
theorem dX12_renumber_28 : decode cX12_renumber 28 = .ok (.iaload, 1) := by decide +kernel
theorem dX12_renumber_29 : decode cX12_renumber 29 = .ok (.istore_n 3, 1) := by decide +kernel
theorem dX12_renumber_30 : decode cX12_renumber 30 = .ok (.aload_n 0, 1) := by decide +kernel
theorem dX12_renumber_31 : decode cX12_renumber 31 = .ok (.sipush 200, 3) := by decide +kernel
theorem dX12_renumber_34 : decode cX12_renumber 34 = .ok (.iload_n 3, 1) := by decide +kernel
theorem dX12_renumber_35 : decode cX12_renumber 35 = .ok (.iadd, 1) := by decide +kernel
theorem dX12_renumber_36 : decode cX12_renumber 36 = .ok (.bipush 20, 2) := by decide +kernel
theorem dX12_renumber_38 : decode cX12_renumber 38 = .ok (.iload_n 1, 1) := by decide +kernel
theorem dX12_renumber_39 : decode cX12_renumber 39 = .ok (.imul, 1) := by decide +kernel
theorem dX12_renumber_40 : decode cX12_renumber 40 = .ok (.iload_n 2, 1) := by decide +kernel
theorem dX12_renumber_41 : decode cX12_renumber 41 = .ok (.iadd, 1) := by decide +kernel
theorem dX12_renumber_42 : decode cX12_renumber 42 = .ok (.invokevirtual 239, 3) := by decide +kernel
theorem dX12_renumber_45 : decode cX12_renumber 45 = .ok (.aload_n 0, 1) := by decide +kernel
theorem dX12_renumber_46 : decode cX12_renumber 46 = .ok (.getfield 25, 3) := by decide +kernel
theorem dX12_renumber_49 : decode cX12_renumber 49 = .ok (.sipush 200, 3) := by decide +kernel
theorem dX12_renumber_52 : decode cX12_renumber 52 = .ok (.iload_n 3, 1) := by decide +kernel
theorem dX12_renumber_53 : decode cX12_renumber 53 = .ok (.iadd, 1) := by decide +kernel
theorem dX12_renumber_54 : decode cX12_renumber 54 = .ok (.iaload, 1) := by decide +kernel
theorem dX12_renumber_55 : decode cX12_renumber 55 = .ok (.istore 4, 2) := by decide +kernel
theorem dX12_renumber_57 : decode cX12_renumber 57 = .ok (.aload_n 0, 1) := by decide +kernel
theorem dX12_renumber_58 : decode cX12_renumber 58 = .ok (.getfield 25, 3) := by decide +kernel
theorem dX12_renumber_61 : decode cX12_renumber 61 = .ok (.bipush 20, 2) := by decide +kernel
theorem dX12_renumber_63 : decode cX12_renumber 63 = .ok (.iload_n 1, 1) := by decide +kernel
theorem dX12_renumber_64 : decode cX12_renumber 64 = .ok (.imul, 1) := by decide +kernel
theorem dX12_renumber_65 : decode cX12_renumber 65 = .ok (.iload_n 2, 1) := by decide +kernel
theorem dX12_renumber_66 : decode cX12_renumber 66 = .ok (.iadd, 1) := by decide +kernel
theorem dX12_renumber_67 : decode cX12_renumber 67 = .ok (.iload 4, 2) := by decide +kernel
theorem dX12_renumber_69 : decode cX12_renumber 69 = .ok (.ifCond .ge 7, 3) := by decide +kernel
theorem dX12_renumber_72 : decode cX12_renumber 72 = .ok (.iconst (-1), 1) := by decide +kernel
theorem dX12_renumber_73 : decode cX12_renumber 73 = .ok (.goto 10, 3) := by decide +kernel
theorem dX12_renumber_76 : decode cX12_renumber 76 = .ok (.aload_n 0, 1) := by decide +kernel
theorem dX12_renumber_77 : decode cX12_renumber 77 = .ok (.getfield 117, 3) := by decide +kernel
theorem dX12_renumber_80 : decode cX12_renumber 80 = .ok (.iload 4, 2) := by decide +kernel
theorem dX12_renumber_82 : decode cX12_renumber 82 = .ok (.iaload, 1) := by decide +kernel
theorem dX12_renumber_83 : decode cX12_renumber 83 = .ok (.iastore, 1) := by decide +kernel
theorem dX12_renumber_84 : decode cX12_renumber 84 = .ok (.iinc 2 1, 3) := by decide +kernel
theorem dX12_renumber_87 : decode cX12_renumber 87 = .ok (.goto (-72), 3) := by decide +kernel
theorem dX12_renumber_90 : decode cX12_renumber 90 = .ok (.aload_n 0, 1) := by decide +kernel
theorem dX12_renumber_91 : decode cX12_renumber 91 = .ok (.getfield 19, 3) := by decide +kernel
theorem dX12_renumber_94 : decode cX12_renumber 94 = .ok (.iload_n 1, 1) := by decide +kernel
theorem dX12_renumber_95 : decode cX12_renumber 95 = .ok (.aload_n 0, 1) := by decide +kernel
theorem dX12_renumber_96 : decode cX12_renumber 96 = .ok (.getfield 327, 3) := by decide +kernel
theorem dX12_renumber_99 : decode cX12_renumber 99 = .ok (.iastore, 1) := by decide +kernel
theorem dX12_renumber_100 : decode cX12_renumber 100 = .ok (.return_, 1) := by decide +kernel
theorem dX12_isTaken_0 : decode cX12_isTaken 0 = .ok (.aload_n 0, 1) := by decide +kernel
theorem dX12_isTaken_1 : decode cX12_isTaken 1 = .ok (.getfield 49, 3) := by decide +kernel
theorem dX12_isTaken_4 : decode cX12_isTaken 4 = .ok (.bipush 60, 2) := by decide +kernel
theorem dX12_isTaken_6 : decode cX12_isTaken 6 = .ok (.iload_n 1, 1) := by decide +kernel
theorem dX12_isTaken_7 : decode cX12_isTaken 7 = .ok (.iadd, 1) := by decide +kernel
theorem dX12_isTaken_8 : decode cX12_isTaken 8 = .ok (.dup2, 1) := by decide +kernel
theorem dX12_isTaken_9 : decode cX12_isTaken 9 = .ok (.iaload, 1) := by decide +kernel
theorem dX12_isTaken_10 : decode cX12_isTaken 10 = .ok (.iconst 1, 1) := by decide +kernel
theorem dX12_isTaken_11 : decode cX12_isTaken 11 = .ok (.iadd, 1) := by decide +kernel
theorem dX12_isTaken_12 : decode cX12_isTaken 12 = .ok (.iastore, 1) := by decide +kernel
theorem dX12_isTaken_13 : decode cX12_isTaken 13 = .ok (.iload_n 2, 1) := by decide +kernel
theorem dX12_isTaken_14 : decode cX12_isTaken 14 = .ok (.iload_n 3, 1) := by decide +kernel
theorem dX12_isTaken_15 : decode cX12_isTaken 15 = .ok (.irem, 1) := by decide +kernel
theorem dX12_isTaken_16 : decode cX12_isTaken 16 = .ok (.ifCond .ne 7, 3) := by decide +kernel
theorem dX12_isTaken_19 : decode cX12_isTaken 19 = .ok (.iconst 1, 1) := by decide +kernel
theorem dX12_isTaken_20 : decode cX12_isTaken 20 = .ok (.goto 4, 3) := by decide +kernel
theorem dX12_isTaken_23 : decode cX12_isTaken 23 = .ok (.iconst 0, 1) := by decide +kernel
theorem dX12_isTaken_24 : decode cX12_isTaken 24 = .ok (.istore 4, 2) := by decide +kernel
theorem dX12_isTaken_26 : decode cX12_isTaken 26 = .ok (.aload_n 0, 1) := by decide +kernel
theorem dX12_isTaken_27 : decode cX12_isTaken 27 = .ok (.getfield 46, 3) := by decide +kernel
theorem dX12_isTaken_30 : decode cX12_isTaken 30 = .ok (.bipush 60, 2) := by decide +kernel
theorem dX12_isTaken_32 : decode cX12_isTaken 32 = .ok (.iload_n 1, 1) := by decide +kernel
theorem dX12_isTaken_33 : decode cX12_isTaken 33 = .ok (.iadd, 1) := by decide +kernel
theorem dX12_isTaken_34 : decode cX12_isTaken 34 = .ok (.dup2, 1) := by decide +kernel
theorem dX12_isTaken_35 : decode cX12_isTaken 35 = .ok (.iaload, 1) := by decide +kernel
theorem dX12_isTaken_36 : decode cX12_isTaken 36 = .ok (.iload 4, 2) := by decide +kernel
theorem dX12_isTaken_38 : decode cX12_isTaken 38 = .ok (.ifCond .eq 7, 3) := by decide +kernel
theorem dX12_isTaken_41 : decode cX12_isTaken 41 = .ok (.iconst 1, 1) := by decide +kernel
theorem dX12_isTaken_42 : decode cX12_isTaken 42 = .ok (.goto 4, 3) := by decide +kernel
theorem dX12_isTaken_45 : decode cX12_isTaken 45 = .ok (.iconst 0, 1) := by decide +kernel
theorem dX12_isTaken_46 : decode cX12_isTaken 46 = .ok (.iadd, 1) := by decide +kernel
theorem dX12_isTaken_47 : decode cX12_isTaken 47 = .ok (.iastore, 1) := by decide +kernel
theorem dX12_isTaken_48 : decode cX12_isTaken 48 = .ok (.iload 4, 2) := by decide +kernel
theorem dX12_isTaken_50 : decode cX12_isTaken 50 = .ok (.ireturn, 1) := by decide +kernel
theorem dX12_changed_0 : decode cX12_changed 0 = .ok (.iconst 0, 1) := by decide +kernel
theorem dX12_changed_1 : decode cX12_changed 1 = .ok (.istore_n 3, 1) := by decide +kernel
theorem dX12_changed_2 : decode cX12_changed 2 = .ok (.iload_n 3, 1) := by decide +kernel
theorem dX12_changed_3 : decode cX12_changed 3 = .ok (.aload_n 0, 1) := by decide +kernel
theorem dX12_changed_4 : decode cX12_changed 4 = .ok (.getfield 65, 3) := by decide +kernel
theorem dX12_changed_7 : decode cX12_changed 7 = .ok (.iload_n 1, 1) := by decide +kernel
theorem dX12_changed_8 : decode cX12_changed 8 = .ok (.iaload, 1) := by decide +kernel
theorem dX12_changed_9 : decode cX12_changed 9 = .ok (.if_icmp .ge 72, 3) := by decide +kernel
theorem dX12_changed_12 : decode cX12_changed 12 = .ok (.aload_n 0, 1) := by decide +kernel
theorem dX12_changed_13 : decode cX12_changed 13 = .ok (.getfield 68, 3) := by decide +kernel
theorem dX12_changed_16 : decode cX12_changed 16 = .ok (.iconst 4, 1) := by decide +kernel
theorem dX12_changed_17 : decode cX12_changed 17 = .ok (.iload_n 1, 1) := by decide +kernel
theorem dX12_changed_18 : decode cX12_changed 18 = .ok (.imul, 1) := by decide +kernel
theorem dX12_changed_19 : decode cX12_changed 19 = .ok (.iload_n 3, 1) := by decide +kernel
theorem dX12_changed_20 : decode cX12_changed 20 = .ok (.iadd, 1) := by decide +kernel
theorem dX12_changed_21 : decode cX12_changed 21 = .ok (.iaload, 1) := by decide +kernel
theorem dX12_changed_22 : decode cX12_changed 22 = .ok (.iload_n 2, 1) := by decide +kernel
theorem dX12_changed_23 : decode cX12_changed 23 = .ok (.if_icmp .ne 52, 3) := by decide +kernel
theorem dX12_changed_26 : decode cX12_changed 26 = .ok (.aload_n 0, 1) := by decide +kernel
theorem dX12_changed_27 : decode cX12_changed 27 = .ok (.getfield 123, 3) := by decide +kernel
theorem dX12_changed_30 : decode cX12_changed 30 = .ok (.iload_n 3, 1) := by decide +kernel
theorem dX12_changed_31 : decode cX12_changed 31 = .ok (.dup2, 1) := by decide +kernel
theorem dX12_changed_32 : decode cX12_changed 32 = .ok (.iaload, 1) := by decide +kernel
theorem dX12_changed_33 : decode cX12_changed 33 = .ok (.iconst 1, 1) := by decide +kernel
theorem dX12_changed_34 : decode cX12_changed 34 = .ok (.iadd, 1) := by decide +kernel
theorem dX12_changed_35 : decode cX12_changed 35 = .ok (.iastore, 1) := by decide +kernel
theorem dX12_changed_36 : decode cX12_changed 36 = .ok (.aload_n 0, 1) := by decide +kernel
theorem dX12_changed_37 : decode cX12_changed 37 = .ok (.iconst 0, 1) := by decide +kernel
theorem dX12_changed_38 : decode cX12_changed 38 = .ok (.aload_n 0, 1) := by decide +kernel
theorem dX12_changed_39 : decode cX12_changed 39 = .ok (.getfield 123, 3) := by decide +kernel
theorem dX12_changed_42 : decode cX12_changed 42 = .ok (.iload_n 3, 1) := by decide +kernel
theorem dX12_changed_43 : decode cX12_changed 43 = .ok (.iaload, 1) := by decide +kernel
theorem dX12_changed_44 : decode cX12_changed 44 = .ok (.aload_n 0, 1) := by decide +kernel
theorem dX12_changed_45 : decode cX12_changed 45 = .ok (.getfield 74, 3) := by decide +kernel
theorem dX12_changed_48 : decode cX12_changed 48 = .ok (.iconst 4, 1) := by decide +kernel
theorem dX12_changed_49 : decode cX12_changed 49 = .ok (.iload_n 1, 1) := by decide +kernel
theorem dX12_changed_50 : decode cX12_changed 50 = .ok (.imul, 1) := by decide +kernel
theorem dX12_changed_51 : decode cX12_changed 51 = .ok (.iload_n 3, 1) := by decide +kernel
theorem dX12_changed_52 : decode cX12_changed 52 = .ok (.iadd, 1) := by decide +kernel
theorem dX12_changed_53 : decode cX12_changed 53 = .ok (.iaload, 1) := by decide +kernel
theorem dX12_changed_54 : decode cX12_changed 54 = .ok (.invokevirtual 342, 3) := by decide +kernel
theorem dX12_changed_57 : decode cX12_changed 57 = .ok (.ifCond .eq 16, 3) := by decide +kernel
theorem dX12_changed_60 : decode cX12_changed 60 = .ok (.aload_n 0, 1) := by decide +kernel
theorem dX12_changed_61 : decode cX12_changed 61 = .ok (.getfield 71, 3) := by decide +kernel
theorem dX12_changed_64 : decode cX12_changed 64 = .ok (.iconst 4, 1) := by decide +kernel
theorem dX12_changed_65 : decode cX12_changed 65 = .ok (.iload_n 1, 1) := by decide +kernel
theorem dX12_changed_66 : decode cX12_changed 66 = .ok (.imul, 1) := by decide +kernel
theorem dX12_changed_67 : decode cX12_changed 67 = .ok (.iload_n 3, 1) := by decide +kernel
theorem dX12_changed_68 : decode cX12_changed 68 = .ok (.iadd, 1) := by decide +kernel
theorem dX12_changed_69 : decode cX12_changed 69 = .ok (.iaload, 1) := by decide +kernel
theorem dX12_changed_70 : decode cX12_changed 70 = .ok (.goto 4, 3) := by decide +kernel
theorem dX12_changed_73 : decode cX12_changed 73 = .ok (.iload_n 2, 1) := by decide +kernel
theorem dX12_changed_74 : decode cX12_changed 74 = .ok (.ireturn, 1) := by decide +kernel
theorem dX12_changed_75 : decode cX12_changed 75 = .ok (.iinc 3 1, 3) := by decide +kernel
theorem dX12_changed_78 : decode cX12_changed 78 = .ok (.goto (-76), 3) := by decide +kernel
theorem dX12_changed_81 : decode cX12_changed 81 = .ok (.iload_n 2, 1) := by decide +kernel
theorem dX12_changed_82 : decode cX12_changed 82 = .ok (.ireturn, 1) := by decide +kernel
theorem dX12_doFor_0 : decode cX12_doFor 0 = .ok (.iconst 0, 1) := by decide +kernel
theorem dX12_doFor_1 : decode cX12_doFor 1 = .ok (.istore_n 2, 1) := by decide +kernel
theorem dX12_doFor_2 : decode cX12_doFor 2 = .ok (.iload_n 2, 1) := by decide +kernel
theorem dX12_doFor_3 : decode cX12_doFor 3 = .ok (.iconst 4, 1) := by decide +kernel
theorem dX12_doFor_4 : decode cX12_doFor 4 = .ok (.if_icmp .ge 16, 3) := by decide +kernel
theorem dX12_doFor_7 : decode cX12_doFor 7 = .ok (.aload_n 0, 1) := by decide +kernel
theorem dX12_doFor_8 : decode cX12_doFor 8 = .ok (.getfield 123, 3) := by decide +kernel
theorem dX12_doFor_11 : decode cX12_doFor 11 = .ok (.iload_n 2, 1) := by decide +kernel
theorem dX12_doFor_12 : decode cX12_doFor 12 = .ok (.iconst 0, 1) := by decide +kernel
theorem dX12_doFor_13 : decode cX12_doFor 13 = .ok (.iastore, 1) := by decide +kernel
theorem dX12_doFor_14 : decode cX12_doFor 14 = .ok (.iinc 2 1, 3) := by decide +kernel
theorem dX12_doFor_17 : decode cX12_doFor 17 = .ok (.goto (-15), 3) := by decide +kernel
theorem dX12_doFor_20 : decode cX12_doFor 20 = .ok (.iconst 0, 1) := by decide +kernel
theorem dX12_doFor_21 : decode cX12_doFor 21 = .ok (.istore_n 2, 1) := by decide +kernel
theorem dX12_doFor_22 : decode cX12_doFor 22 = .ok (.iload_n 2, 1) := by decide +kernel
theorem dX12_doFor_23 : decode cX12_doFor 23 = .ok (.aload_n 0, 1) := by decide +kernel
theorem dX12_doFor_24 : decode cX12_doFor 24 = .ok (.getfield 7, 3) := by decide +kernel
theorem dX12_doFor_27 : decode cX12_doFor 27 = .ok (.bipush 10, 2) := by decide +kernel
theorem dX12_doFor_29 : decode cX12_doFor 29 = .ok (.iaload, 1) := by decide +kernel
theorem dX12_doFor_30 : decode cX12_doFor 30 = .ok (.if_icmp .ge 34, 3) := by decide +kernel
theorem dX12_doFor_33 : decode cX12_doFor 33 = .ok (.aload_n 0, 1) := by decide +kernel
theorem dX12_doFor_34 : decode cX12_doFor 34 = .ok (.getfield 13, 3) := by decide +kernel
theorem dX12_doFor_37 : decode cX12_doFor 37 = .ok (.sipush 400, 3) := by decide +kernel
theorem dX12_doFor_40 : decode cX12_doFor 40 = .ok (.iload_n 2, 1) := by decide +kernel
theorem dX12_doFor_41 : decode cX12_doFor 41 = .ok (.iadd, 1) := by decide +kernel
theorem dX12_doFor_42 : decode cX12_doFor 42 = .ok (.aload_n 0, 1) := by decide +kernel
theorem dX12_doFor_43 : decode cX12_doFor 43 = .ok (.iload_n 1, 1) := by decide +kernel
theorem dX12_doFor_44 : decode cX12_doFor 44 = .ok (.aload_n 0, 1) := by decide +kernel
theorem dX12_doFor_45 : decode cX12_doFor 45 = .ok (.getfield 13, 3) := by decide +kernel
theorem dX12_doFor_48 : decode cX12_doFor 48 = .ok (.sipush 400, 3) := by decide +kernel
theorem dX12_doFor_51 : decode cX12_doFor 51 = .ok (.iload_n 2, 1) := by decide +kernel
theorem dX12_doFor_52 : decode cX12_doFor 52 = .ok (.iadd, 1) := by decide +kernel
theorem dX12_doFor_53 : decode cX12_doFor 53 = .ok (.iaload, 1) := by decide +kernel
theorem dX12_doFor_54 : decode cX12_doFor 54 = .ok (.invokevirtual 346, 3) := by decide +kernel
theorem dX12_doFor_57 : decode cX12_doFor 57 = .ok (.iastore, 1) := by decide +kernel
theorem dX12_doFor_58 : decode cX12_doFor 58 = .ok (.iinc 2 1, 3) := by decide +kernel
theorem dX12_doFor_61 : decode cX12_doFor 61 = .ok (.goto (-39), 3) := by decide +kernel
theorem dX12_doFor_64 : decode cX12_doFor 64 = .ok (.sipush 200, 3) := by decide +kernel
theorem dX12_doFor_67 : decode cX12_doFor 67 = .ok (.istore_n 2, 1) := by decide +kernel
theorem dX12_doFor_68 : decode cX12_doFor 68 = .ok (.iload_n 2, 1) := by decide +kernel
theorem dX12_doFor_69 : decode cX12_doFor 69 = .ok (.sipush 200, 3) := by decide +kernel
theorem dX12_doFor_72 : decode cX12_doFor 72 = .ok (.aload_n 0, 1) := by decide +kernel
theorem dX12_doFor_73 : decode cX12_doFor 73 = .ok (.getfield 19, 3) := by decide +kernel
theorem dX12_doFor_76 : decode cX12_doFor 76 = .ok (.bipush 10, 2) := by decide +kernel
theorem dX12_doFor_78 : decode cX12_doFor 78 = .ok (.iaload, 1) := by decide +kernel
theorem dX12_doFor_79 : decode cX12_doFor 79 = .ok (.iadd, 1) := by decide +kernel
theorem dX12_doFor_80 : decode cX12_doFor 80 = .ok (.if_icmp .ge 52, 3) := by decide +kernel
theorem dX12_doFor_83 : decode cX12_doFor 83 = .ok (.bipush 8, 2) := by decide +kernel
theorem dX12_doFor_85 : decode cX12_doFor 85 = .ok (.iload_n 2, 1) := by decide +kernel
theorem dX12_doFor_86 : decode cX12_doFor 86 = .ok (.imul, 1) := by decide +kernel
theorem dX12_doFor_87 : decode cX12_doFor 87 = .ok (.istore_n 3, 1) := by decide +kernel
theorem dX12_doFor_88 : decode cX12_doFor 88 = .ok (.iload_n 3, 1) := by decide +kernel
theorem dX12_doFor_89 : decode cX12_doFor 89 = .ok (.bipush 8, 2) := by decide +kernel
theorem dX12_doFor_91 : decode cX12_doFor 91 = .ok (.iload_n 2, 1) := by decide +kernel
theorem dX12_doFor_92 : decode cX12_doFor 92 = .ok (.imul, 1) := by decide +kernel
theorem dX12_doFor_93 : decode cX12_doFor 93 = .ok (.aload_n 0, 1) := by decide +kernel
theorem dX12_doFor_94 : decode cX12_doFor 94 = .ok (.getfield 31, 3) := by decide +kernel
theorem dX12_doFor_97 : decode cX12_doFor 97 = .ok (.iload_n 2, 1) := by decide +kernel
theorem dX12_doFor_98 : decode cX12_doFor 98 = .ok (.iaload, 1) := by decide +kernel
theorem dX12_doFor_99 : decode cX12_doFor 99 = .ok (.iadd, 1) := by decide +kernel
theorem dX12_doFor_100 : decode cX12_doFor 100 = .ok (.if_icmp .ge 26, 3) := by decide +kernel
theorem dX12_doFor_103 : decode cX12_doFor 103 = .ok (.aload_n 0, 1) := by decide +kernel
theorem dX12_doFor_104 : decode cX12_doFor 104 = .ok (.getfield 34, 3) := by decide +kernel
theorem dX12_doFor_107 : decode cX12_doFor 107 = .ok (.iload_n 3, 1) := by decide +kernel
theorem dX12_doFor_108 : decode cX12_doFor 108 = .ok (.aload_n 0, 1) := by decide +kernel
theorem dX12_doFor_109 : decode cX12_doFor 109 = .ok (.iload_n 1, 1) := by decide +kernel
theorem dX12_doFor_110 : decode cX12_doFor 110 = .ok (.aload_n 0, 1) := by decide +kernel
theorem dX12_doFor_111 : decode cX12_doFor 111 = .ok (.getfield 34, 3) := by decide +kernel
theorem dX12_doFor_114 : decode cX12_doFor 114 = .ok (.iload_n 3, 1) := by decide +kernel
theorem dX12_doFor_115 : decode cX12_doFor 115 = .ok (.iaload, 1) := by decide +kernel
theorem dX12_doFor_116 : decode cX12_doFor 116 = .ok (.invokevirtual 346, 3) := by decide +kernel
theorem dX12_doFor_119 : decode cX12_doFor 119 = .ok (.iastore, 1) := by decide +kernel
theorem dX12_doFor_120 : decode cX12_doFor 120 = .ok (.iinc 3 1, 3) := by decide +kernel
theorem dX12_doFor_123 : decode cX12_doFor 123 = .ok (.goto (-35), 3) := by decide +kernel
theorem dX12_doFor_126 : decode cX12_doFor 126 = .ok (.iinc 2 1, 3) := by decide +kernel
theorem dX12_doFor_129 : decode cX12_doFor 129 = .ok (.goto (-61), 3) := by decide +kernel
theorem dX12_doFor_132 : decode cX12_doFor 132 = .ok (.return_, 1) := by decide +kernel
theorem dX12_isInText_0 : decode cX12_isInText 0 = .ok (.iconst 0, 1) := by decide +kernel
theorem dX12_isInText_1 : decode cX12_isInText 1 = .ok (.istore_n 2, 1) := by decide +kernel
theorem dX12_isInText_2 : decode cX12_isInText 2 = .ok (.iconst 0, 1) := by decide +kernel
theorem dX12_isInText_3 : decode cX12_isInText 3 = .ok (.istore_n 3, 1) := by decide +kernel
theorem dX12_isInText_4 : decode cX12_isInText 4 = .ok (.iload_n 3, 1) := by decide +kernel
theorem dX12_isInText_5 : decode cX12_isInText 5 = .ok (.aload_n 0, 1) := by decide +kernel
theorem dX12_isInText_6 : decode cX12_isInText 6 = .ok (.getfield 7, 3) := by decide +kernel
theorem dX12_isInText_9 : decode cX12_isInText 9 = .ok (.bipush 10, 2) := by decide +kernel
theorem dX12_isInText_11 : decode cX12_isInText 11 = .ok (.iaload, 1) := by decide +kernel
theorem dX12_isInText_12 : decode cX12_isInText 12 = .ok (.if_icmp .ge 33, 3) := by decide +kernel
theorem dX12_isInText_15 : decode cX12_isInText 15 = .ok (.iload_n 2, 1) := by decide +kernel
theorem dX12_isInText_16 : decode cX12_isInText 16 = .ok (.ifCond .ne 17, 3) := by decide +kernel
theorem dX12_isInText_19 : decode cX12_isInText 19 = .ok (.aload_n 0, 1) := by decide +kernel
theorem dX12_isInText_20 : decode cX12_isInText 20 = .ok (.getfield 16, 3) := by decide +kernel
theorem dX12_isInText_23 : decode cX12_isInText 23 = .ok (.sipush 400, 3) := by decide +kernel
theorem dX12_isInText_26 : decode cX12_isInText 26 = .ok (.iload_n 3, 1) := by decide +kernel
theorem dX12_isInText_27 : decode cX12_isInText 27 = .ok (.iadd, 1) := by decide +kernel
theorem dX12_isInText_28 : decode cX12_isInText 28 = .ok (.iaload, 1) := by decide +kernel
theorem dX12_isInText_29 : decode cX12_isInText 29 = .ok (.iload_n 1, 1) := by decide +kernel
theorem dX12_isInText_30 : decode cX12_isInText 30 = .ok (.if_icmp .ne 7, 3) := by decide +kernel
theorem dX12_isInText_33 : decode cX12_isInText 33 = .ok (.iconst 1, 1) := by decide +kernel
theorem dX12_isInText_34 : decode cX12_isInText 34 = .ok (.goto 4, 3) := by decide +kernel
theorem dX12_isInText_37 : decode cX12_isInText 37 = .ok (.iconst 0, 1) := by decide +kernel
theorem dX12_isInText_38 : decode cX12_isInText 38 = .ok (.istore_n 2, 1) := by decide +kernel
theorem dX12_isInText_39 : decode cX12_isInText 39 = .ok (.iinc 3 1, 3) := by decide +kernel
theorem dX12_isInText_42 : decode cX12_isInText 42 = .ok (.goto (-38), 3) := by decide +kernel
theorem dX12_isInText_45 : decode cX12_isInText 45 = .ok (.iload_n 2, 1) := by decide +kernel
theorem dX12_isInText_46 : decode cX12_isInText 46 = .ok (.ireturn, 1) := by decide +kernel
theorem dX12_leaveOut_0 : decode cX12_leaveOut 0 = .ok (.iload_n 1, 1) := by decide +kernel
theorem dX12_leaveOut_1 : decode cX12_leaveOut 1 = .ok (.istore_n 3, 1) := by decide +kernel
theorem dX12_leaveOut_2 : decode cX12_leaveOut 2 = .ok (.iload_n 3, 1) := by decide +kernel
theorem dX12_leaveOut_3 : decode cX12_leaveOut 3 = .ok (.iload_n 2, 1) := by decide +kernel
theorem dX12_leaveOut_4 : decode cX12_leaveOut 4 = .ok (.iadd, 1) := by decide +kernel
theorem dX12_leaveOut_5 : decode cX12_leaveOut 5 = .ok (.aload_n 0, 1) := by decide +kernel
theorem dX12_leaveOut_6 : decode cX12_leaveOut 6 = .ok (.getfield 7, 3) := by decide +kernel
theorem dX12_leaveOut_9 : decode cX12_leaveOut 9 = .ok (.bipush 10, 2) := by decide +kernel
theorem dX12_leaveOut_11 : decode cX12_leaveOut 11 = .ok (.iaload, 1) := by decide +kernel
theorem dX12_leaveOut_12 : decode cX12_leaveOut 12 = .ok (.if_icmp .ge 53, 3) := by decide +kernel
theorem dX12_leaveOut_15 : decode cX12_leaveOut 15 = .ok (.aload_n 0, 1) := by decide +kernel
theorem dX12_leaveOut_16 : decode cX12_leaveOut 16 = .ok (.getfield 13, 3) := by decide +kernel
theorem dX12_leaveOut_19 : decode cX12_leaveOut 19 = .ok (.sipush 400, 3) := by decide +kernel
theorem dX12_leaveOut_22 : decode cX12_leaveOut 22 = .ok (.iload_n 3, 1) := by decide +kernel
theorem dX12_leaveOut_23 : decode cX12_leaveOut 23 = .ok (.iadd, 1) := by decide +kernel
theorem dX12_leaveOut_24 : decode cX12_leaveOut 24 = .ok (.aload_n 0, 1) := by decide +kernel
theorem dX12_leaveOut_25 : decode cX12_leaveOut 25 = .ok (.getfield 13, 3) := by decide +kernel
theorem dX12_leaveOut_28 : decode cX12_leaveOut 28 = .ok (.sipush 400, 3) := by decide +kernel
theorem dX12_leaveOut_31 : decode cX12_leaveOut 31 = .ok (.iload_n 3, 1) := by decide +kernel
theorem dX12_leaveOut_32 : decode cX12_leaveOut 32 = .ok (.iadd, 1) := by decide +kernel
theorem dX12_leaveOut_33 : decode cX12_leaveOut 33 = .ok (.iload_n 2, 1) := by decide +kernel
theorem dX12_leaveOut_34 : decode cX12_leaveOut 34 = .ok (.iadd, 1) := by decide +kernel
theorem dX12_leaveOut_35 : decode cX12_leaveOut 35 = .ok (.iaload, 1) := by decide +kernel
theorem dX12_leaveOut_36 : decode cX12_leaveOut 36 = .ok (.iastore, 1) := by decide +kernel
theorem dX12_leaveOut_37 : decode cX12_leaveOut 37 = .ok (.aload_n 0, 1) := by decide +kernel
theorem dX12_leaveOut_38 : decode cX12_leaveOut 38 = .ok (.getfield 16, 3) := by decide +kernel
theorem dX12_leaveOut_41 : decode cX12_leaveOut 41 = .ok (.sipush 400, 3) := by decide +kernel
theorem dX12_leaveOut_44 : decode cX12_leaveOut 44 = .ok (.iload_n 3, 1) := by decide +kernel
theorem dX12_leaveOut_45 : decode cX12_leaveOut 45 = .ok (.iadd, 1) := by decide +kernel
theorem dX12_leaveOut_46 : decode cX12_leaveOut 46 = .ok (.aload_n 0, 1) := by decide +kernel
theorem dX12_leaveOut_47 : decode cX12_leaveOut 47 = .ok (.getfield 16, 3) := by decide +kernel
theorem dX12_leaveOut_50 : decode cX12_leaveOut 50 = .ok (.sipush 400, 3) := by decide +kernel
theorem dX12_leaveOut_53 : decode cX12_leaveOut 53 = .ok (.iload_n 3, 1) := by decide +kernel
theorem dX12_leaveOut_54 : decode cX12_leaveOut 54 = .ok (.iadd, 1) := by decide +kernel
theorem dX12_leaveOut_55 : decode cX12_leaveOut 55 = .ok (.iload_n 2, 1) := by decide +kernel
theorem dX12_leaveOut_56 : decode cX12_leaveOut 56 = .ok (.iadd, 1) := by decide +kernel
theorem dX12_leaveOut_57 : decode cX12_leaveOut 57 = .ok (.iaload, 1) := by decide +kernel
theorem dX12_leaveOut_58 : decode cX12_leaveOut 58 = .ok (.iastore, 1) := by decide +kernel
theorem dX12_leaveOut_59 : decode cX12_leaveOut 59 = .ok (.iinc 3 1, 3) := by decide +kernel
theorem dX12_leaveOut_62 : decode cX12_leaveOut 62 = .ok (.goto (-60), 3) := by decide +kernel
theorem dX12_leaveOut_65 : decode cX12_leaveOut 65 = .ok (.aload_n 0, 1) := by decide +kernel
theorem dX12_leaveOut_66 : decode cX12_leaveOut 66 = .ok (.getfield 7, 3) := by decide +kernel
theorem dX12_leaveOut_69 : decode cX12_leaveOut 69 = .ok (.bipush 10, 2) := by decide +kernel
theorem dX12_leaveOut_71 : decode cX12_leaveOut 71 = .ok (.dup2, 1) := by decide +kernel
theorem dX12_leaveOut_72 : decode cX12_leaveOut 72 = .ok (.iaload, 1) := by decide +kernel
theorem dX12_leaveOut_73 : decode cX12_leaveOut 73 = .ok (.iload_n 2, 1) := by decide +kernel
theorem dX12_leaveOut_74 : decode cX12_leaveOut 74 = .ok (.isub, 1) := by decide +kernel
theorem dX12_leaveOut_75 : decode cX12_leaveOut 75 = .ok (.iastore, 1) := by decide +kernel
theorem dX12_leaveOut_76 : decode cX12_leaveOut 76 = .ok (.iconst 0, 1) := by decide +kernel
theorem dX12_leaveOut_77 : decode cX12_leaveOut 77 = .ok (.istore_n 3, 1) := by decide +kernel
theorem dX12_leaveOut_78 : decode cX12_leaveOut 78 = .ok (.iload_n 3, 1) := by decide +kernel
theorem dX12_leaveOut_79 : decode cX12_leaveOut 79 = .ok (.aload_n 0, 1) := by decide +kernel
theorem dX12_leaveOut_80 : decode cX12_leaveOut 80 = .ok (.getfield 19, 3) := by decide +kernel
theorem dX12_leaveOut_83 : decode cX12_leaveOut 83 = .ok (.bipush 10, 2) := by decide +kernel
theorem dX12_leaveOut_85 : decode cX12_leaveOut 85 = .ok (.iaload, 1) := by decide +kernel
theorem dX12_leaveOut_86 : decode cX12_leaveOut 86 = .ok (.if_icmp .ge 53, 3) := by decide +kernel
theorem dX12_leaveOut_89 : decode cX12_leaveOut 89 = .ok (.aload_n 0, 1) := by decide +kernel
theorem dX12_leaveOut_90 : decode cX12_leaveOut 90 = .ok (.getfield 98, 3) := by decide +kernel
theorem dX12_leaveOut_93 : decode cX12_leaveOut 93 = .ok (.iload_n 3, 1) := by decide +kernel
theorem dX12_leaveOut_94 : decode cX12_leaveOut 94 = .ok (.baload, 1) := by decide +kernel
theorem dX12_leaveOut_95 : decode cX12_leaveOut 95 = .ok (.ifCond .ne 38, 3) := by decide +kernel
theorem dX12_leaveOut_98 : decode cX12_leaveOut 98 = .ok (.aload_n 0, 1) := by decide +kernel
theorem dX12_leaveOut_99 : decode cX12_leaveOut 99 = .ok (.getfield 25, 3) := by decide +kernel
theorem dX12_leaveOut_102 : decode cX12_leaveOut 102 = .ok (.sipush 200, 3) := by decide +kernel
theorem dX12_leaveOut_105 : decode cX12_leaveOut 105 = .ok (.iload_n 3, 1) := by decide +kernel
theorem dX12_leaveOut_106 : decode cX12_leaveOut 106 = .ok (.iadd, 1) := by decide +kernel
theorem dX12_leaveOut_107 : decode cX12_leaveOut 107 = .ok (.iaload, 1) := by decide +kernel
theorem dX12_leaveOut_108 : decode cX12_leaveOut 108 = .ok (.ifCond .ge 25, 3) := by decide +kernel
theorem dX12_leaveOut_111 : decode cX12_leaveOut 111 = .ok (.aload_n 0, 1) := by decide +kernel
theorem dX12_leaveOut_112 : decode cX12_leaveOut 112 = .ok (.aload_n 0, 1) := by decide +kernel
theorem dX12_leaveOut_113 : decode cX12_leaveOut 113 = .ok (.getfield 28, 3) := by decide +kernel
theorem dX12_leaveOut_116 : decode cX12_leaveOut 116 = .ok (.sipush 200, 3) := by decide +kernel
theorem dX12_leaveOut_119 : decode cX12_leaveOut 119 = .ok (.iload_n 3, 1) := by decide +kernel
theorem dX12_leaveOut_120 : decode cX12_leaveOut 120 = .ok (.iadd, 1) := by decide +kernel
theorem dX12_leaveOut_121 : decode cX12_leaveOut 121 = .ok (.iaload, 1) := by decide +kernel
theorem dX12_leaveOut_122 : decode cX12_leaveOut 122 = .ok (.invokevirtual 349, 3) := by decide +kernel
theorem dX12_leaveOut_125 : decode cX12_leaveOut 125 = .ok (.ifCond .ne 8, 3) := by decide +kernel
theorem dX12_leaveOut_128 : decode cX12_leaveOut 128 = .ok (.aload_n 0, 1) := by decide +kernel
theorem dX12_leaveOut_129 : decode cX12_leaveOut 129 = .ok (.iload_n 3, 1) := by decide +kernel
theorem dX12_leaveOut_130 : decode cX12_leaveOut 130 = .ok (.invokevirtual 353, 3) := by decide +kernel
theorem dX12_leaveOut_133 : decode cX12_leaveOut 133 = .ok (.iinc 3 1, 3) := by decide +kernel
theorem dX12_leaveOut_136 : decode cX12_leaveOut 136 = .ok (.goto (-58), 3) := by decide +kernel
theorem dX12_leaveOut_139 : decode cX12_leaveOut 139 = .ok (.return_, 1) := by decide +kernel
theorem dX12_doSkip_0 : decode cX12_doSkip 0 = .ok (.aload_n 0, 1) := by decide +kernel
theorem dX12_doSkip_1 : decode cX12_doSkip 1 = .ok (.getfield 77, 3) := by decide +kernel
theorem dX12_doSkip_4 : decode cX12_doSkip 4 = .ok (.bipush 6, 2) := by decide +kernel
theorem dX12_doSkip_6 : decode cX12_doSkip 6 = .ok (.iload_n 1, 1) := by decide +kernel
theorem dX12_doSkip_7 : decode cX12_doSkip 7 = .ok (.imul, 1) := by decide +kernel
theorem dX12_doSkip_8 : decode cX12_doSkip 8 = .ok (.iconst 1, 1) := by decide +kernel
theorem dX12_doSkip_9 : decode cX12_doSkip 9 = .ok (.iadd, 1) := by decide +kernel
theorem dX12_doSkip_10 : decode cX12_doSkip 10 = .ok (.iaload, 1) := by decide +kernel
theorem dX12_doSkip_11 : decode cX12_doSkip 11 = .ok (.istore_n 2, 1) := by decide +kernel
theorem dX12_doSkip_12 : decode cX12_doSkip 12 = .ok (.iconst 0, 1) := by decide +kernel
theorem dX12_doSkip_13 : decode cX12_doSkip 13 = .ok (.istore_n 3, 1) := by decide +kernel
theorem dX12_doSkip_14 : decode cX12_doSkip 14 = .ok (.iconst 0, 1) := by decide +kernel
theorem dX12_doSkip_15 : decode cX12_doSkip 15 = .ok (.istore 4, 2) := by decide +kernel
theorem dX12_doSkip_17 : decode cX12_doSkip 17 = .ok (.iload_n 2, 1) := by decide +kernel
theorem dX12_doSkip_18 : decode cX12_doSkip 18 = .ok (.ifCond .le 141, 3) := by decide +kernel
theorem dX12_doSkip_21 : decode cX12_doSkip 21 = .ok (.iload 4, 2) := by decide +kernel
theorem dX12_doSkip_23 : decode cX12_doSkip 23 = .ok (.aload_n 0, 1) := by decide +kernel
theorem dX12_doSkip_24 : decode cX12_doSkip 24 = .ok (.getfield 7, 3) := by decide +kernel
theorem dX12_doSkip_27 : decode cX12_doSkip 27 = .ok (.bipush 10, 2) := by decide +kernel
theorem dX12_doSkip_29 : decode cX12_doSkip 29 = .ok (.iaload, 1) := by decide +kernel
theorem dX12_doSkip_30 : decode cX12_doSkip 30 = .ok (.if_icmp .ge 129, 3) := by decide +kernel
theorem dX12_doSkip_33 : decode cX12_doSkip 33 = .ok (.iconst (-1), 1) := by decide +kernel
theorem dX12_doSkip_34 : decode cX12_doSkip 34 = .ok (.istore 5, 2) := by decide +kernel
theorem dX12_doSkip_36 : decode cX12_doSkip 36 = .ok (.iload 4, 2) := by decide +kernel
theorem dX12_doSkip_38 : decode cX12_doSkip 38 = .ok (.iconst 1, 1) := by decide +kernel
theorem dX12_doSkip_39 : decode cX12_doSkip 39 = .ok (.iadd, 1) := by decide +kernel
theorem dX12_doSkip_40 : decode cX12_doSkip 40 = .ok (.istore 6, 2) := by decide +kernel
theorem dX12_doSkip_42 : decode cX12_doSkip 42 = .ok (.iload 6, 2) := by decide +kernel
theorem dX12_doSkip_44 : decode cX12_doSkip 44 = .ok (.iload 4, 2) := by decide +kernel
theorem dX12_doSkip_46 : decode cX12_doSkip 46 = .ok (.aload_n 0, 1) := by decide +kernel
theorem dX12_doSkip_47 : decode cX12_doSkip 47 = .ok (.getfield 80, 3) := by decide +kernel
theorem dX12_doSkip_50 : decode cX12_doSkip 50 = .ok (.iload_n 1, 1) := by decide +kernel
theorem dX12_doSkip_51 : decode cX12_doSkip 51 = .ok (.iaload, 1) := by decide +kernel
theorem dX12_doSkip_52 : decode cX12_doSkip 52 = .ok (.iadd, 1) := by decide +kernel
theorem dX12_doSkip_53 : decode cX12_doSkip 53 = .ok (.if_icmp .gt 59, 3) := by decide +kernel
theorem dX12_doSkip_56 : decode cX12_doSkip 56 = .ok (.iload 6, 2) := by decide +kernel
theorem dX12_doSkip_58 : decode cX12_doSkip 58 = .ok (.aload_n 0, 1) := by decide +kernel
theorem dX12_doSkip_59 : decode cX12_doSkip 59 = .ok (.getfield 7, 3) := by decide +kernel
theorem dX12_doSkip_62 : decode cX12_doSkip 62 = .ok (.bipush 10, 2) := by decide +kernel
theorem dX12_doSkip_64 : decode cX12_doSkip 64 = .ok (.iaload, 1) := by decide +kernel
theorem dX12_doSkip_65 : decode cX12_doSkip 65 = .ok (.if_icmp .ge 47, 3) := by decide +kernel
theorem dX12_doSkip_68 : decode cX12_doSkip 68 = .ok (.iload 5, 2) := by decide +kernel
theorem dX12_doSkip_70 : decode cX12_doSkip 70 = .ok (.ifCond .ge 42, 3) := by decide +kernel
theorem dX12_doSkip_73 : decode cX12_doSkip 73 = .ok (.aload_n 0, 1) := by decide +kernel
theorem dX12_doSkip_74 : decode cX12_doSkip 74 = .ok (.getfield 13, 3) := by decide +kernel
theorem dX12_doSkip_77 : decode cX12_doSkip 77 = .ok (.sipush 400, 3) := by decide +kernel
theorem dX12_doSkip_80 : decode cX12_doSkip 80 = .ok (.iload 6, 2) := by decide +kernel
theorem dX12_doSkip_82 : decode cX12_doSkip 82 = .ok (.iadd, 1) := by decide +kernel
theorem dX12_doSkip_83 : decode cX12_doSkip 83 = .ok (.iaload, 1) := by decide +kernel
theorem dX12_doSkip_84 : decode cX12_doSkip 84 = .ok (.aload_n 0, 1) := by decide +kernel
theorem dX12_doSkip_85 : decode cX12_doSkip 85 = .ok (.getfield 13, 3) := by decide +kernel
theorem dX12_doSkip_88 : decode cX12_doSkip 88 = .ok (.sipush 400, 3) := by decide +kernel
theorem dX12_doSkip_91 : decode cX12_doSkip 91 = .ok (.iload 4, 2) := by decide +kernel
theorem dX12_doSkip_93 : decode cX12_doSkip 93 = .ok (.iadd, 1) := by decide +kernel
theorem dX12_doSkip_94 : decode cX12_doSkip 94 = .ok (.iaload, 1) := by decide +kernel
theorem dX12_doSkip_95 : decode cX12_doSkip 95 = .ok (.if_icmp .ne 8, 3) := by decide +kernel
theorem dX12_doSkip_98 : decode cX12_doSkip 98 = .ok (.iload 6, 2) := by decide +kernel
theorem dX12_doSkip_100 : decode cX12_doSkip 100 = .ok (.goto 4, 3) := by decide +kernel
theorem dX12_doSkip_103 : decode cX12_doSkip 103 = .ok (.iconst (-1), 1) := by decide +kernel
theorem dX12_doSkip_104 : decode cX12_doSkip 104 = .ok (.istore 5, 2) := by decide +kernel
theorem dX12_doSkip_106 : decode cX12_doSkip 106 = .ok (.iinc 6 1, 3) := by decide +kernel
theorem dX12_doSkip_109 : decode cX12_doSkip 109 = .ok (.goto (-67), 3) := by decide +kernel
theorem dX12_doSkip_112 : decode cX12_doSkip 112 = .ok (.iconst 0, 1) := by decide +kernel
theorem dX12_doSkip_113 : decode cX12_doSkip 113 = .ok (.istore 6, 2) := by decide +kernel
theorem dX12_doSkip_115 : decode cX12_doSkip 115 = .ok (.iload 5, 2) := by decide +kernel
theorem dX12_doSkip_117 : decode cX12_doSkip 117 = .ok (.ifCond .lt 15, 3) := by decide +kernel
theorem dX12_doSkip_120 : decode cX12_doSkip 120 = .ok (.iinc 3 1, 3) := by decide +kernel
theorem dX12_doSkip_123 : decode cX12_doSkip 123 = .ok (.aload_n 0, 1) := by decide +kernel
theorem dX12_doSkip_124 : decode cX12_doSkip 124 = .ok (.iconst 1, 1) := by decide +kernel
theorem dX12_doSkip_125 : decode cX12_doSkip 125 = .ok (.iload_n 3, 1) := by decide +kernel
theorem dX12_doSkip_126 : decode cX12_doSkip 126 = .ok (.iload_n 2, 1) := by decide +kernel
theorem dX12_doSkip_127 : decode cX12_doSkip 127 = .ok (.invokevirtual 342, 3) := by decide +kernel
theorem dX12_doSkip_130 : decode cX12_doSkip 130 = .ok (.istore 6, 2) := by decide +kernel
theorem dX12_doSkip_132 : decode cX12_doSkip 132 = .ok (.iload 6, 2) := by decide +kernel
theorem dX12_doSkip_134 : decode cX12_doSkip 134 = .ok (.ifCond .eq 19, 3) := by decide +kernel
theorem dX12_doSkip_137 : decode cX12_doSkip 137 = .ok (.aload_n 0, 1) := by decide +kernel
theorem dX12_doSkip_138 : decode cX12_doSkip 138 = .ok (.iload 4, 2) := by decide +kernel
theorem dX12_doSkip_140 : decode cX12_doSkip 140 = .ok (.iconst 1, 1) := by decide +kernel
theorem dX12_doSkip_141 : decode cX12_doSkip 141 = .ok (.iadd, 1) := by decide +kernel
theorem dX12_doSkip_142 : decode cX12_doSkip 142 = .ok (.iload 5, 2) := by decide +kernel
theorem dX12_doSkip_144 : decode cX12_doSkip 144 = .ok (.iload 4, 2) := by decide +kernel
theorem dX12_doSkip_146 : decode cX12_doSkip 146 = .ok (.isub, 1) := by decide +kernel
theorem dX12_doSkip_147 : decode cX12_doSkip 147 = .ok (.invokevirtual 356, 3) := by decide +kernel
theorem dX12_doSkip_150 : decode cX12_doSkip 150 = .ok (.goto 6, 3) := by decide +kernel
theorem dX12_doSkip_153 : decode cX12_doSkip 153 = .ok (.iinc 4 1, 3) := by decide +kernel
theorem dX12_doSkip_156 : decode cX12_doSkip 156 = .ok (.goto (-139), 3) := by decide +kernel
theorem dX12_doSkip_159 : decode cX12_doSkip 159 = .ok (.return_, 1) := by decide +kernel
theorem dX12_doTurn_0 : decode cX12_doTurn 0 = .ok (.aload_n 0, 1) := by decide +kernel
theorem dX12_doTurn_1 : decode cX12_doTurn 1 = .ok (.getfield 77, 3) := by decide +kernel
theorem dX12_doTurn_4 : decode cX12_doTurn 4 = .ok (.bipush 6, 2) := by decide +kernel
theorem dX12_doTurn_6 : decode cX12_doTurn 6 = .ok (.iload_n 1, 1) := by decide +kernel
theorem dX12_doTurn_7 : decode cX12_doTurn 7 = .ok (.imul, 1) := by decide +kernel
theorem dX12_doTurn_8 : decode cX12_doTurn 8 = .ok (.iconst 2, 1) := by decide +kernel
theorem dX12_doTurn_9 : decode cX12_doTurn 9 = .ok (.iadd, 1) := by decide +kernel
theorem dX12_doTurn_10 : decode cX12_doTurn 10 = .ok (.iaload, 1) := by decide +kernel
theorem dX12_doTurn_11 : decode cX12_doTurn 11 = .ok (.istore_n 2, 1) := by decide +kernel
theorem dX12_doTurn_12 : decode cX12_doTurn 12 = .ok (.iconst 0, 1) := by decide +kernel
theorem dX12_doTurn_13 : decode cX12_doTurn 13 = .ok (.istore_n 3, 1) := by decide +kernel
theorem dX12_doTurn_14 : decode cX12_doTurn 14 = .ok (.sipush 400, 3) := by decide +kernel
theorem dX12_doTurn_17 : decode cX12_doTurn 17 = .ok (.istore 4, 2) := by decide +kernel
theorem dX12_doTurn_19 : decode cX12_doTurn 19 = .ok (.iload_n 2, 1) := by decide +kernel
theorem dX12_doTurn_20 : decode cX12_doTurn 20 = .ok (.ifCond .le 163, 3) := by decide +kernel
theorem dX12_doTurn_23 : decode cX12_doTurn 23 = .ok (.iload 4, 2) := by decide +kernel
theorem dX12_doTurn_25 : decode cX12_doTurn 25 = .ok (.iconst 1, 1) := by decide +kernel
theorem dX12_doTurn_26 : decode cX12_doTurn 26 = .ok (.iadd, 1) := by decide +kernel
theorem dX12_doTurn_27 : decode cX12_doTurn 27 = .ok (.sipush 400, 3) := by decide +kernel
theorem dX12_doTurn_30 : decode cX12_doTurn 30 = .ok (.aload_n 0, 1) := by decide +kernel
theorem dX12_doTurn_31 : decode cX12_doTurn 31 = .ok (.getfield 7, 3) := by decide +kernel
theorem dX12_doTurn_34 : decode cX12_doTurn 34 = .ok (.bipush 10, 2) := by decide +kernel
theorem dX12_doTurn_36 : decode cX12_doTurn 36 = .ok (.iaload, 1) := by decide +kernel
theorem dX12_doTurn_37 : decode cX12_doTurn 37 = .ok (.iadd, 1) := by decide +kernel
theorem dX12_doTurn_38 : decode cX12_doTurn 38 = .ok (.if_icmp .ge 145, 3) := by decide +kernel
theorem dX12_doTurn_41 : decode cX12_doTurn 41 = .ok (.aload_n 0, 1) := by decide +kernel
theorem dX12_doTurn_42 : decode cX12_doTurn 42 = .ok (.getfield 16, 3) := by decide +kernel
theorem dX12_doTurn_45 : decode cX12_doTurn 45 = .ok (.iload 4, 2) := by decide +kernel
theorem dX12_doTurn_47 : decode cX12_doTurn 47 = .ok (.iaload, 1) := by decide +kernel
theorem dX12_doTurn_48 : decode cX12_doTurn 48 = .ok (.ifCond .ge 38, 3) := by decide +kernel
theorem dX12_doTurn_51 : decode cX12_doTurn 51 = .ok (.aload_n 0, 1) := by decide +kernel
theorem dX12_doTurn_52 : decode cX12_doTurn 52 = .ok (.getfield 16, 3) := by decide +kernel
theorem dX12_doTurn_55 : decode cX12_doTurn 55 = .ok (.iload 4, 2) := by decide +kernel
theorem dX12_doTurn_57 : decode cX12_doTurn 57 = .ok (.iconst 1, 1) := by decide +kernel
theorem dX12_doTurn_58 : decode cX12_doTurn 58 = .ok (.iadd, 1) := by decide +kernel
theorem dX12_doTurn_59 : decode cX12_doTurn 59 = .ok (.iaload, 1) := by decide +kernel
theorem dX12_doTurn_60 : decode cX12_doTurn 60 = .ok (.ifCond .ge 26, 3) := by decide +kernel
theorem dX12_doTurn_63 : decode cX12_doTurn 63 = .ok (.aload_n 0, 1) := by decide +kernel
theorem dX12_doTurn_64 : decode cX12_doTurn 64 = .ok (.getfield 13, 3) := by decide +kernel
theorem dX12_doTurn_67 : decode cX12_doTurn 67 = .ok (.iload 4, 2) := by decide +kernel
theorem dX12_doTurn_69 : decode cX12_doTurn 69 = .ok (.iaload, 1) := by decide +kernel
theorem dX12_doTurn_70 : decode cX12_doTurn 70 = .ok (.aload_n 0, 1) := by decide +kernel
theorem dX12_doTurn_71 : decode cX12_doTurn 71 = .ok (.getfield 13, 3) := by decide +kernel
theorem dX12_doTurn_74 : decode cX12_doTurn 74 = .ok (.iload 4, 2) := by decide +kernel
theorem dX12_doTurn_76 : decode cX12_doTurn 76 = .ok (.iconst 1, 1) := by decide +kernel
theorem dX12_doTurn_77 : decode cX12_doTurn 77 = .ok (.iadd, 1) := by decide +kernel
theorem dX12_doTurn_78 : decode cX12_doTurn 78 = .ok (.iaload, 1) := by decide +kernel
theorem dX12_doTurn_79 : decode cX12_doTurn 79 = .ok (.if_icmp .eq 7, 3) := by decide +kernel
theorem dX12_doTurn_82 : decode cX12_doTurn 82 = .ok (.iconst 1, 1) := by decide +kernel
theorem dX12_doTurn_83 : decode cX12_doTurn 83 = .ok (.goto 4, 3) := by decide +kernel
theorem dX12_doTurn_86 : decode cX12_doTurn 86 = .ok (.iconst 0, 1) := by decide +kernel
theorem dX12_doTurn_87 : decode cX12_doTurn 87 = .ok (.istore 5, 2) := by decide +kernel
theorem dX12_doTurn_89 : decode cX12_doTurn 89 = .ok (.iload_n 3, 1) := by decide +kernel
theorem dX12_doTurn_90 : decode cX12_doTurn 90 = .ok (.iload 5, 2) := by decide +kernel
theorem dX12_doTurn_92 : decode cX12_doTurn 92 = .ok (.ifCond .eq 7, 3) := by decide +kernel
theorem dX12_doTurn_95 : decode cX12_doTurn 95 = .ok (.iconst 1, 1) := by decide +kernel
theorem dX12_doTurn_96 : decode cX12_doTurn 96 = .ok (.goto 4, 3) := by decide +kernel
