theorem d_Md_cross_0 : decode b_Md_cross 0 = .ok (.lload_n 0, 1) := by decide +kernel
theorem d_Md_cross_1 : decode b_Md_cross 1 = .ok (.lload 6, 2) := by decide +kernel
theorem d_Md_cross_3 : decode b_Md_cross 3 = .ok (.lmul, 1) := by decide +kernel
theorem d_Md_cross_4 : decode b_Md_cross 4 = .ok (.lload_n 2, 1) := by decide +kernel
theorem d_Md_cross_5 : decode b_Md_cross 5 = .ok (.lload 4, 2) := by decide +kernel
theorem d_Md_cross_7 : decode b_Md_cross 7 = .ok (.lmul, 1) := by decide +kernel
theorem d_Md_cross_8 : decode b_Md_cross 8 = .ok (.lsub, 1) := by decide +kernel
theorem d_Md_cross_9 : decode b_Md_cross 9 = .ok (.lreturn, 1) := by decide +kernel
theorem d_Md_isIn_0 : decode b_Md_isIn 0 = .ok (.iload_n 0, 1) := by decide +kernel
theorem d_Md_isIn_1 : decode b_Md_isIn 1 = .ok (.iload_n 1, 1) := by decide +kernel
theorem d_Md_isIn_2 : decode b_Md_isIn 2 = .ok (.ineg, 1) := by decide +kernel
theorem d_Md_isIn_3 : decode b_Md_isIn 3 = .ok (.if_icmp .lt 12, 3) := by decide +kernel
theorem d_Md_isIn_6 : decode b_Md_isIn 6 = .ok (.iload_n 0, 1) := by decide +kernel
theorem d_Md_isIn_7 : decode b_Md_isIn 7 = .ok (.iload_n 1, 1) := by decide +kernel
theorem d_Md_isIn_8 : decode b_Md_isIn 8 = .ok (.if_icmp .gt 7, 3) := by decide +kernel
theorem d_Md_isIn_11 : decode b_Md_isIn 11 = .ok (.iconst 1, 1) := by decide +kernel
theorem d_Md_isIn_12 : decode b_Md_isIn 12 = .ok (.goto 4, 3) := by decide +kernel
theorem d_Md_isIn_15 : decode b_Md_isIn 15 = .ok (.iconst 0, 1) := by decide +kernel
theorem d_Md_isIn_16 : decode b_Md_isIn 16 = .ok (.ireturn, 1) := by decide +kernel
theorem d_Md_free_0 : decode b_Md_free 0 = .ok (.iconst 0, 1) := by decide +kernel
theorem d_Md_free_1 : decode b_Md_free 1 = .ok (.istore_n 1, 1) := by decide +kernel
theorem d_Md_free_2 : decode b_Md_free 2 = .ok (.iload_n 1, 1) := by decide +kernel
theorem d_Md_free_3 : decode b_Md_free 3 = .ok (.bipush 64, 2) := by decide +kernel
theorem d_Md_free_5 : decode b_Md_free 5 = .ok (.if_icmp .ge 18, 3) := by decide +kernel
theorem d_Md_free_8 : decode b_Md_free 8 = .ok (.aload_n 0, 1) := by decide +kernel
theorem d_Md_free_9 : decode b_Md_free 9 = .ok (.getfield 7, 3) := by decide +kernel
theorem d_Md_free_12 : decode b_Md_free 12 = .ok (.iload_n 1, 1) := by decide +kernel
theorem d_Md_free_13 : decode b_Md_free 13 = .ok (.baload, 1) := by decide +kernel
theorem d_Md_free_14 : decode b_Md_free 14 = .ok (.ifCond .eq 9, 3) := by decide +kernel
theorem d_Md_free_17 : decode b_Md_free 17 = .ok (.iinc 1 1, 3) := by decide +kernel
theorem d_Md_free_20 : decode b_Md_free 20 = .ok (.goto (-18), 3) := by decide +kernel
theorem d_Md_free_23 : decode b_Md_free 23 = .ok (.iload_n 1, 1) := by decide +kernel
theorem d_Md_free_24 : decode b_Md_free 24 = .ok (.bipush 64, 2) := by decide +kernel
theorem d_Md_free_26 : decode b_Md_free 26 = .ok (.if_icmp .ge 7, 3) := by decide +kernel
theorem d_Md_free_29 : decode b_Md_free 29 = .ok (.iload_n 1, 1) := by decide +kernel
theorem d_Md_free_30 : decode b_Md_free 30 = .ok (.goto 4, 3) := by decide +kernel
theorem d_Md_free_33 : decode b_Md_free 33 = .ok (.iconst (-1), 1) := by decide +kernel
theorem d_Md_free_34 : decode b_Md_free 34 = .ok (.ireturn, 1) := by decide +kernel
theorem d_Md_isOn_0 : decode b_Md_isOn 0 = .ok (.aload_n 0, 1) := by decide +kernel
theorem d_Md_isOn_1 : decode b_Md_isOn 1 = .ok (.getfield 13, 3) := by decide +kernel
theorem d_Md_isOn_4 : decode b_Md_isOn 4 = .ok (.iload_n 1, 1) := by decide +kernel
theorem d_Md_isOn_5 : decode b_Md_isOn 5 = .ok (.iaload, 1) := by decide +kernel
theorem d_Md_isOn_6 : decode b_Md_isOn 6 = .ok (.aload_n 0, 1) := by decide +kernel
theorem d_Md_isOn_7 : decode b_Md_isOn 7 = .ok (.getfield 20, 3) := by decide +kernel
theorem d_Md_isOn_10 : decode b_Md_isOn 10 = .ok (.iload_n 1, 1) := by decide +kernel
theorem d_Md_isOn_11 : decode b_Md_isOn 11 = .ok (.iaload, 1) := by decide +kernel
theorem d_Md_isOn_12 : decode b_Md_isOn 12 = .ok (.if_icmp .ge 12, 3) := by decide +kernel
theorem d_Md_isOn_15 : decode b_Md_isOn 15 = .ok (.aload_n 0, 1) := by decide +kernel
theorem d_Md_isOn_16 : decode b_Md_isOn 16 = .ok (.getfield 13, 3) := by decide +kernel
theorem d_Md_isOn_19 : decode b_Md_isOn 19 = .ok (.iload_n 1, 1) := by decide +kernel
theorem d_Md_isOn_20 : decode b_Md_isOn 20 = .ok (.iaload, 1) := by decide +kernel
theorem d_Md_isOn_21 : decode b_Md_isOn 21 = .ok (.goto 9, 3) := by decide +kernel
theorem d_Md_isOn_24 : decode b_Md_isOn 24 = .ok (.aload_n 0, 1) := by decide +kernel
theorem d_Md_isOn_25 : decode b_Md_isOn 25 = .ok (.getfield 20, 3) := by decide +kernel
theorem d_Md_isOn_28 : decode b_Md_isOn 28 = .ok (.iload_n 1, 1) := by decide +kernel
theorem d_Md_isOn_29 : decode b_Md_isOn 29 = .ok (.iaload, 1) := by decide +kernel
theorem d_Md_isOn_30 : decode b_Md_isOn 30 = .ok (.istore 4, 2) := by decide +kernel
theorem d_Md_isOn_32 : decode b_Md_isOn 32 = .ok (.aload_n 0, 1) := by decide +kernel
theorem d_Md_isOn_33 : decode b_Md_isOn 33 = .ok (.getfield 13, 3) := by decide +kernel
theorem d_Md_isOn_36 : decode b_Md_isOn 36 = .ok (.iload_n 1, 1) := by decide +kernel
theorem d_Md_isOn_37 : decode b_Md_isOn 37 = .ok (.iaload, 1) := by decide +kernel
theorem d_Md_isOn_38 : decode b_Md_isOn 38 = .ok (.aload_n 0, 1) := by decide +kernel
theorem d_Md_isOn_39 : decode b_Md_isOn 39 = .ok (.getfield 20, 3) := by decide +kernel
theorem d_Md_isOn_42 : decode b_Md_isOn 42 = .ok (.iload_n 1, 1) := by decide +kernel
theorem d_Md_isOn_43 : decode b_Md_isOn 43 = .ok (.iaload, 1) := by decide +kernel
theorem d_Md_isOn_44 : decode b_Md_isOn 44 = .ok (.if_icmp .ge 12, 3) := by decide +kernel
theorem d_Md_isOn_47 : decode b_Md_isOn 47 = .ok (.aload_n 0, 1) := by decide +kernel
theorem d_Md_isOn_48 : decode b_Md_isOn 48 = .ok (.getfield 20, 3) := by decide +kernel
theorem d_Md_isOn_51 : decode b_Md_isOn 51 = .ok (.iload_n 1, 1) := by decide +kernel
theorem d_Md_isOn_52 : decode b_Md_isOn 52 = .ok (.iaload, 1) := by decide +kernel
theorem d_Md_isOn_53 : decode b_Md_isOn 53 = .ok (.goto 9, 3) := by decide +kernel
theorem d_Md_isOn_56 : decode b_Md_isOn 56 = .ok (.aload_n 0, 1) := by decide +kernel
theorem d_Md_isOn_57 : decode b_Md_isOn 57 = .ok (.getfield 13, 3) := by decide +kernel
theorem d_Md_isOn_60 : decode b_Md_isOn 60 = .ok (.iload_n 1, 1) := by decide +kernel
theorem d_Md_isOn_61 : decode b_Md_isOn 61 = .ok (.iaload, 1) := by decide +kernel
theorem d_Md_isOn_62 : decode b_Md_isOn 62 = .ok (.istore 5, 2) := by decide +kernel
theorem d_Md_isOn_64 : decode b_Md_isOn 64 = .ok (.aload_n 0, 1) := by decide +kernel
theorem d_Md_isOn_65 : decode b_Md_isOn 65 = .ok (.getfield 17, 3) := by decide +kernel
theorem d_Md_isOn_68 : decode b_Md_isOn 68 = .ok (.iload_n 1, 1) := by decide +kernel
theorem d_Md_isOn_69 : decode b_Md_isOn 69 = .ok (.iaload, 1) := by decide +kernel
theorem d_Md_isOn_70 : decode b_Md_isOn 70 = .ok (.aload_n 0, 1) := by decide +kernel
theorem d_Md_isOn_71 : decode b_Md_isOn 71 = .ok (.getfield 23, 3) := by decide +kernel
theorem d_Md_isOn_74 : decode b_Md_isOn 74 = .ok (.iload_n 1, 1) := by decide +kernel
theorem d_Md_isOn_75 : decode b_Md_isOn 75 = .ok (.iaload, 1) := by decide +kernel
theorem d_Md_isOn_76 : decode b_Md_isOn 76 = .ok (.if_icmp .ge 12, 3) := by decide +kernel
theorem d_Md_isOn_79 : decode b_Md_isOn 79 = .ok (.aload_n 0, 1) := by decide +kernel
theorem d_Md_isOn_80 : decode b_Md_isOn 80 = .ok (.getfield 17, 3) := by decide +kernel
theorem d_Md_isOn_83 : decode b_Md_isOn 83 = .ok (.iload_n 1, 1) := by decide +kernel
theorem d_Md_isOn_84 : decode b_Md_isOn 84 = .ok (.iaload, 1) := by decide +kernel
theorem d_Md_isOn_85 : decode b_Md_isOn 85 = .ok (.goto 9, 3) := by decide +kernel
theorem d_Md_isOn_88 : decode b_Md_isOn 88 = .ok (.aload_n 0, 1) := by decide +kernel
theorem d_Md_isOn_89 : decode b_Md_isOn 89 = .ok (.getfield 23, 3) := by decide +kernel
theorem d_Md_isOn_92 : decode b_Md_isOn 92 = .ok (.iload_n 1, 1) := by decide +kernel
theorem d_Md_isOn_93 : decode b_Md_isOn 93 = .ok (.iaload, 1) := by decide +kernel
theorem d_Md_isOn_94 : decode b_Md_isOn 94 = .ok (.istore 6, 2) := by decide +kernel
theorem d_Md_isOn_96 : decode b_Md_isOn 96 = .ok (.aload_n 0, 1) := by decide +kernel
theorem d_Md_isOn_97 : decode b_Md_isOn 97 = .ok (.getfield 17, 3) := by decide +kernel
theorem d_Md_isOn_100 : decode b_Md_isOn 100 = .ok (.iload_n 1, 1) := by decide +kernel
theorem d_Md_isOn_101 : decode b_Md_isOn 101 = .ok (.iaload, 1) := by decide +kernel
theorem d_Md_isOn_102 : decode b_Md_isOn 102 = .ok (.aload_n 0, 1) := by decide +kernel
theorem d_Md_isOn_103 : decode b_Md_isOn 103 = .ok (.getfield 23, 3) := by decide +kernel
theorem d_Md_isOn_106 : decode b_Md_isOn 106 = .ok (.iload_n 1, 1) := by decide +kernel
theorem d_Md_isOn_107 : decode b_Md_isOn 107 = .ok (.iaload, 1) := by decide +kernel
theorem d_Md_isOn_108 : decode b_Md_isOn 108 = .ok (.if_icmp .ge 12, 3) := by decide +kernel
theorem d_Md_isOn_111 : decode b_Md_isOn 111 = .ok (.aload_n 0, 1) := by decide +kernel
theorem d_Md_isOn_112 : decode b_Md_isOn 112 = .ok (.getfield 23, 3) := by decide +kernel
theorem d_Md_isOn_115 : decode b_Md_isOn 115 = .ok (.iload_n 1, 1) := by decide +kernel
theorem d_Md_isOn_116 : decode b_Md_isOn 116 = .ok (.iaload, 1) := by decide +kernel
theorem d_Md_isOn_117 : decode b_Md_isOn 117 = .ok (.goto 9, 3) := by decide +kernel
theorem d_Md_isOn_120 : decode b_Md_isOn 120 = .ok (.aload_n 0, 1) := by decide +kernel
theorem d_Md_isOn_121 : decode b_Md_isOn 121 = .ok (.getfield 17, 3) := by decide +kernel
theorem d_Md_isOn_124 : decode b_Md_isOn 124 = .ok (.iload_n 1, 1) := by decide +kernel
theorem d_Md_isOn_125 : decode b_Md_isOn 125 = .ok (.iaload, 1) := by decide +kernel
theorem d_Md_isOn_126 : decode b_Md_isOn 126 = .ok (.istore 7, 2) := by decide +kernel
theorem d_Md_isOn_128 : decode b_Md_isOn 128 = .ok (.aload_n 0, 1) := by decide +kernel
theorem d_Md_isOn_129 : decode b_Md_isOn 129 = .ok (.getfield 20, 3) := by decide +kernel
theorem d_Md_isOn_132 : decode b_Md_isOn 132 = .ok (.iload_n 1, 1) := by decide +kernel
theorem d_Md_isOn_133 : decode b_Md_isOn 133 = .ok (.iaload, 1) := by decide +kernel
theorem d_Md_isOn_134 : decode b_Md_isOn 134 = .ok (.aload_n 0, 1) := by decide +kernel
theorem d_Md_isOn_135 : decode b_Md_isOn 135 = .ok (.getfield 13, 3) := by decide +kernel
theorem d_Md_isOn_138 : decode b_Md_isOn 138 = .ok (.iload_n 1, 1) := by decide +kernel
theorem d_Md_isOn_139 : decode b_Md_isOn 139 = .ok (.iaload, 1) := by decide +kernel
theorem d_Md_isOn_140 : decode b_Md_isOn 140 = .ok (.isub, 1) := by decide +kernel
theorem d_Md_isOn_141 : decode b_Md_isOn 141 = .ok (.i2l, 1) := by decide +kernel
theorem d_Md_isOn_142 : decode b_Md_isOn 142 = .ok (.aload_n 0, 1) := by decide +kernel
theorem d_Md_isOn_143 : decode b_Md_isOn 143 = .ok (.getfield 23, 3) := by decide +kernel
theorem d_Md_isOn_146 : decode b_Md_isOn 146 = .ok (.iload_n 1, 1) := by decide +kernel
theorem d_Md_isOn_147 : decode b_Md_isOn 147 = .ok (.iaload, 1) := by decide +kernel
theorem d_Md_isOn_148 : decode b_Md_isOn 148 = .ok (.aload_n 0, 1) := by decide +kernel
theorem d_Md_isOn_149 : decode b_Md_isOn 149 = .ok (.getfield 17, 3) := by decide +kernel
theorem d_Md_isOn_152 : decode b_Md_isOn 152 = .ok (.iload_n 1, 1) := by decide +kernel
theorem d_Md_isOn_153 : decode b_Md_isOn 153 = .ok (.iaload, 1) := by decide +kernel
theorem d_Md_isOn_154 : decode b_Md_isOn 154 = .ok (.isub, 1) := by decide +kernel
theorem d_Md_isOn_155 : decode b_Md_isOn 155 = .ok (.i2l, 1) := by decide +kernel
theorem d_Md_isOn_156 : decode b_Md_isOn 156 = .ok (.iload_n 2, 1) := by decide +kernel
theorem d_Md_isOn_157 : decode b_Md_isOn 157 = .ok (.aload_n 0, 1) := by decide +kernel
theorem d_Md_isOn_158 : decode b_Md_isOn 158 = .ok (.getfield 13, 3) := by decide +kernel
theorem d_Md_isOn_161 : decode b_Md_isOn 161 = .ok (.iload_n 1, 1) := by decide +kernel
theorem d_Md_isOn_162 : decode b_Md_isOn 162 = .ok (.iaload, 1) := by decide +kernel
theorem d_Md_isOn_163 : decode b_Md_isOn 163 = .ok (.isub, 1) := by decide +kernel
theorem d_Md_isOn_164 : decode b_Md_isOn 164 = .ok (.i2l, 1) := by decide +kernel
theorem d_Md_isOn_165 : decode b_Md_isOn 165 = .ok (.iload_n 3, 1) := by decide +kernel
theorem d_Md_isOn_166 : decode b_Md_isOn 166 = .ok (.aload_n 0, 1) := by decide +kernel
theorem d_Md_isOn_167 : decode b_Md_isOn 167 = .ok (.getfield 17, 3) := by decide +kernel
theorem d_Md_isOn_170 : decode b_Md_isOn 170 = .ok (.iload_n 1, 1) := by decide +kernel
theorem d_Md_isOn_171 : decode b_Md_isOn 171 = .ok (.iaload, 1) := by decide +kernel
theorem d_Md_isOn_172 : decode b_Md_isOn 172 = .ok (.isub, 1) := by decide +kernel
theorem d_Md_isOn_173 : decode b_Md_isOn 173 = .ok (.i2l, 1) := by decide +kernel
theorem d_Md_isOn_174 : decode b_Md_isOn 174 = .ok (.invokestatic 33, 3) := by decide +kernel
theorem d_Md_isOn_177 : decode b_Md_isOn 177 = .ok (.lconst 0, 1) := by decide +kernel
theorem d_Md_isOn_178 : decode b_Md_isOn 178 = .ok (.lcmp, 1) := by decide +kernel
theorem d_Md_isOn_179 : decode b_Md_isOn 179 = .ok (.ifCond .ne 31, 3) := by decide +kernel
theorem d_Md_isOn_182 : decode b_Md_isOn 182 = .ok (.iload_n 2, 1) := by decide +kernel
theorem d_Md_isOn_183 : decode b_Md_isOn 183 = .ok (.iload 4, 2) := by decide +kernel
theorem d_Md_isOn_185 : decode b_Md_isOn 185 = .ok (.if_icmp .lt 25, 3) := by decide +kernel
theorem d_Md_isOn_188 : decode b_Md_isOn 188 = .ok (.iload_n 2, 1) := by decide +kernel
theorem d_Md_isOn_189 : decode b_Md_isOn 189 = .ok (.iload 5, 2) := by decide +kernel
theorem d_Md_isOn_191 : decode b_Md_isOn 191 = .ok (.if_icmp .gt 19, 3) := by decide +kernel
theorem d_Md_isOn_194 : decode b_Md_isOn 194 = .ok (.iload_n 3, 1) := by decide +kernel
theorem d_Md_isOn_195 : decode b_Md_isOn 195 = .ok (.iload 6, 2) := by decide +kernel
theorem d_Md_isOn_197 : decode b_Md_isOn 197 = .ok (.if_icmp .lt 13, 3) := by decide +kernel
theorem d_Md_isOn_200 : decode b_Md_isOn 200 = .ok (.iload_n 3, 1) := by decide +kernel
theorem d_Md_isOn_201 : decode b_Md_isOn 201 = .ok (.iload 7, 2) := by decide +kernel
theorem d_Md_isOn_203 : decode b_Md_isOn 203 = .ok (.if_icmp .gt 7, 3) := by decide +kernel
theorem d_Md_isOn_206 : decode b_Md_isOn 206 = .ok (.iconst 1, 1) := by decide +kernel
theorem d_Md_isOn_207 : decode b_Md_isOn 207 = .ok (.goto 4, 3) := by decide +kernel
theorem d_Md_isOn_210 : decode b_Md_isOn 210 = .ok (.iconst 0, 1) := by decide +kernel
theorem d_Md_isOn_211 : decode b_Md_isOn 211 = .ok (.ireturn, 1) := by decide +kernel
theorem d_Md_isEnd_0 : decode b_Md_isEnd 0 = .ok (.aload_n 0, 1) := by decide +kernel
theorem d_Md_isEnd_1 : decode b_Md_isEnd 1 = .ok (.getfield 13, 3) := by decide +kernel
theorem d_Md_isEnd_4 : decode b_Md_isEnd 4 = .ok (.iload_n 1, 1) := by decide +kernel
theorem d_Md_isEnd_5 : decode b_Md_isEnd 5 = .ok (.iaload, 1) := by decide +kernel
theorem d_Md_isEnd_6 : decode b_Md_isEnd 6 = .ok (.iload_n 2, 1) := by decide +kernel
theorem d_Md_isEnd_7 : decode b_Md_isEnd 7 = .ok (.if_icmp .ne 13, 3) := by decide +kernel
theorem d_Md_isEnd_10 : decode b_Md_isEnd 10 = .ok (.aload_n 0, 1) := by decide +kernel
theorem d_Md_isEnd_11 : decode b_Md_isEnd 11 = .ok (.getfield 17, 3) := by decide +kernel
theorem d_Md_isEnd_14 : decode b_Md_isEnd 14 = .ok (.iload_n 1, 1) := by decide +kernel
theorem d_Md_isEnd_15 : decode b_Md_isEnd 15 = .ok (.iaload, 1) := by decide +kernel
theorem d_Md_isEnd_16 : decode b_Md_isEnd 16 = .ok (.iload_n 3, 1) := by decide +kernel
theorem d_Md_isEnd_17 : decode b_Md_isEnd 17 = .ok (.if_icmp .eq 23, 3) := by decide +kernel
theorem d_Md_isEnd_20 : decode b_Md_isEnd 20 = .ok (.aload_n 0, 1) := by decide +kernel
theorem d_Md_isEnd_21 : decode b_Md_isEnd 21 = .ok (.getfield 20, 3) := by decide +kernel
theorem d_Md_isEnd_24 : decode b_Md_isEnd 24 = .ok (.iload_n 1, 1) := by decide +kernel
theorem d_Md_isEnd_25 : decode b_Md_isEnd 25 = .ok (.iaload, 1) := by decide +kernel
theorem d_Md_isEnd_26 : decode b_Md_isEnd 26 = .ok (.iload_n 2, 1) := by decide +kernel
theorem d_Md_isEnd_27 : decode b_Md_isEnd 27 = .ok (.if_icmp .ne 17, 3) := by decide +kernel
theorem d_Md_isEnd_30 : decode b_Md_isEnd 30 = .ok (.aload_n 0, 1) := by decide +kernel
theorem d_Md_isEnd_31 : decode b_Md_isEnd 31 = .ok (.getfield 23, 3) := by decide +kernel
theorem d_Md_isEnd_34 : decode b_Md_isEnd 34 = .ok (.iload_n 1, 1) := by decide +kernel
theorem d_Md_isEnd_35 : decode b_Md_isEnd 35 = .ok (.iaload, 1) := by decide +kernel
theorem d_Md_isEnd_36 : decode b_Md_isEnd 36 = .ok (.iload_n 3, 1) := by decide +kernel
theorem d_Md_isEnd_37 : decode b_Md_isEnd 37 = .ok (.if_icmp .ne 7, 3) := by decide +kernel
theorem d_Md_isEnd_40 : decode b_Md_isEnd 40 = .ok (.iconst 1, 1) := by decide +kernel
theorem d_Md_isEnd_41 : decode b_Md_isEnd 41 = .ok (.goto 4, 3) := by decide +kernel
theorem d_Md_isEnd_44 : decode b_Md_isEnd 44 = .ok (.iconst 0, 1) := by decide +kernel
theorem d_Md_isEnd_45 : decode b_Md_isEnd 45 = .ok (.ireturn, 1) := by decide +kernel
theorem d_Md_areApart_0 : decode b_Md_areApart 0 = .ok (.aload_n 0, 1) := by decide +kernel
theorem d_Md_areApart_1 : decode b_Md_areApart 1 = .ok (.getfield 20, 3) := by decide +kernel
theorem d_Md_areApart_4 : decode b_Md_areApart 4 = .ok (.iload_n 1, 1) := by decide +kernel
theorem d_Md_areApart_5 : decode b_Md_areApart 5 = .ok (.iaload, 1) := by decide +kernel
theorem d_Md_areApart_6 : decode b_Md_areApart 6 = .ok (.aload_n 0, 1) := by decide +kernel
theorem d_Md_areApart_7 : decode b_Md_areApart 7 = .ok (.getfield 13, 3) := by decide +kernel
theorem d_Md_areApart_10 : decode b_Md_areApart 10 = .ok (.iload_n 1, 1) := by decide +kernel
theorem d_Md_areApart_11 : decode b_Md_areApart 11 = .ok (.iaload, 1) := by decide +kernel
theorem d_Md_areApart_12 : decode b_Md_areApart 12 = .ok (.isub, 1) := by decide +kernel
theorem d_Md_areApart_13 : decode b_Md_areApart 13 = .ok (.i2l, 1) := by decide +kernel
theorem d_Md_areApart_14 : decode b_Md_areApart 14 = .ok (.aload_n 0, 1) := by decide +kernel
theorem d_Md_areApart_15 : decode b_Md_areApart 15 = .ok (.getfield 23, 3) := by decide +kernel
theorem d_Md_areApart_18 : decode b_Md_areApart 18 = .ok (.iload_n 1, 1) := by decide +kernel
theorem d_Md_areApart_19 : decode b_Md_areApart 19 = .ok (.iaload, 1) := by decide +kernel
theorem d_Md_areApart_20 : decode b_Md_areApart 20 = .ok (.aload_n 0, 1) := by decide +kernel
theorem d_Md_areApart_21 : decode b_Md_areApart 21 = .ok (.getfield 17, 3) := by decide +kernel
theorem d_Md_areApart_24 : decode b_Md_areApart 24 = .ok (.iload_n 1, 1) := by decide +kernel
theorem d_Md_areApart_25 : decode b_Md_areApart 25 = .ok (.iaload, 1) := by decide +kernel
theorem d_Md_areApart_26 : decode b_Md_areApart 26 = .ok (.isub, 1) := by decide +kernel
theorem d_Md_areApart_27 : decode b_Md_areApart 27 = .ok (.i2l, 1) := by decide +kernel
theorem d_Md_areApart_28 : decode b_Md_areApart 28 = .ok (.aload_n 0, 1) := by decide +kernel
theorem d_Md_areApart_29 : decode b_Md_areApart 29 = .ok (.getfield 13, 3) := by decide +kernel
theorem d_Md_areApart_32 : decode b_Md_areApart 32 = .ok (.iload_n 2, 1) := by decide +kernel
theorem d_Md_areApart_33 : decode b_Md_areApart 33 = .ok (.iaload, 1) := by decide +kernel
theorem d_Md_areApart_34 : decode b_Md_areApart 34 = .ok (.aload_n 0, 1) := by decide +kernel
theorem d_Md_areApart_35 : decode b_Md_areApart 35 = .ok (.getfield 13, 3) := by decide +kernel
theorem d_Md_areApart_38 : decode b_Md_areApart 38 = .ok (.iload_n 1, 1) := by decide +kernel
theorem d_Md_areApart_39 : decode b_Md_areApart 39 = .ok (.iaload, 1) := by decide +kernel
theorem d_Md_areApart_40 : decode b_Md_areApart 40 = .ok (.isub, 1) := by decide +kernel
theorem d_Md_areApart_41 : decode b_Md_areApart 41 = .ok (.i2l, 1) := by decide +kernel
theorem d_Md_areApart_42 : decode b_Md_areApart 42 = .ok (.aload_n 0, 1) := by decide +kernel
theorem d_Md_areApart_43 : decode b_Md_areApart 43 = .ok (.getfield 17, 3) := by decide +kernel
theorem d_Md_areApart_46 : decode b_Md_areApart 46 = .ok (.iload_n 2, 1) := by decide +kernel
theorem d_Md_areApart_47 : decode b_Md_areApart 47 = .ok (.iaload, 1) := by decide +kernel
theorem d_Md_areApart_48 : decode b_Md_areApart 48 = .ok (.aload_n 0, 1) := by decide +kernel
theorem d_Md_areApart_49 : decode b_Md_areApart 49 = .ok (.getfield 17, 3) := by decide +kernel
theorem d_Md_areApart_52 : decode b_Md_areApart 52 = .ok (.iload_n 1, 1) := by decide +kernel
theorem d_Md_areApart_53 : decode b_Md_areApart 53 = .ok (.iaload, 1) := by decide +kernel
theorem d_Md_areApart_54 : decode b_Md_areApart 54 = .ok (.isub, 1) := by decide +kernel
theorem d_Md_areApart_55 : decode b_Md_areApart 55 = .ok (.i2l, 1) := by decide +kernel
theorem d_Md_areApart_56 : decode b_Md_areApart 56 = .ok (.invokestatic 33, 3) := by decide +kernel
theorem d_Md_areApart_59 : decode b_Md_areApart 59 = .ok (.lstore_n 3, 1) := by decide +kernel
theorem d_Md_areApart_60 : decode b_Md_areApart 60 = .ok (.aload_n 0, 1) := by decide +kernel
theorem d_Md_areApart_61 : decode b_Md_areApart 61 = .ok (.getfield 20, 3) := by decide +kernel
theorem d_Md_areApart_64 : decode b_Md_areApart 64 = .ok (.iload_n 1, 1) := by decide +kernel
theorem d_Md_areApart_65 : decode b_Md_areApart 65 = .ok (.iaload, 1) := by decide +kernel
theorem d_Md_areApart_66 : decode b_Md_areApart 66 = .ok (.aload_n 0, 1) := by decide +kernel
theorem d_Md_areApart_67 : decode b_Md_areApart 67 = .ok (.getfield 13, 3) := by decide +kernel
theorem d_Md_areApart_70 : decode b_Md_areApart 70 = .ok (.iload_n 1, 1) := by decide +kernel
theorem d_Md_areApart_71 : decode b_Md_areApart 71 = .ok (.iaload, 1) := by decide +kernel
theorem d_Md_areApart_72 : decode b_Md_areApart 72 = .ok (.isub, 1) := by decide +kernel
theorem d_Md_areApart_73 : decode b_Md_areApart 73 = .ok (.i2l, 1) := by decide +kernel
theorem d_Md_areApart_74 : decode b_Md_areApart 74 = .ok (.aload_n 0, 1) := by decide +kernel
theorem d_Md_areApart_75 : decode b_Md_areApart 75 = .ok (.getfield 23, 3) := by decide +kernel
theorem d_Md_areApart_78 : decode b_Md_areApart 78 = .ok (.iload_n 1, 1) := by decide +kernel
theorem d_Md_areApart_79 : decode b_Md_areApart 79 = .ok (.iaload, 1) := by decide +kernel
theorem d_Md_areApart_80 : decode b_Md_areApart 80 = .ok (.aload_n 0, 1) := by decide +kernel
theorem d_Md_areApart_81 : decode b_Md_areApart 81 = .ok (.getfield 17, 3) := by decide +kernel
theorem d_Md_areApart_84 : decode b_Md_areApart 84 = .ok (.iload_n 1, 1) := by decide +kernel
theorem d_Md_areApart_85 : decode b_Md_areApart 85 = .ok (.iaload, 1) := by decide +kernel
theorem d_Md_areApart_86 : decode b_Md_areApart 86 = .ok (.isub, 1) := by decide +kernel
theorem d_Md_areApart_87 : decode b_Md_areApart 87 = .ok (.i2l, 1) := by decide +kernel
theorem d_Md_areApart_88 : decode b_Md_areApart 88 = .ok (.aload_n 0, 1) := by decide +kernel
theorem d_Md_areApart_89 : decode b_Md_areApart 89 = .ok (.getfield 20, 3) := by decide +kernel
theorem d_Md_areApart_92 : decode b_Md_areApart 92 = .ok (.iload_n 2, 1) := by decide +kernel
theorem d_Md_areApart_93 : decode b_Md_areApart 93 = .ok (.iaload, 1) := by decide +kernel
theorem d_Md_areApart_94 : decode b_Md_areApart 94 = .ok (.aload_n 0, 1) := by decide +kernel
theorem d_Md_areApart_95 : decode b_Md_areApart 95 = .ok (.getfield 13, 3) := by decide +kernel
theorem d_Md_areApart_98 : decode b_Md_areApart 98 = .ok (.iload_n 1, 1) := by decide +kernel
theorem d_Md_areApart_99 : decode b_Md_areApart 99 = .ok (.iaload, 1) := by decide +kernel
theorem d_Md_areApart_100 : decode b_Md_areApart 100 = .ok (.isub, 1) := by decide +kernel
theorem d_Md_areApart_101 : decode b_Md_areApart 101 = .ok (.i2l, 1) := by decide +kernel
theorem d_Md_areApart_102 : decode b_Md_areApart 102 = .ok (.aload_n 0, 1) := by decide +kernel
theorem d_Md_areApart_103 : decode b_Md_areApart 103 = .ok (.getfield 23, 3) := by decide +kernel
theorem d_Md_areApart_106 : decode b_Md_areApart 106 = .ok (.iload_n 2, 1) := by decide +kernel
theorem d_Md_areApart_107 : decode b_Md_areApart 107 = .ok (.iaload, 1) := by decide +kernel
theorem d_Md_areApart_108 : decode b_Md_areApart 108 = .ok (.aload_n 0, 1) := by decide +kernel
theorem d_Md_areApart_109 : decode b_Md_areApart 109 = .ok (.getfield 17, 3) := by decide +kernel
theorem d_Md_areApart_112 : decode b_Md_areApart 112 = .ok (.iload_n 1, 1) := by decide +kernel
theorem d_Md_areApart_113 : decode b_Md_areApart 113 = .ok (.iaload, 1) := by decide +kernel
theorem d_Md_areApart_114 : decode b_Md_areApart 114 = .ok (.isub, 1) := by decide +kernel
theorem d_Md_areApart_115 : decode b_Md_areApart 115 = .ok (.i2l, 1) := by decide +kernel
theorem d_Md_areApart_116 : decode b_Md_areApart 116 = .ok (.invokestatic 33, 3) := by decide +kernel
theorem d_Md_areApart_119 : decode b_Md_areApart 119 = .ok (.lstore 5, 2) := by decide +kernel
theorem d_Md_areApart_121 : decode b_Md_areApart 121 = .ok (.aload_n 0, 1) := by decide +kernel
theorem d_Md_areApart_122 : decode b_Md_areApart 122 = .ok (.getfield 20, 3) := by decide +kernel
theorem d_Md_areApart_125 : decode b_Md_areApart 125 = .ok (.iload_n 2, 1) := by decide +kernel
theorem d_Md_areApart_126 : decode b_Md_areApart 126 = .ok (.iaload, 1) := by decide +kernel
theorem d_Md_areApart_127 : decode b_Md_areApart 127 = .ok (.aload_n 0, 1) := by decide +kernel
theorem d_Md_areApart_128 : decode b_Md_areApart 128 = .ok (.getfield 13, 3) := by decide +kernel
theorem d_Md_areApart_131 : decode b_Md_areApart 131 = .ok (.iload_n 2, 1) := by decide +kernel
theorem d_Md_areApart_132 : decode b_Md_areApart 132 = .ok (.iaload, 1) := by decide +kernel
theorem d_Md_areApart_133 : decode b_Md_areApart 133 = .ok (.isub, 1) := by decide +kernel
theorem d_Md_areApart_134 : decode b_Md_areApart 134 = .ok (.i2l, 1) := by decide +kernel
theorem d_Md_areApart_135 : decode b_Md_areApart 135 = .ok (.aload_n 0, 1) := by decide +kernel
theorem d_Md_areApart_136 : decode b_Md_areApart 136 = .ok (.getfield 23, 3) := by decide +kernel
theorem d_Md_areApart_139 : decode b_Md_areApart 139 = .ok (.iload_n 2, 1) := by decide +kernel
theorem d_Md_areApart_140 : decode b_Md_areApart 140 = .ok (.iaload, 1) := by decide +kernel
theorem d_Md_areApart_141 : decode b_Md_areApart 141 = .ok (.aload_n 0, 1) := by decide +kernel
theorem d_Md_areApart_142 : decode b_Md_areApart 142 = .ok (.getfield 17, 3) := by decide +kernel
theorem d_Md_areApart_145 : decode b_Md_areApart 145 = .ok (.iload_n 2, 1) := by decide +kernel
theorem d_Md_areApart_146 : decode b_Md_areApart 146 = .ok (.iaload, 1) := by decide +kernel
theorem d_Md_areApart_147 : decode b_Md_areApart 147 = .ok (.isub, 1) := by decide +kernel
theorem d_Md_areApart_148 : decode b_Md_areApart 148 = .ok (.i2l, 1) := by decide +kernel
theorem d_Md_areApart_149 : decode b_Md_areApart 149 = .ok (.aload_n 0, 1) := by decide +kernel
theorem d_Md_areApart_150 : decode b_Md_areApart 150 = .ok (.getfield 13, 3) := by decide +kernel
theorem d_Md_areApart_153 : decode b_Md_areApart 153 = .ok (.iload_n 1, 1) := by decide +kernel
theorem d_Md_areApart_154 : decode b_Md_areApart 154 = .ok (.iaload, 1) := by decide +kernel
theorem d_Md_areApart_155 : decode b_Md_areApart 155 = .ok (.aload_n 0, 1) := by decide +kernel
theorem d_Md_areApart_156 : decode b_Md_areApart 156 = .ok (.getfield 13, 3) := by decide +kernel
theorem d_Md_areApart_159 : decode b_Md_areApart 159 = .ok (.iload_n 2, 1) := by decide +kernel
theorem d_Md_areApart_160 : decode b_Md_areApart 160 = .ok (.iaload, 1) := by decide +kernel
theorem d_Md_areApart_161 : decode b_Md_areApart 161 = .ok (.isub, 1) := by decide +kernel
theorem d_Md_areApart_162 : decode b_Md_areApart 162 = .ok (.i2l, 1) := by decide +kernel
theorem d_Md_areApart_163 : decode b_Md_areApart 163 = .ok (.aload_n 0, 1) := by decide +kernel
theorem d_Md_areApart_164 : decode b_Md_areApart 164 = .ok (.getfield 17, 3) := by decide +kernel
theorem d_Md_areApart_167 : decode b_Md_areApart 167 = .ok (.iload_n 1, 1) := by decide +kernel
theorem d_Md_areApart_168 : decode b_Md_areApart 168 = .ok (.iaload, 1) := by decide +kernel
theorem d_Md_areApart_169 : decode b_Md_areApart 169 = .ok (.aload_n 0, 1) := by decide +kernel
theorem d_Md_areApart_170 : decode b_Md_areApart 170 = .ok (.getfield 17, 3) := by decide +kernel
theorem d_Md_areApart_173 : decode b_Md_areApart 173 = .ok (.iload_n 2, 1) := by decide +kernel
theorem d_Md_areApart_174 : decode b_Md_areApart 174 = .ok (.iaload, 1) := by decide +kernel
theorem d_Md_areApart_175 : decode b_Md_areApart 175 = .ok (.isub, 1) := by decide +kernel
theorem d_Md_areApart_176 : decode b_Md_areApart 176 = .ok (.i2l, 1) := by decide +kernel
theorem d_Md_areApart_177 : decode b_Md_areApart 177 = .ok (.invokestatic 33, 3) := by decide +kernel
theorem d_Md_areApart_180 : decode b_Md_areApart 180 = .ok (.lstore 7, 2) := by decide +kernel
theorem d_Md_areApart_182 : decode b_Md_areApart 182 = .ok (.aload_n 0, 1) := by decide +kernel
theorem d_Md_areApart_183 : decode b_Md_areApart 183 = .ok (.getfield 20, 3) := by decide +kernel
theorem d_Md_areApart_186 : decode b_Md_areApart 186 = .ok (.iload_n 2, 1) := by decide +kernel
theorem d_Md_areApart_187 : decode b_Md_areApart 187 = .ok (.iaload, 1) := by decide +kernel
theorem d_Md_areApart_188 : decode b_Md_areApart 188 = .ok (.aload_n 0, 1) := by decide +kernel
theorem d_Md_areApart_189 : decode b_Md_areApart 189 = .ok (.getfield 13, 3) := by decide +kernel
theorem d_Md_areApart_192 : decode b_Md_areApart 192 = .ok (.iload_n 2, 1) := by decide +kernel
theorem d_Md_areApart_193 : decode b_Md_areApart 193 = .ok (.iaload, 1) := by decide +kernel
theorem d_Md_areApart_194 : decode b_Md_areApart 194 = .ok (.isub, 1) := by decide +kernel
theorem d_Md_areApart_195 : decode b_Md_areApart 195 = .ok (.i2l, 1) := by decide +kernel
theorem d_Md_areApart_196 : decode b_Md_areApart 196 = .ok (.aload_n 0, 1) := by decide +kernel
theorem d_Md_areApart_197 : decode b_Md_areApart 197 = .ok (.getfield 23, 3) := by decide +kernel
theorem d_Md_areApart_200 : decode b_Md_areApart 200 = .ok (.iload_n 2, 1) := by decide +kernel
theorem d_Md_areApart_201 : decode b_Md_areApart 201 = .ok (.iaload, 1) := by decide +kernel
theorem d_Md_areApart_202 : decode b_Md_areApart 202 = .ok (.aload_n 0, 1) := by decide +kernel
theorem d_Md_areApart_203 : decode b_Md_areApart 203 = .ok (.getfield 17, 3) := by decide +kernel
theorem d_Md_areApart_206 : decode b_Md_areApart 206 = .ok (.iload_n 2, 1) := by decide +kernel
theorem d_Md_areApart_207 : decode b_Md_areApart 207 = .ok (.iaload, 1) := by decide +kernel
theorem d_Md_areApart_208 : decode b_Md_areApart 208 = .ok (.isub, 1) := by decide +kernel
theorem d_Md_areApart_209 : decode b_Md_areApart 209 = .ok (.i2l, 1) := by decide +kernel
theorem d_Md_areApart_210 : decode b_Md_areApart 210 = .ok (.aload_n 0, 1) := by decide +kernel
theorem d_Md_areApart_211 : decode b_Md_areApart 211 = .ok (.getfield 20, 3) := by decide +kernel
theorem d_Md_areApart_214 : decode b_Md_areApart 214 = .ok (.iload_n 1, 1) := by decide +kernel
theorem d_Md_areApart_215 : decode b_Md_areApart 215 = .ok (.iaload, 1) := by decide +kernel
theorem d_Md_areApart_216 : decode b_Md_areApart 216 = .ok (.aload_n 0, 1) := by decide +kernel
theorem d_Md_areApart_217 : decode b_Md_areApart 217 = .ok (.getfield 13, 3) := by decide +kernel
theorem d_Md_areApart_220 : decode b_Md_areApart 220 = .ok (.iload_n 2, 1) := by decide +kernel
theorem d_Md_areApart_221 : decode b_Md_areApart 221 = .ok (.iaload, 1) := by decide +kernel
theorem d_Md_areApart_222 : decode b_Md_areApart 222 = .ok (.isub, 1) := by decide +kernel
theorem d_Md_areApart_223 : decode b_Md_areApart 223 = .ok (.i2l, 1) := by decide +kernel
theorem d_Md_areApart_224 : decode b_Md_areApart 224 = .ok (.aload_n 0, 1) := by decide +kernel
theorem d_Md_areApart_225 : decode b_Md_areApart 225 = .ok (.getfield 23, 3) := by decide +kernel
theorem d_Md_areApart_228 : decode b_Md_areApart 228 = .ok (.iload_n 1, 1) := by decide +kernel
theorem d_Md_areApart_229 : decode b_Md_areApart 229 = .ok (.iaload, 1) := by decide +kernel
theorem d_Md_areApart_230 : decode b_Md_areApart 230 = .ok (.aload_n 0, 1) := by decide +kernel
theorem d_Md_areApart_231 : decode b_Md_areApart 231 = .ok (.getfield 17, 3) := by decide +kernel
theorem d_Md_areApart_234 : decode b_Md_areApart 234 = .ok (.iload_n 2, 1) := by decide +kernel
theorem d_Md_areApart_235 : decode b_Md_areApart 235 = .ok (.iaload, 1) := by decide +kernel
theorem d_Md_areApart_236 : decode b_Md_areApart 236 = .ok (.isub, 1) := by decide +kernel
theorem d_Md_areApart_237 : decode b_Md_areApart 237 = .ok (.i2l, 1) := by decide +kernel
theorem d_Md_areApart_238 : decode b_Md_areApart 238 = .ok (.invokestatic 33, 3) := by decide +kernel
theorem d_Md_areApart_241 : decode b_Md_areApart 241 = .ok (.lstore 9, 2) := by decide +kernel
theorem d_Md_areApart_243 : decode b_Md_areApart 243 = .ok (.lload_n 3, 1) := by decide +kernel
theorem d_Md_areApart_244 : decode b_Md_areApart 244 = .ok (.lconst 0, 1) := by decide +kernel
theorem d_Md_areApart_245 : decode b_Md_areApart 245 = .ok (.lcmp, 1) := by decide +kernel
theorem d_Md_areApart_246 : decode b_Md_areApart 246 = .ok (.ifCond .ge 10, 3) := by decide +kernel
theorem d_Md_areApart_249 : decode b_Md_areApart 249 = .ok (.lload 5, 2) := by decide +kernel
theorem d_Md_areApart_251 : decode b_Md_areApart 251 = .ok (.lconst 0, 1) := by decide +kernel
theorem d_Md_areApart_252 : decode b_Md_areApart 252 = .ok (.lcmp, 1) := by decide +kernel
theorem d_Md_areApart_253 : decode b_Md_areApart 253 = .ok (.ifCond .gt 16, 3) := by decide +kernel
theorem d_Md_areApart_256 : decode b_Md_areApart 256 = .ok (.lload_n 3, 1) := by decide +kernel
theorem d_Md_areApart_257 : decode b_Md_areApart 257 = .ok (.lconst 0, 1) := by decide +kernel
theorem d_Md_areApart_258 : decode b_Md_areApart 258 = .ok (.lcmp, 1) := by decide +kernel
theorem d_Md_areApart_259 : decode b_Md_areApart 259 = .ok (.ifCond .le 42, 3) := by decide +kernel
theorem d_Md_areApart_262 : decode b_Md_areApart 262 = .ok (.lload 5, 2) := by decide +kernel
theorem d_Md_areApart_264 : decode b_Md_areApart 264 = .ok (.lconst 0, 1) := by decide +kernel
theorem d_Md_areApart_265 : decode b_Md_areApart 265 = .ok (.lcmp, 1) := by decide +kernel
theorem d_Md_areApart_266 : decode b_Md_areApart 266 = .ok (.ifCond .ge 35, 3) := by decide +kernel
theorem d_Md_areApart_269 : decode b_Md_areApart 269 = .ok (.lload 7, 2) := by decide +kernel
theorem d_Md_areApart_271 : decode b_Md_areApart 271 = .ok (.lconst 0, 1) := by decide +kernel
theorem d_Md_areApart_272 : decode b_Md_areApart 272 = .ok (.lcmp, 1) := by decide +kernel
theorem d_Md_areApart_273 : decode b_Md_areApart 273 = .ok (.ifCond .ge 10, 3) := by decide +kernel
theorem d_Md_areApart_276 : decode b_Md_areApart 276 = .ok (.lload 9, 2) := by decide +kernel
theorem d_Md_areApart_278 : decode b_Md_areApart 278 = .ok (.lconst 0, 1) := by decide +kernel
theorem d_Md_areApart_279 : decode b_Md_areApart 279 = .ok (.lcmp, 1) := by decide +kernel
theorem d_Md_areApart_280 : decode b_Md_areApart 280 = .ok (.ifCond .gt 17, 3) := by decide +kernel
theorem d_Md_areApart_283 : decode b_Md_areApart 283 = .ok (.lload 7, 2) := by decide +kernel
theorem d_Md_areApart_285 : decode b_Md_areApart 285 = .ok (.lconst 0, 1) := by decide +kernel
theorem d_Md_areApart_286 : decode b_Md_areApart 286 = .ok (.lcmp, 1) := by decide +kernel
theorem d_Md_areApart_287 : decode b_Md_areApart 287 = .ok (.ifCond .le 14, 3) := by decide +kernel
theorem d_Md_areApart_290 : decode b_Md_areApart 290 = .ok (.lload 9, 2) := by decide +kernel
theorem d_Md_areApart_292 : decode b_Md_areApart 292 = .ok (.lconst 0, 1) := by decide +kernel
theorem d_Md_areApart_293 : decode b_Md_areApart 293 = .ok (.lcmp, 1) := by decide +kernel
theorem d_Md_areApart_294 : decode b_Md_areApart 294 = .ok (.ifCond .ge 7, 3) := by decide +kernel
theorem d_Md_areApart_297 : decode b_Md_areApart 297 = .ok (.iconst 1, 1) := by decide +kernel
theorem d_Md_areApart_298 : decode b_Md_areApart 298 = .ok (.goto 4, 3) := by decide +kernel
theorem d_Md_areApart_301 : decode b_Md_areApart 301 = .ok (.iconst 0, 1) := by decide +kernel
theorem d_Md_areApart_302 : decode b_Md_areApart 302 = .ok (.istore 11, 2) := by decide +kernel
theorem d_Md_areApart_304 : decode b_Md_areApart 304 = .ok (.aload_n 0, 1) := by decide +kernel
theorem d_Md_areApart_305 : decode b_Md_areApart 305 = .ok (.iload_n 2, 1) := by decide +kernel
theorem d_Md_areApart_306 : decode b_Md_areApart 306 = .ok (.aload_n 0, 1) := by decide +kernel
theorem d_Md_areApart_307 : decode b_Md_areApart 307 = .ok (.getfield 13, 3) := by decide +kernel
theorem d_Md_areApart_310 : decode b_Md_areApart 310 = .ok (.iload_n 1, 1) := by decide +kernel
theorem d_Md_areApart_311 : decode b_Md_areApart 311 = .ok (.iaload, 1) := by decide +kernel
theorem d_Md_areApart_312 : decode b_Md_areApart 312 = .ok (.aload_n 0, 1) := by decide +kernel
theorem d_Md_areApart_313 : decode b_Md_areApart 313 = .ok (.getfield 17, 3) := by decide +kernel
theorem d_Md_areApart_316 : decode b_Md_areApart 316 = .ok (.iload_n 1, 1) := by decide +kernel
theorem d_Md_areApart_317 : decode b_Md_areApart 317 = .ok (.iaload, 1) := by decide +kernel
theorem d_Md_areApart_318 : decode b_Md_areApart 318 = .ok (.invokevirtual 37, 3) := by decide +kernel
theorem d_Md_areApart_321 : decode b_Md_areApart 321 = .ok (.ifCond .eq 27, 3) := by decide +kernel
theorem d_Md_areApart_324 : decode b_Md_areApart 324 = .ok (.aload_n 0, 1) := by decide +kernel
theorem d_Md_areApart_325 : decode b_Md_areApart 325 = .ok (.iload_n 2, 1) := by decide +kernel
theorem d_Md_areApart_326 : decode b_Md_areApart 326 = .ok (.aload_n 0, 1) := by decide +kernel
theorem d_Md_areApart_327 : decode b_Md_areApart 327 = .ok (.getfield 20, 3) := by decide +kernel
theorem d_Md_areApart_330 : decode b_Md_areApart 330 = .ok (.iload_n 1, 1) := by decide +kernel
theorem d_Md_areApart_331 : decode b_Md_areApart 331 = .ok (.iaload, 1) := by decide +kernel
theorem d_Md_areApart_332 : decode b_Md_areApart 332 = .ok (.aload_n 0, 1) := by decide +kernel
theorem d_Md_areApart_333 : decode b_Md_areApart 333 = .ok (.getfield 23, 3) := by decide +kernel
theorem d_Md_areApart_336 : decode b_Md_areApart 336 = .ok (.iload_n 1, 1) := by decide +kernel
theorem d_Md_areApart_337 : decode b_Md_areApart 337 = .ok (.iaload, 1) := by decide +kernel
theorem d_Md_areApart_338 : decode b_Md_areApart 338 = .ok (.invokevirtual 37, 3) := by decide +kernel
theorem d_Md_areApart_341 : decode b_Md_areApart 341 = .ok (.ifCond .eq 7, 3) := by decide +kernel
theorem d_Md_areApart_344 : decode b_Md_areApart 344 = .ok (.iconst 1, 1) := by decide +kernel
theorem d_Md_areApart_345 : decode b_Md_areApart 345 = .ok (.goto 4, 3) := by decide +kernel
theorem d_Md_areApart_348 : decode b_Md_areApart 348 = .ok (.iconst 0, 1) := by decide +kernel
theorem d_Md_areApart_349 : decode b_Md_areApart 349 = .ok (.istore 12, 2) := by decide +kernel
theorem d_Md_areApart_351 : decode b_Md_areApart 351 = .ok (.aload_n 0, 1) := by decide +kernel
theorem d_Md_areApart_352 : decode b_Md_areApart 352 = .ok (.iload_n 1, 1) := by decide +kernel
theorem d_Md_areApart_353 : decode b_Md_areApart 353 = .ok (.aload_n 0, 1) := by decide +kernel
theorem d_Md_areApart_354 : decode b_Md_areApart 354 = .ok (.getfield 13, 3) := by decide +kernel
theorem d_Md_areApart_357 : decode b_Md_areApart 357 = .ok (.iload_n 2, 1) := by decide +kernel
theorem d_Md_areApart_358 : decode b_Md_areApart 358 = .ok (.iaload, 1) := by decide +kernel
theorem d_Md_areApart_359 : decode b_Md_areApart 359 = .ok (.aload_n 0, 1) := by decide +kernel
theorem d_Md_areApart_360 : decode b_Md_areApart 360 = .ok (.getfield 17, 3) := by decide +kernel
theorem d_Md_areApart_363 : decode b_Md_areApart 363 = .ok (.iload_n 2, 1) := by decide +kernel
theorem d_Md_areApart_364 : decode b_Md_areApart 364 = .ok (.iaload, 1) := by decide +kernel
theorem d_Md_areApart_365 : decode b_Md_areApart 365 = .ok (.invokevirtual 41, 3) := by decide +kernel
theorem d_Md_areApart_368 : decode b_Md_areApart 368 = .ok (.ifCond .eq 23, 3) := by decide +kernel
theorem d_Md_areApart_371 : decode b_Md_areApart 371 = .ok (.aload_n 0, 1) := by decide +kernel
theorem d_Md_areApart_372 : decode b_Md_areApart 372 = .ok (.iload_n 1, 1) := by decide +kernel
theorem d_Md_areApart_373 : decode b_Md_areApart 373 = .ok (.aload_n 0, 1) := by decide +kernel
theorem d_Md_areApart_374 : decode b_Md_areApart 374 = .ok (.getfield 13, 3) := by decide +kernel
theorem d_Md_areApart_377 : decode b_Md_areApart 377 = .ok (.iload_n 2, 1) := by decide +kernel
theorem d_Md_areApart_378 : decode b_Md_areApart 378 = .ok (.iaload, 1) := by decide +kernel
theorem d_Md_areApart_379 : decode b_Md_areApart 379 = .ok (.aload_n 0, 1) := by decide +kernel
theorem d_Md_areApart_380 : decode b_Md_areApart 380 = .ok (.getfield 17, 3) := by decide +kernel
theorem d_Md_areApart_383 : decode b_Md_areApart 383 = .ok (.iload_n 2, 1) := by decide +kernel
theorem d_Md_areApart_384 : decode b_Md_areApart 384 = .ok (.iaload, 1) := by decide +kernel
theorem d_Md_areApart_385 : decode b_Md_areApart 385 = .ok (.invokevirtual 37, 3) := by decide +kernel
theorem d_Md_areApart_388 : decode b_Md_areApart 388 = .ok (.ifCond .eq 123, 3) := by decide +kernel
theorem d_Md_areApart_391 : decode b_Md_areApart 391 = .ok (.aload_n 0, 1) := by decide +kernel
theorem d_Md_areApart_392 : decode b_Md_areApart 392 = .ok (.iload_n 1, 1) := by decide +kernel
theorem d_Md_areApart_393 : decode b_Md_areApart 393 = .ok (.aload_n 0, 1) := by decide +kernel
theorem d_Md_areApart_394 : decode b_Md_areApart 394 = .ok (.getfield 20, 3) := by decide +kernel
theorem d_Md_areApart_397 : decode b_Md_areApart 397 = .ok (.iload_n 2, 1) := by decide +kernel
theorem d_Md_areApart_398 : decode b_Md_areApart 398 = .ok (.iaload, 1) := by decide +kernel
theorem d_Md_areApart_399 : decode b_Md_areApart 399 = .ok (.aload_n 0, 1) := by decide +kernel
theorem d_Md_areApart_400 : decode b_Md_areApart 400 = .ok (.getfield 23, 3) := by decide +kernel
theorem d_Md_areApart_403 : decode b_Md_areApart 403 = .ok (.iload_n 2, 1) := by decide +kernel
theorem d_Md_areApart_404 : decode b_Md_areApart 404 = .ok (.iaload, 1) := by decide +kernel
theorem d_Md_areApart_405 : decode b_Md_areApart 405 = .ok (.invokevirtual 41, 3) := by decide +kernel
theorem d_Md_areApart_408 : decode b_Md_areApart 408 = .ok (.ifCond .eq 23, 3) := by decide +kernel
theorem d_Md_areApart_411 : decode b_Md_areApart 411 = .ok (.aload_n 0, 1) := by decide +kernel
theorem d_Md_areApart_412 : decode b_Md_areApart 412 = .ok (.iload_n 1, 1) := by decide +kernel
theorem d_Md_areApart_413 : decode b_Md_areApart 413 = .ok (.aload_n 0, 1) := by decide +kernel
theorem d_Md_areApart_414 : decode b_Md_areApart 414 = .ok (.getfield 20, 3) := by decide +kernel
theorem d_Md_areApart_417 : decode b_Md_areApart 417 = .ok (.iload_n 2, 1) := by decide +kernel
theorem d_Md_areApart_418 : decode b_Md_areApart 418 = .ok (.iaload, 1) := by decide +kernel
theorem d_Md_areApart_419 : decode b_Md_areApart 419 = .ok (.aload_n 0, 1) := by decide +kernel
theorem d_Md_areApart_420 : decode b_Md_areApart 420 = .ok (.getfield 23, 3) := by decide +kernel
theorem d_Md_areApart_423 : decode b_Md_areApart 423 = .ok (.iload_n 2, 1) := by decide +kernel
theorem d_Md_areApart_424 : decode b_Md_areApart 424 = .ok (.iaload, 1) := by decide +kernel
theorem d_Md_areApart_425 : decode b_Md_areApart 425 = .ok (.invokevirtual 37, 3) := by decide +kernel
theorem d_Md_areApart_428 : decode b_Md_areApart 428 = .ok (.ifCond .eq 83, 3) := by decide +kernel
theorem d_Md_areApart_431 : decode b_Md_areApart 431 = .ok (.aload_n 0, 1) := by decide +kernel
theorem d_Md_areApart_432 : decode b_Md_areApart 432 = .ok (.iload_n 2, 1) := by decide +kernel
theorem d_Md_areApart_433 : decode b_Md_areApart 433 = .ok (.aload_n 0, 1) := by decide +kernel
theorem d_Md_areApart_434 : decode b_Md_areApart 434 = .ok (.getfield 13, 3) := by decide +kernel
theorem d_Md_areApart_437 : decode b_Md_areApart 437 = .ok (.iload_n 1, 1) := by decide +kernel
theorem d_Md_areApart_438 : decode b_Md_areApart 438 = .ok (.iaload, 1) := by decide +kernel
theorem d_Md_areApart_439 : decode b_Md_areApart 439 = .ok (.aload_n 0, 1) := by decide +kernel
theorem d_Md_areApart_440 : decode b_Md_areApart 440 = .ok (.getfield 17, 3) := by decide +kernel
theorem d_Md_areApart_443 : decode b_Md_areApart 443 = .ok (.iload_n 1, 1) := by decide +kernel
theorem d_Md_areApart_444 : decode b_Md_areApart 444 = .ok (.iaload, 1) := by decide +kernel
theorem d_Md_areApart_445 : decode b_Md_areApart 445 = .ok (.invokevirtual 41, 3) := by decide +kernel
theorem d_Md_areApart_448 : decode b_Md_areApart 448 = .ok (.ifCond .eq 23, 3) := by decide +kernel
theorem d_Md_areApart_451 : decode b_Md_areApart 451 = .ok (.aload_n 0, 1) := by decide +kernel
theorem d_Md_areApart_452 : decode b_Md_areApart 452 = .ok (.iload_n 2, 1) := by decide +kernel
theorem d_Md_areApart_453 : decode b_Md_areApart 453 = .ok (.aload_n 0, 1) := by decide +kernel
theorem d_Md_areApart_454 : decode b_Md_areApart 454 = .ok (.getfield 13, 3) := by decide +kernel
theorem d_Md_areApart_457 : decode b_Md_areApart 457 = .ok (.iload_n 1, 1) := by decide +kernel
theorem d_Md_areApart_458 : decode b_Md_areApart 458 = .ok (.iaload, 1) := by decide +kernel
theorem d_Md_areApart_459 : decode b_Md_areApart 459 = .ok (.aload_n 0, 1) := by decide +kernel
theorem d_Md_areApart_460 : decode b_Md_areApart 460 = .ok (.getfield 17, 3) := by decide +kernel
theorem d_Md_areApart_463 : decode b_Md_areApart 463 = .ok (.iload_n 1, 1) := by decide +kernel
theorem d_Md_areApart_464 : decode b_Md_areApart 464 = .ok (.iaload, 1) := by decide +kernel
theorem d_Md_areApart_465 : decode b_Md_areApart 465 = .ok (.invokevirtual 37, 3) := by decide +kernel
theorem d_Md_areApart_468 : decode b_Md_areApart 468 = .ok (.ifCond .eq 43, 3) := by decide +kernel
theorem d_Md_areApart_471 : decode b_Md_areApart 471 = .ok (.aload_n 0, 1) := by decide +kernel
theorem d_Md_areApart_472 : decode b_Md_areApart 472 = .ok (.iload_n 2, 1) := by decide +kernel
theorem d_Md_areApart_473 : decode b_Md_areApart 473 = .ok (.aload_n 0, 1) := by decide +kernel
theorem d_Md_areApart_474 : decode b_Md_areApart 474 = .ok (.getfield 20, 3) := by decide +kernel
theorem d_Md_areApart_477 : decode b_Md_areApart 477 = .ok (.iload_n 1, 1) := by decide +kernel
theorem d_Md_areApart_478 : decode b_Md_areApart 478 = .ok (.iaload, 1) := by decide +kernel
theorem d_Md_areApart_479 : decode b_Md_areApart 479 = .ok (.aload_n 0, 1) := by decide +kernel
theorem d_Md_areApart_480 : decode b_Md_areApart 480 = .ok (.getfield 23, 3) := by decide +kernel
theorem d_Md_areApart_483 : decode b_Md_areApart 483 = .ok (.iload_n 1, 1) := by decide +kernel
theorem d_Md_areApart_484 : decode b_Md_areApart 484 = .ok (.iaload, 1) := by decide +kernel
theorem d_Md_areApart_485 : decode b_Md_areApart 485 = .ok (.invokevirtual 41, 3) := by decide +kernel
theorem d_Md_areApart_488 : decode b_Md_areApart 488 = .ok (.ifCond .eq 27, 3) := by decide +kernel
theorem d_Md_areApart_491 : decode b_Md_areApart 491 = .ok (.aload_n 0, 1) := by decide +kernel
theorem d_Md_areApart_492 : decode b_Md_areApart 492 = .ok (.iload_n 2, 1) := by decide +kernel
theorem d_Md_areApart_493 : decode b_Md_areApart 493 = .ok (.aload_n 0, 1) := by decide +kernel
theorem d_Md_areApart_494 : decode b_Md_areApart 494 = .ok (.getfield 20, 3) := by decide +kernel
theorem d_Md_areApart_497 : decode b_Md_areApart 497 = .ok (.iload_n 1, 1) := by decide +kernel
theorem d_Md_areApart_498 : decode b_Md_areApart 498 = .ok (.iaload, 1) := by decide +kernel
theorem d_Md_areApart_499 : decode b_Md_areApart 499 = .ok (.aload_n 0, 1) := by decide +kernel
theorem d_Md_areApart_500 : decode b_Md_areApart 500 = .ok (.getfield 23, 3) := by decide +kernel
theorem d_Md_areApart_503 : decode b_Md_areApart 503 = .ok (.iload_n 1, 1) := by decide +kernel
theorem d_Md_areApart_504 : decode b_Md_areApart 504 = .ok (.iaload, 1) := by decide +kernel
theorem d_Md_areApart_505 : decode b_Md_areApart 505 = .ok (.invokevirtual 37, 3) := by decide +kernel
theorem d_Md_areApart_508 : decode b_Md_areApart 508 = .ok (.ifCond .ne 7, 3) := by decide +kernel
theorem d_Md_areApart_511 : decode b_Md_areApart 511 = .ok (.iconst 1, 1) := by decide +kernel
theorem d_Md_areApart_512 : decode b_Md_areApart 512 = .ok (.goto 4, 3) := by decide +kernel
theorem d_Md_areApart_515 : decode b_Md_areApart 515 = .ok (.iconst 0, 1) := by decide +kernel
theorem d_Md_areApart_516 : decode b_Md_areApart 516 = .ok (.istore 13, 2) := by decide +kernel
theorem d_Md_areApart_518 : decode b_Md_areApart 518 = .ok (.iload 11, 2) := by decide +kernel
theorem d_Md_areApart_520 : decode b_Md_areApart 520 = .ok (.ifCond .ne 17, 3) := by decide +kernel
theorem d_Md_areApart_523 : decode b_Md_areApart 523 = .ok (.iload 12, 2) := by decide +kernel
theorem d_Md_areApart_525 : decode b_Md_areApart 525 = .ok (.ifCond .ne 12, 3) := by decide +kernel
theorem d_Md_areApart_528 : decode b_Md_areApart 528 = .ok (.iload 13, 2) := by decide +kernel
theorem d_Md_areApart_530 : decode b_Md_areApart 530 = .ok (.ifCond .ne 7, 3) := by decide +kernel
theorem d_Md_areApart_533 : decode b_Md_areApart 533 = .ok (.iconst 1, 1) := by decide +kernel
theorem d_Md_areApart_534 : decode b_Md_areApart 534 = .ok (.goto 4, 3) := by decide +kernel
theorem d_Md_areApart_537 : decode b_Md_areApart 537 = .ok (.iconst 0, 1) := by decide +kernel
theorem d_Md_areApart_538 : decode b_Md_areApart 538 = .ok (.ireturn, 1) := by decide +kernel
theorem d_Md_isWall_0 : decode b_Md_isWall 0 = .ok (.iload_n 1, 1) := by decide +kernel
theorem d_Md_isWall_1 : decode b_Md_isWall 1 = .ok (.ifCond .lt 22, 3) := by decide +kernel
theorem d_Md_isWall_4 : decode b_Md_isWall 4 = .ok (.iload_n 1, 1) := by decide +kernel
theorem d_Md_isWall_5 : decode b_Md_isWall 5 = .ok (.bipush 64, 2) := by decide +kernel
theorem d_Md_isWall_7 : decode b_Md_isWall 7 = .ok (.if_icmp .ge 16, 3) := by decide +kernel
theorem d_Md_isWall_10 : decode b_Md_isWall 10 = .ok (.aload_n 0, 1) := by decide +kernel
theorem d_Md_isWall_11 : decode b_Md_isWall 11 = .ok (.getfield 7, 3) := by decide +kernel
theorem d_Md_isWall_14 : decode b_Md_isWall 14 = .ok (.iload_n 1, 1) := by decide +kernel
theorem d_Md_isWall_15 : decode b_Md_isWall 15 = .ok (.baload, 1) := by decide +kernel
theorem d_Md_isWall_16 : decode b_Md_isWall 16 = .ok (.ifCond .eq 7, 3) := by decide +kernel
theorem d_Md_isWall_19 : decode b_Md_isWall 19 = .ok (.iconst 1, 1) := by decide +kernel
theorem d_Md_isWall_20 : decode b_Md_isWall 20 = .ok (.goto 4, 3) := by decide +kernel
theorem d_Md_isWall_23 : decode b_Md_isWall 23 = .ok (.iconst 0, 1) := by decide +kernel
theorem d_Md_isWall_24 : decode b_Md_isWall 24 = .ok (.ireturn, 1) := by decide +kernel
theorem d_Md_down_0 : decode b_Md_down 0 = .ok (.lload_n 0, 1) := by decide +kernel
theorem d_Md_down_1 : decode b_Md_down 1 = .ok (.lload_n 2, 1) := by decide +kernel
theorem d_Md_down_2 : decode b_Md_down 2 = .ok (.ldiv, 1) := by decide +kernel
theorem d_Md_down_3 : decode b_Md_down 3 = .ok (.lstore 4, 2) := by decide +kernel
theorem d_Md_down_5 : decode b_Md_down 5 = .ok (.lload_n 0, 1) := by decide +kernel
theorem d_Md_down_6 : decode b_Md_down 6 = .ok (.lload_n 2, 1) := by decide +kernel
theorem d_Md_down_7 : decode b_Md_down 7 = .ok (.lrem, 1) := by decide +kernel
theorem d_Md_down_8 : decode b_Md_down 8 = .ok (.lconst 0, 1) := by decide +kernel
theorem d_Md_down_9 : decode b_Md_down 9 = .ok (.lcmp, 1) := by decide +kernel
theorem d_Md_down_10 : decode b_Md_down 10 = .ok (.ifCond .eq 35, 3) := by decide +kernel
theorem d_Md_down_13 : decode b_Md_down 13 = .ok (.lload_n 0, 1) := by decide +kernel
theorem d_Md_down_14 : decode b_Md_down 14 = .ok (.lconst 0, 1) := by decide +kernel
theorem d_Md_down_15 : decode b_Md_down 15 = .ok (.lcmp, 1) := by decide +kernel
theorem d_Md_down_16 : decode b_Md_down 16 = .ok (.ifCond .ge 7, 3) := by decide +kernel
theorem d_Md_down_19 : decode b_Md_down 19 = .ok (.iconst 1, 1) := by decide +kernel
theorem d_Md_down_20 : decode b_Md_down 20 = .ok (.goto 4, 3) := by decide +kernel
theorem d_Md_down_23 : decode b_Md_down 23 = .ok (.iconst 0, 1) := by decide +kernel
theorem d_Md_down_24 : decode b_Md_down 24 = .ok (.lload_n 2, 1) := by decide +kernel
theorem d_Md_down_25 : decode b_Md_down 25 = .ok (.lconst 0, 1) := by decide +kernel
theorem d_Md_down_26 : decode b_Md_down 26 = .ok (.lcmp, 1) := by decide +kernel
theorem d_Md_down_27 : decode b_Md_down 27 = .ok (.ifCond .ge 7, 3) := by decide +kernel
theorem d_Md_down_30 : decode b_Md_down 30 = .ok (.iconst 1, 1) := by decide +kernel
theorem d_Md_down_31 : decode b_Md_down 31 = .ok (.goto 4, 3) := by decide +kernel
theorem d_Md_down_34 : decode b_Md_down 34 = .ok (.iconst 0, 1) := by decide +kernel
theorem d_Md_down_35 : decode b_Md_down 35 = .ok (.if_icmp .eq 10, 3) := by decide +kernel
theorem d_Md_down_38 : decode b_Md_down 38 = .ok (.lload 4, 2) := by decide +kernel
theorem d_Md_down_40 : decode b_Md_down 40 = .ok (.lconst 1, 1) := by decide +kernel
theorem d_Md_down_41 : decode b_Md_down 41 = .ok (.lsub, 1) := by decide +kernel
theorem d_Md_down_42 : decode b_Md_down 42 = .ok (.goto 5, 3) := by decide +kernel
theorem d_Md_down_45 : decode b_Md_down 45 = .ok (.lload 4, 2) := by decide +kernel
theorem d_Md_down_47 : decode b_Md_down 47 = .ok (.lreturn, 1) := by decide +kernel
