theorem dX5_findCells_34 : decode cX5_findCells 34 = .ok (.if_icmp .ge 148, 3) := by decide +kernel
theorem dX5_findCells_37 : decode cX5_findCells 37 = .ok (.bipush 16, 2) := by decide +kernel
theorem dX5_findCells_39 : decode cX5_findCells 39 = .ok (.iload_n 1, 1) := by decide +kernel
theorem dX5_findCells_40 : decode cX5_findCells 40 = .ok (.imul, 1) := by decide +kernel
theorem dX5_findCells_41 : decode cX5_findCells 41 = .ok (.iload_n 2, 1) := by decide +kernel
theorem dX5_findCells_42 : decode cX5_findCells 42 = .ok (.iadd, 1) := by decide +kernel
theorem dX5_findCells_43 : decode cX5_findCells 43 = .ok (.istore_n 3, 1) := by decide +kernel
theorem dX5_findCells_44 : decode cX5_findCells 44 = .ok (.aload_n 0, 1) := by decide +kernel
theorem dX5_findCells_45 : decode cX5_findCells 45 = .ok (.getfield 61, 3) := by decide +kernel
theorem dX5_findCells_48 : decode cX5_findCells 48 = .ok (.iload_n 3, 1) := by decide +kernel
theorem dX5_findCells_49 : decode cX5_findCells 49 = .ok (.iconst (-1), 1) := by decide +kernel
theorem dX5_findCells_50 : decode cX5_findCells 50 = .ok (.iastore, 1) := by decide +kernel
theorem dX5_findCells_51 : decode cX5_findCells 51 = .ok (.iconst 0, 1) := by decide +kernel
theorem dX5_findCells_52 : decode cX5_findCells 52 = .ok (.istore 4, 2) := by decide +kernel
theorem dX5_findCells_54 : decode cX5_findCells 54 = .ok (.iload 4, 2) := by decide +kernel
theorem dX5_findCells_56 : decode cX5_findCells 56 = .ok (.aload_n 0, 1) := by decide +kernel
theorem dX5_findCells_57 : decode cX5_findCells 57 = .ok (.getfield 22, 3) := by decide +kernel
theorem dX5_findCells_60 : decode cX5_findCells 60 = .ok (.iconst 0, 1) := by decide +kernel
theorem dX5_findCells_61 : decode cX5_findCells 61 = .ok (.iaload, 1) := by decide +kernel
theorem dX5_findCells_62 : decode cX5_findCells 62 = .ok (.if_icmp .ge 47, 3) := by decide +kernel
theorem dX5_findCells_65 : decode cX5_findCells 65 = .ok (.aload_n 0, 1) := by decide +kernel
theorem dX5_findCells_66 : decode cX5_findCells 66 = .ok (.getfield 61, 3) := by decide +kernel
theorem dX5_findCells_69 : decode cX5_findCells 69 = .ok (.iload_n 3, 1) := by decide +kernel
theorem dX5_findCells_70 : decode cX5_findCells 70 = .ok (.aload_n 0, 1) := by decide +kernel
theorem dX5_findCells_71 : decode cX5_findCells 71 = .ok (.aload_n 0, 1) := by decide +kernel
theorem dX5_findCells_72 : decode cX5_findCells 72 = .ok (.getfield 25, 3) := by decide +kernel
theorem dX5_findCells_75 : decode cX5_findCells 75 = .ok (.iload 4, 2) := by decide +kernel
theorem dX5_findCells_77 : decode cX5_findCells 77 = .ok (.iaload, 1) := by decide +kernel
theorem dX5_findCells_78 : decode cX5_findCells 78 = .ok (.iload_n 1, 1) := by decide +kernel
theorem dX5_findCells_79 : decode cX5_findCells 79 = .ok (.iload_n 2, 1) := by decide +kernel
theorem dX5_findCells_80 : decode cX5_findCells 80 = .ok (.invokevirtual 104, 3) := by decide +kernel
theorem dX5_findCells_83 : decode cX5_findCells 83 = .ok (.ifCond .eq 13, 3) := by decide +kernel
theorem dX5_findCells_86 : decode cX5_findCells 86 = .ok (.aload_n 0, 1) := by decide +kernel
theorem dX5_findCells_87 : decode cX5_findCells 87 = .ok (.getfield 25, 3) := by decide +kernel
theorem dX5_findCells_90 : decode cX5_findCells 90 = .ok (.iload 4, 2) := by decide +kernel
theorem dX5_findCells_92 : decode cX5_findCells 92 = .ok (.iaload, 1) := by decide +kernel
theorem dX5_findCells_93 : decode cX5_findCells 93 = .ok (.goto 9, 3) := by decide +kernel
theorem dX5_findCells_96 : decode cX5_findCells 96 = .ok (.aload_n 0, 1) := by decide +kernel
theorem dX5_findCells_97 : decode cX5_findCells 97 = .ok (.getfield 61, 3) := by decide +kernel
theorem dX5_findCells_100 : decode cX5_findCells 100 = .ok (.iload_n 3, 1) := by decide +kernel
theorem dX5_findCells_101 : decode cX5_findCells 101 = .ok (.iaload, 1) := by decide +kernel
theorem dX5_findCells_102 : decode cX5_findCells 102 = .ok (.iastore, 1) := by decide +kernel
theorem dX5_findCells_103 : decode cX5_findCells 103 = .ok (.iinc 4 1, 3) := by decide +kernel
theorem dX5_findCells_106 : decode cX5_findCells 106 = .ok (.goto (-52), 3) := by decide +kernel
theorem dX5_findCells_109 : decode cX5_findCells 109 = .ok (.aload_n 0, 1) := by decide +kernel
theorem dX5_findCells_110 : decode cX5_findCells 110 = .ok (.getfield 64, 3) := by decide +kernel
theorem dX5_findCells_113 : decode cX5_findCells 113 = .ok (.iload_n 3, 1) := by decide +kernel
theorem dX5_findCells_114 : decode cX5_findCells 114 = .ok (.aload_n 0, 1) := by decide +kernel
theorem dX5_findCells_115 : decode cX5_findCells 115 = .ok (.getfield 61, 3) := by decide +kernel
theorem dX5_findCells_118 : decode cX5_findCells 118 = .ok (.iload_n 3, 1) := by decide +kernel
theorem dX5_findCells_119 : decode cX5_findCells 119 = .ok (.iaload, 1) := by decide +kernel
theorem dX5_findCells_120 : decode cX5_findCells 120 = .ok (.iconst (-1), 1) := by decide +kernel
theorem dX5_findCells_121 : decode cX5_findCells 121 = .ok (.if_icmp .ne 7, 3) := by decide +kernel
theorem dX5_findCells_124 : decode cX5_findCells 124 = .ok (.iconst 0, 1) := by decide +kernel
theorem dX5_findCells_125 : decode cX5_findCells 125 = .ok (.goto 14, 3) := by decide +kernel
theorem dX5_findCells_128 : decode cX5_findCells 128 = .ok (.aload_n 0, 1) := by decide +kernel
theorem dX5_findCells_129 : decode cX5_findCells 129 = .ok (.getfield 43, 3) := by decide +kernel
theorem dX5_findCells_132 : decode cX5_findCells 132 = .ok (.aload_n 0, 1) := by decide +kernel
theorem dX5_findCells_133 : decode cX5_findCells 133 = .ok (.getfield 61, 3) := by decide +kernel
theorem dX5_findCells_136 : decode cX5_findCells 136 = .ok (.iload_n 3, 1) := by decide +kernel
theorem dX5_findCells_137 : decode cX5_findCells 137 = .ok (.iaload, 1) := by decide +kernel
theorem dX5_findCells_138 : decode cX5_findCells 138 = .ok (.iaload, 1) := by decide +kernel
theorem dX5_findCells_139 : decode cX5_findCells 139 = .ok (.iastore, 1) := by decide +kernel
theorem dX5_findCells_140 : decode cX5_findCells 140 = .ok (.aload_n 0, 1) := by decide +kernel
theorem dX5_findCells_141 : decode cX5_findCells 141 = .ok (.getfield 67, 3) := by decide +kernel
theorem dX5_findCells_144 : decode cX5_findCells 144 = .ok (.iload_n 3, 1) := by decide +kernel
theorem dX5_findCells_145 : decode cX5_findCells 145 = .ok (.aload_n 0, 1) := by decide +kernel
theorem dX5_findCells_146 : decode cX5_findCells 146 = .ok (.getfield 61, 3) := by decide +kernel
theorem dX5_findCells_149 : decode cX5_findCells 149 = .ok (.iload_n 3, 1) := by decide +kernel
theorem dX5_findCells_150 : decode cX5_findCells 150 = .ok (.iaload, 1) := by decide +kernel
theorem dX5_findCells_151 : decode cX5_findCells 151 = .ok (.iconst (-1), 1) := by decide +kernel
theorem dX5_findCells_152 : decode cX5_findCells 152 = .ok (.if_icmp .eq 22, 3) := by decide +kernel
theorem dX5_findCells_155 : decode cX5_findCells 155 = .ok (.aload_n 0, 1) := by decide +kernel
theorem dX5_findCells_156 : decode cX5_findCells 156 = .ok (.getfield 46, 3) := by decide +kernel
theorem dX5_findCells_159 : decode cX5_findCells 159 = .ok (.aload_n 0, 1) := by decide +kernel
theorem dX5_findCells_160 : decode cX5_findCells 160 = .ok (.getfield 61, 3) := by decide +kernel
theorem dX5_findCells_163 : decode cX5_findCells 163 = .ok (.iload_n 3, 1) := by decide +kernel
theorem dX5_findCells_164 : decode cX5_findCells 164 = .ok (.iaload, 1) := by decide +kernel
theorem dX5_findCells_165 : decode cX5_findCells 165 = .ok (.iaload, 1) := by decide +kernel
theorem dX5_findCells_166 : decode cX5_findCells 166 = .ok (.iconst 1, 1) := by decide +kernel
theorem dX5_findCells_167 : decode cX5_findCells 167 = .ok (.if_icmp .ne 7, 3) := by decide +kernel
theorem dX5_findCells_170 : decode cX5_findCells 170 = .ok (.iconst 1, 1) := by decide +kernel
theorem dX5_findCells_171 : decode cX5_findCells 171 = .ok (.goto 4, 3) := by decide +kernel
theorem dX5_findCells_174 : decode cX5_findCells 174 = .ok (.iconst 0, 1) := by decide +kernel
theorem dX5_findCells_175 : decode cX5_findCells 175 = .ok (.bastore, 1) := by decide +kernel
theorem dX5_findCells_176 : decode cX5_findCells 176 = .ok (.iinc 2 1, 3) := by decide +kernel
theorem dX5_findCells_179 : decode cX5_findCells 179 = .ok (.goto (-152), 3) := by decide +kernel
theorem dX5_findCells_182 : decode cX5_findCells 182 = .ok (.iinc 1 1, 3) := by decide +kernel
theorem dX5_findCells_185 : decode cX5_findCells 185 = .ok (.goto (-170), 3) := by decide +kernel
theorem dX5_findCells_188 : decode cX5_findCells 188 = .ok (.iconst 0, 1) := by decide +kernel
theorem dX5_findCells_189 : decode cX5_findCells 189 = .ok (.istore_n 1, 1) := by decide +kernel
theorem dX5_findCells_190 : decode cX5_findCells 190 = .ok (.iload_n 1, 1) := by decide +kernel
theorem dX5_findCells_191 : decode cX5_findCells 191 = .ok (.aload_n 0, 1) := by decide +kernel
theorem dX5_findCells_192 : decode cX5_findCells 192 = .ok (.getfield 7, 3) := by decide +kernel
theorem dX5_findCells_195 : decode cX5_findCells 195 = .ok (.iconst 0, 1) := by decide +kernel
theorem dX5_findCells_196 : decode cX5_findCells 196 = .ok (.iaload, 1) := by decide +kernel
theorem dX5_findCells_197 : decode cX5_findCells 197 = .ok (.if_icmp .ge 44, 3) := by decide +kernel
theorem dX5_findCells_200 : decode cX5_findCells 200 = .ok (.iconst 0, 1) := by decide +kernel
theorem dX5_findCells_201 : decode cX5_findCells 201 = .ok (.istore_n 2, 1) := by decide +kernel
theorem dX5_findCells_202 : decode cX5_findCells 202 = .ok (.iload_n 2, 1) := by decide +kernel
theorem dX5_findCells_203 : decode cX5_findCells 203 = .ok (.aload_n 0, 1) := by decide +kernel
theorem dX5_findCells_204 : decode cX5_findCells 204 = .ok (.getfield 13, 3) := by decide +kernel
theorem dX5_findCells_207 : decode cX5_findCells 207 = .ok (.iconst 0, 1) := by decide +kernel
theorem dX5_findCells_208 : decode cX5_findCells 208 = .ok (.iaload, 1) := by decide +kernel
theorem dX5_findCells_209 : decode cX5_findCells 209 = .ok (.if_icmp .ge 26, 3) := by decide +kernel
theorem dX5_findCells_212 : decode cX5_findCells 212 = .ok (.aload_n 0, 1) := by decide +kernel
theorem dX5_findCells_213 : decode cX5_findCells 213 = .ok (.getfield 71, 3) := by decide +kernel
theorem dX5_findCells_216 : decode cX5_findCells 216 = .ok (.bipush 16, 2) := by decide +kernel
theorem dX5_findCells_218 : decode cX5_findCells 218 = .ok (.iload_n 1, 1) := by decide +kernel
theorem dX5_findCells_219 : decode cX5_findCells 219 = .ok (.imul, 1) := by decide +kernel
theorem dX5_findCells_220 : decode cX5_findCells 220 = .ok (.iload_n 2, 1) := by decide +kernel
theorem dX5_findCells_221 : decode cX5_findCells 221 = .ok (.iadd, 1) := by decide +kernel
theorem dX5_findCells_222 : decode cX5_findCells 222 = .ok (.aload_n 0, 1) := by decide +kernel
theorem dX5_findCells_223 : decode cX5_findCells 223 = .ok (.iload_n 1, 1) := by decide +kernel
theorem dX5_findCells_224 : decode cX5_findCells 224 = .ok (.iload_n 2, 1) := by decide +kernel
theorem dX5_findCells_225 : decode cX5_findCells 225 = .ok (.invokevirtual 107, 3) := by decide +kernel
theorem dX5_findCells_228 : decode cX5_findCells 228 = .ok (.iastore, 1) := by decide +kernel
theorem dX5_findCells_229 : decode cX5_findCells 229 = .ok (.iinc 2 1, 3) := by decide +kernel
theorem dX5_findCells_232 : decode cX5_findCells 232 = .ok (.goto (-30), 3) := by decide +kernel
theorem dX5_findCells_235 : decode cX5_findCells 235 = .ok (.iinc 1 1, 3) := by decide +kernel
theorem dX5_findCells_238 : decode cX5_findCells 238 = .ok (.goto (-48), 3) := by decide +kernel
theorem dX5_findCells_241 : decode cX5_findCells 241 = .ok (.return_, 1) := by decide +kernel
set_option maxRecDepth 20000 in
theorem ggX5_platesOf_X5_isCell : GoodIn wsX5_platesOf wsX5_isCell := goodIn_r _ [8, 9, 10, 11, 12, 7, 13, 23, 24, 25, 26, 27, 28, 29, 30, 31, 32, 33, 34, 35, 36, 37, 38, 39, 40, 41, 42, 43, 44, 45, 46] (by decide +kernel) (by decide +kernel)
set_option maxRecDepth 20000 in
theorem gX5_platesOf_X5_isCell : GoodIn wsX5_platesOf (wsV RX5 111 RX5 yX5_isCell wsX5_isCell) := goodIn_app (goodIn_of _ (by decide +kernel)) ggX5_platesOf_X5_isCell
set_option maxRecDepth 20000 in
theorem ggX5_platesOf_X5_isLighter : GoodIn wsX5_platesOf wsX5_isLighter := goodIn_r _ [17, 18, 19, 20, 7, 21, 22, 23, 24, 25, 26, 27, 28, 29, 30, 31, 32, 33, 34, 35, 36, 37, 38, 39, 40, 41, 42, 43, 44, 45, 46] (by decide +kernel) (by decide +kernel)
set_option maxRecDepth 20000 in
theorem gX5_platesOf_X5_isLighter : GoodIn wsX5_platesOf (wsV RX5 114 RX5 yX5_isLighter wsX5_isLighter) := goodIn_app (goodIn_of _ (by decide +kernel)) ggX5_platesOf_X5_isLighter
theorem dX5_platesOf_0 : decode cX5_platesOf 0 = .ok (.bipush 16, 2) := by decide +kernel
theorem dX5_platesOf_2 : decode cX5_platesOf 2 = .ok (.iload_n 1, 1) := by decide +kernel
theorem dX5_platesOf_3 : decode cX5_platesOf 3 = .ok (.imul, 1) := by decide +kernel
theorem dX5_platesOf_4 : decode cX5_platesOf 4 = .ok (.iload_n 2, 1) := by decide +kernel
theorem dX5_platesOf_5 : decode cX5_platesOf 5 = .ok (.iadd, 1) := by decide +kernel
theorem dX5_platesOf_6 : decode cX5_platesOf 6 = .ok (.istore_n 3, 1) := by decide +kernel
theorem dX5_platesOf_7 : decode cX5_platesOf 7 = .ok (.aload_n 0, 1) := by decide +kernel
theorem dX5_platesOf_8 : decode cX5_platesOf 8 = .ok (.getfield 64, 3) := by decide +kernel
theorem dX5_platesOf_11 : decode cX5_platesOf 11 = .ok (.iload_n 3, 1) := by decide +kernel
theorem dX5_platesOf_12 : decode cX5_platesOf 12 = .ok (.iaload, 1) := by decide +kernel
theorem dX5_platesOf_13 : decode cX5_platesOf 13 = .ok (.istore 4, 2) := by decide +kernel
theorem dX5_platesOf_15 : decode cX5_platesOf 15 = .ok (.aload_n 0, 1) := by decide +kernel
theorem dX5_platesOf_16 : decode cX5_platesOf 16 = .ok (.getfield 49, 3) := by decide +kernel
theorem dX5_platesOf_19 : decode cX5_platesOf 19 = .ok (.iconst 0, 1) := by decide +kernel
theorem dX5_platesOf_20 : decode cX5_platesOf 20 = .ok (.iaload, 1) := by decide +kernel
theorem dX5_platesOf_21 : decode cX5_platesOf 21 = .ok (.istore 5, 2) := by decide +kernel
theorem dX5_platesOf_23 : decode cX5_platesOf 23 = .ok (.iload 4, 2) := by decide +kernel
theorem dX5_platesOf_25 : decode cX5_platesOf 25 = .ok (.ifCond .eq 12, 3) := by decide +kernel
theorem dX5_platesOf_28 : decode cX5_platesOf 28 = .ok (.aload_n 0, 1) := by decide +kernel
theorem dX5_platesOf_29 : decode cX5_platesOf 29 = .ok (.getfield 67, 3) := by decide +kernel
theorem dX5_platesOf_32 : decode cX5_platesOf 32 = .ok (.iload_n 3, 1) := by decide +kernel
theorem dX5_platesOf_33 : decode cX5_platesOf 33 = .ok (.baload, 1) := by decide +kernel
theorem dX5_platesOf_34 : decode cX5_platesOf 34 = .ok (.ifCond .eq 6, 3) := by decide +kernel
theorem dX5_platesOf_37 : decode cX5_platesOf 37 = .ok (.iload 4, 2) := by decide +kernel
theorem dX5_platesOf_39 : decode cX5_platesOf 39 = .ok (.ireturn, 1) := by decide +kernel
theorem dX5_platesOf_40 : decode cX5_platesOf 40 = .ok (.iload_n 1, 1) := by decide +kernel
theorem dX5_platesOf_41 : decode cX5_platesOf 41 = .ok (.iload 5, 2) := by decide +kernel
theorem dX5_platesOf_43 : decode cX5_platesOf 43 = .ok (.isub, 1) := by decide +kernel
theorem dX5_platesOf_44 : decode cX5_platesOf 44 = .ok (.istore 6, 2) := by decide +kernel
theorem dX5_platesOf_46 : decode cX5_platesOf 46 = .ok (.iload 6, 2) := by decide +kernel
theorem dX5_platesOf_48 : decode cX5_platesOf 48 = .ok (.iload_n 1, 1) := by decide +kernel
theorem dX5_platesOf_49 : decode cX5_platesOf 49 = .ok (.iload 5, 2) := by decide +kernel
theorem dX5_platesOf_51 : decode cX5_platesOf 51 = .ok (.iadd, 1) := by decide +kernel
theorem dX5_platesOf_52 : decode cX5_platesOf 52 = .ok (.if_icmp .gt 93, 3) := by decide +kernel
theorem dX5_platesOf_55 : decode cX5_platesOf 55 = .ok (.iload_n 2, 1) := by decide +kernel
theorem dX5_platesOf_56 : decode cX5_platesOf 56 = .ok (.iload 5, 2) := by decide +kernel
theorem dX5_platesOf_58 : decode cX5_platesOf 58 = .ok (.isub, 1) := by decide +kernel
theorem dX5_platesOf_59 : decode cX5_platesOf 59 = .ok (.istore 7, 2) := by decide +kernel
theorem dX5_platesOf_61 : decode cX5_platesOf 61 = .ok (.iload 7, 2) := by decide +kernel
theorem dX5_platesOf_63 : decode cX5_platesOf 63 = .ok (.iload_n 2, 1) := by decide +kernel
theorem dX5_platesOf_64 : decode cX5_platesOf 64 = .ok (.iload 5, 2) := by decide +kernel
theorem dX5_platesOf_66 : decode cX5_platesOf 66 = .ok (.iadd, 1) := by decide +kernel
theorem dX5_platesOf_67 : decode cX5_platesOf 67 = .ok (.if_icmp .gt 72, 3) := by decide +kernel
theorem dX5_platesOf_70 : decode cX5_platesOf 70 = .ok (.bipush 16, 2) := by decide +kernel
theorem dX5_platesOf_72 : decode cX5_platesOf 72 = .ok (.iload 6, 2) := by decide +kernel
theorem dX5_platesOf_74 : decode cX5_platesOf 74 = .ok (.imul, 1) := by decide +kernel
theorem dX5_platesOf_75 : decode cX5_platesOf 75 = .ok (.iload 7, 2) := by decide +kernel
theorem dX5_platesOf_77 : decode cX5_platesOf 77 = .ok (.iadd, 1) := by decide +kernel
theorem dX5_platesOf_78 : decode cX5_platesOf 78 = .ok (.istore 8, 2) := by decide +kernel
theorem dX5_platesOf_80 : decode cX5_platesOf 80 = .ok (.aload_n 0, 1) := by decide +kernel
theorem dX5_platesOf_81 : decode cX5_platesOf 81 = .ok (.iload 6, 2) := by decide +kernel
theorem dX5_platesOf_83 : decode cX5_platesOf 83 = .ok (.iload 7, 2) := by decide +kernel
theorem dX5_platesOf_85 : decode cX5_platesOf 85 = .ok (.invokevirtual 111, 3) := by decide +kernel
theorem dX5_platesOf_88 : decode cX5_platesOf 88 = .ok (.ifCond .eq 45, 3) := by decide +kernel
theorem dX5_platesOf_91 : decode cX5_platesOf 91 = .ok (.aload_n 0, 1) := by decide +kernel
theorem dX5_platesOf_92 : decode cX5_platesOf 92 = .ok (.getfield 67, 3) := by decide +kernel
theorem dX5_platesOf_95 : decode cX5_platesOf 95 = .ok (.iload 8, 2) := by decide +kernel
theorem dX5_platesOf_97 : decode cX5_platesOf 97 = .ok (.baload, 1) := by decide +kernel
theorem dX5_platesOf_98 : decode cX5_platesOf 98 = .ok (.ifCond .ne 35, 3) := by decide +kernel
theorem dX5_platesOf_101 : decode cX5_platesOf 101 = .ok (.aload_n 0, 1) := by decide +kernel
theorem dX5_platesOf_102 : decode cX5_platesOf 102 = .ok (.aload_n 0, 1) := by decide +kernel
theorem dX5_platesOf_103 : decode cX5_platesOf 103 = .ok (.getfield 64, 3) := by decide +kernel
theorem dX5_platesOf_106 : decode cX5_platesOf 106 = .ok (.iload 8, 2) := by decide +kernel
theorem dX5_platesOf_108 : decode cX5_platesOf 108 = .ok (.iaload, 1) := by decide +kernel
theorem dX5_platesOf_109 : decode cX5_platesOf 109 = .ok (.aload_n 0, 1) := by decide +kernel
theorem dX5_platesOf_110 : decode cX5_platesOf 110 = .ok (.getfield 64, 3) := by decide +kernel
theorem dX5_platesOf_113 : decode cX5_platesOf 113 = .ok (.iload_n 3, 1) := by decide +kernel
theorem dX5_platesOf_114 : decode cX5_platesOf 114 = .ok (.iaload, 1) := by decide +kernel
theorem dX5_platesOf_115 : decode cX5_platesOf 115 = .ok (.invokevirtual 114, 3) := by decide +kernel
theorem dX5_platesOf_118 : decode cX5_platesOf 118 = .ok (.ifCond .eq 15, 3) := by decide +kernel
theorem dX5_platesOf_121 : decode cX5_platesOf 121 = .ok (.iload 4, 2) := by decide +kernel
theorem dX5_platesOf_123 : decode cX5_platesOf 123 = .ok (.aload_n 0, 1) := by decide +kernel
theorem dX5_platesOf_124 : decode cX5_platesOf 124 = .ok (.getfield 64, 3) := by decide +kernel
theorem dX5_platesOf_127 : decode cX5_platesOf 127 = .ok (.iload 8, 2) := by decide +kernel
theorem dX5_platesOf_129 : decode cX5_platesOf 129 = .ok (.iaload, 1) := by decide +kernel
theorem dX5_platesOf_130 : decode cX5_platesOf 130 = .ok (.ior, 1) := by decide +kernel
theorem dX5_platesOf_131 : decode cX5_platesOf 131 = .ok (.istore 4, 2) := by decide +kernel
theorem dX5_platesOf_133 : decode cX5_platesOf 133 = .ok (.iinc 7 1, 3) := by decide +kernel
theorem dX5_platesOf_136 : decode cX5_platesOf 136 = .ok (.goto (-75), 3) := by decide +kernel
theorem dX5_platesOf_139 : decode cX5_platesOf 139 = .ok (.iinc 6 1, 3) := by decide +kernel
theorem dX5_platesOf_142 : decode cX5_platesOf 142 = .ok (.goto (-96), 3) := by decide +kernel
theorem dX5_platesOf_145 : decode cX5_platesOf 145 = .ok (.iload 4, 2) := by decide +kernel
theorem dX5_platesOf_147 : decode cX5_platesOf 147 = .ok (.ireturn, 1) := by decide +kernel
theorem dX5_creepAt_0 : decode cX5_creepAt 0 = .ok (.iload_n 1, 1) := by decide +kernel
theorem dX5_creepAt_1 : decode cX5_creepAt 1 = .ok (.aload_n 0, 1) := by decide +kernel
theorem dX5_creepAt_2 : decode cX5_creepAt 2 = .ok (.getfield 58, 3) := by decide +kernel
theorem dX5_creepAt_5 : decode cX5_creepAt 5 = .ok (.iconst 0, 1) := by decide +kernel
theorem dX5_creepAt_6 : decode cX5_creepAt 6 = .ok (.iaload, 1) := by decide +kernel
theorem dX5_creepAt_7 : decode cX5_creepAt 7 = .ok (.imul, 1) := by decide +kernel
theorem dX5_creepAt_8 : decode cX5_creepAt 8 = .ok (.bipush 8, 2) := by decide +kernel
theorem dX5_creepAt_10 : decode cX5_creepAt 10 = .ok (.idiv, 1) := by decide +kernel
theorem dX5_creepAt_11 : decode cX5_creepAt 11 = .ok (.ireturn, 1) := by decide +kernel
set_option maxRecDepth 20000 in
theorem ggX5_shows_X5_isCell : GoodIn wsX5_shows wsX5_isCell := goodIn_r _ [6, 7, 8, 9, 10, 5, 11, 12, 13, 14, 15, 16, 17, 18, 19, 20, 21, 22, 23, 24, 25, 26, 27, 28, 29, 30, 31, 32, 33, 34, 35] (by decide +kernel) (by decide +kernel)
set_option maxRecDepth 20000 in
theorem gX5_shows_X5_isCell : GoodIn wsX5_shows (wsV RX5 111 RX5 yX5_isCell wsX5_isCell) := goodIn_app (goodIn_of _ (by decide +kernel)) ggX5_shows_X5_isCell
theorem dX5_shows_0 : decode cX5_shows 0 = .ok (.iload_n 2, 1) := by decide +kernel
theorem dX5_shows_1 : decode cX5_shows 1 = .ok (.iload 4, 2) := by decide +kernel
theorem dX5_shows_3 : decode cX5_shows 3 = .ok (.isub, 1) := by decide +kernel
theorem dX5_shows_4 : decode cX5_shows 4 = .ok (.istore 6, 2) := by decide +kernel
theorem dX5_shows_6 : decode cX5_shows 6 = .ok (.iload_n 3, 1) := by decide +kernel
theorem dX5_shows_7 : decode cX5_shows 7 = .ok (.iload 5, 2) := by decide +kernel
theorem dX5_shows_9 : decode cX5_shows 9 = .ok (.isub, 1) := by decide +kernel
theorem dX5_shows_10 : decode cX5_shows 10 = .ok (.istore 7, 2) := by decide +kernel
theorem dX5_shows_12 : decode cX5_shows 12 = .ok (.aload_n 0, 1) := by decide +kernel
theorem dX5_shows_13 : decode cX5_shows 13 = .ok (.iload 6, 2) := by decide +kernel
theorem dX5_shows_15 : decode cX5_shows 15 = .ok (.iload 7, 2) := by decide +kernel
theorem dX5_shows_17 : decode cX5_shows 17 = .ok (.invokevirtual 111, 3) := by decide +kernel
theorem dX5_shows_20 : decode cX5_shows 20 = .ok (.ifCond .eq 27, 3) := by decide +kernel
theorem dX5_shows_23 : decode cX5_shows 23 = .ok (.aload_n 0, 1) := by decide +kernel
theorem dX5_shows_24 : decode cX5_shows 24 = .ok (.getfield 71, 3) := by decide +kernel
theorem dX5_shows_27 : decode cX5_shows 27 = .ok (.bipush 16, 2) := by decide +kernel
theorem dX5_shows_29 : decode cX5_shows 29 = .ok (.iload 6, 2) := by decide +kernel
theorem dX5_shows_31 : decode cX5_shows 31 = .ok (.imul, 1) := by decide +kernel
theorem dX5_shows_32 : decode cX5_shows 32 = .ok (.iload 7, 2) := by decide +kernel
theorem dX5_shows_34 : decode cX5_shows 34 = .ok (.iadd, 1) := by decide +kernel
theorem dX5_shows_35 : decode cX5_shows 35 = .ok (.iaload, 1) := by decide +kernel
theorem dX5_shows_36 : decode cX5_shows 36 = .ok (.iload_n 1, 1) := by decide +kernel
theorem dX5_shows_37 : decode cX5_shows 37 = .ok (.ishr, 1) := by decide +kernel
theorem dX5_shows_38 : decode cX5_shows 38 = .ok (.iconst 1, 1) := by decide +kernel
theorem dX5_shows_39 : decode cX5_shows 39 = .ok (.iand, 1) := by decide +kernel
theorem dX5_shows_40 : decode cX5_shows 40 = .ok (.ifCond .eq 7, 3) := by decide +kernel
theorem dX5_shows_43 : decode cX5_shows 43 = .ok (.iconst 1, 1) := by decide +kernel
theorem dX5_shows_44 : decode cX5_shows 44 = .ok (.goto 4, 3) := by decide +kernel
theorem dX5_shows_47 : decode cX5_shows 47 = .ok (.iconst 0, 1) := by decide +kernel
theorem dX5_shows_48 : decode cX5_shows 48 = .ok (.ireturn, 1) := by decide +kernel
set_option maxRecDepth 20000 in
theorem ggX5_shown_X5_creepAt : GoodIn wsX5_shown wsX5_creepAt := goodIn_r _ [7, 8, 23, 24, 25, 26, 27, 28, 29, 30, 31, 32, 33, 34, 35, 36, 37, 38, 39, 40, 41, 42, 43, 44, 45, 46] (by decide +kernel) (by decide +kernel)
set_option maxRecDepth 20000 in
theorem gX5_shown_X5_creepAt : GoodIn wsX5_shown (wsV RX5 117 RX5 yX5_creepAt wsX5_creepAt) := goodIn_app (goodIn_of _ (by decide +kernel)) ggX5_shown_X5_creepAt
set_option maxRecDepth 20000 in
theorem ggX5_shown_X5_shows : GoodIn wsX5_shown wsX5_shows := goodIn_r _ [12, 13, 14, 15, 16, 6, 17, 18, 19, 20, 21, 22, 23, 24, 25, 26, 27, 28, 29, 30, 31, 32, 33, 34, 35, 36, 37, 38, 39, 40, 41, 42, 43, 44, 45, 46] (by decide +kernel) (by decide +kernel)
set_option maxRecDepth 20000 in
theorem gX5_shown_X5_shows : GoodIn wsX5_shown (wsV RX5 120 RX5 yX5_shows wsX5_shows) := goodIn_app (goodIn_of _ (by decide +kernel)) ggX5_shown_X5_shows
theorem dX5_shown_0 : decode cX5_shown 0 = .ok (.iconst 0, 1) := by decide +kernel
theorem dX5_shown_1 : decode cX5_shown 1 = .ok (.istore_n 3, 1) := by decide +kernel
theorem dX5_shown_2 : decode cX5_shown 2 = .ok (.iconst 0, 1) := by decide +kernel
theorem dX5_shown_3 : decode cX5_shown 3 = .ok (.istore 4, 2) := by decide +kernel
theorem dX5_shown_5 : decode cX5_shown 5 = .ok (.iload 4, 2) := by decide +kernel
theorem dX5_shown_7 : decode cX5_shown 7 = .ok (.iconst 4, 1) := by decide +kernel
theorem dX5_shown_8 : decode cX5_shown 8 = .ok (.if_icmp .ge 51, 3) := by decide +kernel
theorem dX5_shown_11 : decode cX5_shown 11 = .ok (.iload_n 3, 1) := by decide +kernel
theorem dX5_shown_12 : decode cX5_shown 12 = .ok (.aload_n 0, 1) := by decide +kernel
theorem dX5_shown_13 : decode cX5_shown 13 = .ok (.iload 4, 2) := by decide +kernel
theorem dX5_shown_15 : decode cX5_shown 15 = .ok (.iload_n 1, 1) := by decide +kernel
theorem dX5_shown_16 : decode cX5_shown 16 = .ok (.iload_n 2, 1) := by decide +kernel
theorem dX5_shown_17 : decode cX5_shown 17 = .ok (.aload_n 0, 1) := by decide +kernel
theorem dX5_shown_18 : decode cX5_shown 18 = .ok (.getfield 52, 3) := by decide +kernel
theorem dX5_shown_21 : decode cX5_shown 21 = .ok (.iload 4, 2) := by decide +kernel
theorem dX5_shown_23 : decode cX5_shown 23 = .ok (.iaload, 1) := by decide +kernel
theorem dX5_shown_24 : decode cX5_shown 24 = .ok (.aload_n 0, 1) := by decide +kernel
theorem dX5_shown_25 : decode cX5_shown 25 = .ok (.getfield 55, 3) := by decide +kernel
theorem dX5_shown_28 : decode cX5_shown 28 = .ok (.iload 4, 2) := by decide +kernel
theorem dX5_shown_30 : decode cX5_shown 30 = .ok (.iaload, 1) := by decide +kernel
theorem dX5_shown_31 : decode cX5_shown 31 = .ok (.aload_n 0, 1) := by decide +kernel
theorem dX5_shown_32 : decode cX5_shown 32 = .ok (.iload_n 2, 1) := by decide +kernel
theorem dX5_shown_33 : decode cX5_shown 33 = .ok (.invokevirtual 117, 3) := by decide +kernel
theorem dX5_shown_36 : decode cX5_shown 36 = .ok (.iadd, 1) := by decide +kernel
theorem dX5_shown_37 : decode cX5_shown 37 = .ok (.invokevirtual 120, 3) := by decide +kernel
theorem dX5_shown_40 : decode cX5_shown 40 = .ok (.ifCond .eq 10, 3) := by decide +kernel
theorem dX5_shown_43 : decode cX5_shown 43 = .ok (.iconst 1, 1) := by decide +kernel
theorem dX5_shown_44 : decode cX5_shown 44 = .ok (.iload 4, 2) := by decide +kernel
theorem dX5_shown_46 : decode cX5_shown 46 = .ok (.ishl, 1) := by decide +kernel
theorem dX5_shown_47 : decode cX5_shown 47 = .ok (.goto 4, 3) := by decide +kernel
theorem dX5_shown_50 : decode cX5_shown 50 = .ok (.iconst 0, 1) := by decide +kernel
theorem dX5_shown_51 : decode cX5_shown 51 = .ok (.ior, 1) := by decide +kernel
theorem dX5_shown_52 : decode cX5_shown 52 = .ok (.istore_n 3, 1) := by decide +kernel
theorem dX5_shown_53 : decode cX5_shown 53 = .ok (.iinc 4 1, 3) := by decide +kernel
theorem dX5_shown_56 : decode cX5_shown 56 = .ok (.goto (-51), 3) := by decide +kernel
theorem dX5_shown_59 : decode cX5_shown 59 = .ok (.iload_n 3, 1) := by decide +kernel
theorem dX5_shown_60 : decode cX5_shown 60 = .ok (.ireturn, 1) := by decide +kernel
set_option maxRecDepth 20000 in
theorem ggX5_isBareBy_X5_shows : GoodIn wsX5_isBareBy wsX5_shows := goodIn_r _ [6, 7, 8, 9, 10, 5, 11, 12, 13, 14, 15, 16, 17, 18, 19, 20, 21, 22, 23, 24, 25, 26, 27, 28, 29, 30, 31, 32, 33, 34, 35, 36, 37, 38, 39, 40] (by decide +kernel) (by decide +kernel)
set_option maxRecDepth 20000 in
theorem gX5_isBareBy_X5_shows : GoodIn wsX5_isBareBy (wsV RX5 120 RX5 yX5_shows wsX5_shows) := goodIn_app (goodIn_of _ (by decide +kernel)) ggX5_isBareBy_X5_shows
theorem dX5_isBareBy_0 : decode cX5_isBareBy 0 = .ok (.aload_n 0, 1) := by decide +kernel
theorem dX5_isBareBy_1 : decode cX5_isBareBy 1 = .ok (.getfield 64, 3) := by decide +kernel
theorem dX5_isBareBy_4 : decode cX5_isBareBy 4 = .ok (.bipush 16, 2) := by decide +kernel
theorem dX5_isBareBy_6 : decode cX5_isBareBy 6 = .ok (.iload_n 1, 1) := by decide +kernel
theorem dX5_isBareBy_7 : decode cX5_isBareBy 7 = .ok (.imul, 1) := by decide +kernel
theorem dX5_isBareBy_8 : decode cX5_isBareBy 8 = .ok (.iload_n 2, 1) := by decide +kernel
theorem dX5_isBareBy_9 : decode cX5_isBareBy 9 = .ok (.iadd, 1) := by decide +kernel
theorem dX5_isBareBy_10 : decode cX5_isBareBy 10 = .ok (.iaload, 1) := by decide +kernel
theorem dX5_isBareBy_11 : decode cX5_isBareBy 11 = .ok (.ifCond .ne 5, 3) := by decide +kernel
theorem dX5_isBareBy_14 : decode cX5_isBareBy 14 = .ok (.iconst 0, 1) := by decide +kernel
theorem dX5_isBareBy_15 : decode cX5_isBareBy 15 = .ok (.ireturn, 1) := by decide +kernel
theorem dX5_isBareBy_16 : decode cX5_isBareBy 16 = .ok (.iconst 0, 1) := by decide +kernel
theorem dX5_isBareBy_17 : decode cX5_isBareBy 17 = .ok (.istore 6, 2) := by decide +kernel
theorem dX5_isBareBy_19 : decode cX5_isBareBy 19 = .ok (.iload 6, 2) := by decide +kernel
theorem dX5_isBareBy_21 : decode cX5_isBareBy 21 = .ok (.iconst 4, 1) := by decide +kernel
theorem dX5_isBareBy_22 : decode cX5_isBareBy 22 = .ok (.if_icmp .ge 46, 3) := by decide +kernel
theorem dX5_isBareBy_25 : decode cX5_isBareBy 25 = .ok (.aload_n 0, 1) := by decide +kernel
theorem dX5_isBareBy_26 : decode cX5_isBareBy 26 = .ok (.iload 6, 2) := by decide +kernel
theorem dX5_isBareBy_28 : decode cX5_isBareBy 28 = .ok (.iload_n 1, 1) := by decide +kernel
theorem dX5_isBareBy_29 : decode cX5_isBareBy 29 = .ok (.iload_n 2, 1) := by decide +kernel
theorem dX5_isBareBy_30 : decode cX5_isBareBy 30 = .ok (.iload 6, 2) := by decide +kernel
theorem dX5_isBareBy_32 : decode cX5_isBareBy 32 = .ok (.iload_n 3, 1) := by decide +kernel
theorem dX5_isBareBy_33 : decode cX5_isBareBy 33 = .ok (.if_icmp .ne 8, 3) := by decide +kernel
theorem dX5_isBareBy_36 : decode cX5_isBareBy 36 = .ok (.iload 4, 2) := by decide +kernel
theorem dX5_isBareBy_38 : decode cX5_isBareBy 38 = .ok (.goto 4, 3) := by decide +kernel
theorem dX5_isBareBy_41 : decode cX5_isBareBy 41 = .ok (.iconst 0, 1) := by decide +kernel
theorem dX5_isBareBy_42 : decode cX5_isBareBy 42 = .ok (.iload 6, 2) := by decide +kernel
theorem dX5_isBareBy_44 : decode cX5_isBareBy 44 = .ok (.iload_n 3, 1) := by decide +kernel
theorem dX5_isBareBy_45 : decode cX5_isBareBy 45 = .ok (.if_icmp .ne 8, 3) := by decide +kernel
theorem dX5_isBareBy_48 : decode cX5_isBareBy 48 = .ok (.iload 5, 2) := by decide +kernel
theorem dX5_isBareBy_50 : decode cX5_isBareBy 50 = .ok (.goto 4, 3) := by decide +kernel
theorem dX5_isBareBy_53 : decode cX5_isBareBy 53 = .ok (.iconst 0, 1) := by decide +kernel
theorem dX5_isBareBy_54 : decode cX5_isBareBy 54 = .ok (.invokevirtual 120, 3) := by decide +kernel
theorem dX5_isBareBy_57 : decode cX5_isBareBy 57 = .ok (.ifCond .eq 5, 3) := by decide +kernel
theorem dX5_isBareBy_60 : decode cX5_isBareBy 60 = .ok (.iconst 0, 1) := by decide +kernel
theorem dX5_isBareBy_61 : decode cX5_isBareBy 61 = .ok (.ireturn, 1) := by decide +kernel
theorem dX5_isBareBy_62 : decode cX5_isBareBy 62 = .ok (.iinc 6 1, 3) := by decide +kernel
theorem dX5_isBareBy_65 : decode cX5_isBareBy 65 = .ok (.goto (-46), 3) := by decide +kernel
theorem dX5_isBareBy_68 : decode cX5_isBareBy 68 = .ok (.iconst 1, 1) := by decide +kernel
theorem dX5_isBareBy_69 : decode cX5_isBareBy 69 = .ok (.ireturn, 1) := by decide +kernel
set_option maxRecDepth 20000 in
theorem ggX5_isInner_X5_isCell : GoodIn wsX5_isInner wsX5_isCell := goodIn_r _ [7, 8, 9, 10, 11, 6, 12, 13, 14, 15, 16, 17, 18, 19, 20, 21, 22, 23, 24, 25, 26, 27, 28, 29, 30, 31, 32, 33, 34, 35, 36] (by decide +kernel) (by decide +kernel)
set_option maxRecDepth 20000 in
theorem gX5_isInner_X5_isCell : GoodIn wsX5_isInner (wsV RX5 111 RX5 yX5_isCell wsX5_isCell) := goodIn_app (goodIn_of _ (by decide +kernel)) ggX5_isInner_X5_isCell
theorem dX5_isInner_0 : decode cX5_isInner 0 = .ok (.iload_n 1, 1) := by decide +kernel
theorem dX5_isInner_1 : decode cX5_isInner 1 = .ok (.iload_n 3, 1) := by decide +kernel
theorem dX5_isInner_2 : decode cX5_isInner 2 = .ok (.isub, 1) := by decide +kernel
theorem dX5_isInner_3 : decode cX5_isInner 3 = .ok (.istore 4, 2) := by decide +kernel
theorem dX5_isInner_5 : decode cX5_isInner 5 = .ok (.iload 4, 2) := by decide +kernel
theorem dX5_isInner_7 : decode cX5_isInner 7 = .ok (.iload_n 1, 1) := by decide +kernel
theorem dX5_isInner_8 : decode cX5_isInner 8 = .ok (.iload_n 3, 1) := by decide +kernel
theorem dX5_isInner_9 : decode cX5_isInner 9 = .ok (.iadd, 1) := by decide +kernel
theorem dX5_isInner_10 : decode cX5_isInner 10 = .ok (.if_icmp .gt 73, 3) := by decide +kernel
theorem dX5_isInner_13 : decode cX5_isInner 13 = .ok (.iload_n 2, 1) := by decide +kernel
theorem dX5_isInner_14 : decode cX5_isInner 14 = .ok (.iload_n 3, 1) := by decide +kernel
theorem dX5_isInner_15 : decode cX5_isInner 15 = .ok (.isub, 1) := by decide +kernel
theorem dX5_isInner_16 : decode cX5_isInner 16 = .ok (.istore 5, 2) := by decide +kernel
theorem dX5_isInner_18 : decode cX5_isInner 18 = .ok (.iload 5, 2) := by decide +kernel
theorem dX5_isInner_20 : decode cX5_isInner 20 = .ok (.iload_n 2, 1) := by decide +kernel
theorem dX5_isInner_21 : decode cX5_isInner 21 = .ok (.iload_n 3, 1) := by decide +kernel
theorem dX5_isInner_22 : decode cX5_isInner 22 = .ok (.iadd, 1) := by decide +kernel
theorem dX5_isInner_23 : decode cX5_isInner 23 = .ok (.if_icmp .gt 54, 3) := by decide +kernel
theorem dX5_isInner_26 : decode cX5_isInner 26 = .ok (.aload_n 0, 1) := by decide +kernel
theorem dX5_isInner_27 : decode cX5_isInner 27 = .ok (.iload 4, 2) := by decide +kernel
theorem dX5_isInner_29 : decode cX5_isInner 29 = .ok (.iload 5, 2) := by decide +kernel
theorem dX5_isInner_31 : decode cX5_isInner 31 = .ok (.invokevirtual 111, 3) := by decide +kernel
theorem dX5_isInner_34 : decode cX5_isInner 34 = .ok (.ifCond .eq 35, 3) := by decide +kernel
theorem dX5_isInner_37 : decode cX5_isInner 37 = .ok (.aload_n 0, 1) := by decide +kernel
theorem dX5_isInner_38 : decode cX5_isInner 38 = .ok (.getfield 64, 3) := by decide +kernel
theorem dX5_isInner_41 : decode cX5_isInner 41 = .ok (.bipush 16, 2) := by decide +kernel
theorem dX5_isInner_43 : decode cX5_isInner 43 = .ok (.iload 4, 2) := by decide +kernel
theorem dX5_isInner_45 : decode cX5_isInner 45 = .ok (.imul, 1) := by decide +kernel
theorem dX5_isInner_46 : decode cX5_isInner 46 = .ok (.iload 5, 2) := by decide +kernel
theorem dX5_isInner_48 : decode cX5_isInner 48 = .ok (.iadd, 1) := by decide +kernel
theorem dX5_isInner_49 : decode cX5_isInner 49 = .ok (.iaload, 1) := by decide +kernel
theorem dX5_isInner_50 : decode cX5_isInner 50 = .ok (.ifCond .eq 19, 3) := by decide +kernel
theorem dX5_isInner_53 : decode cX5_isInner 53 = .ok (.aload_n 0, 1) := by decide +kernel
theorem dX5_isInner_54 : decode cX5_isInner 54 = .ok (.getfield 67, 3) := by decide +kernel
theorem dX5_isInner_57 : decode cX5_isInner 57 = .ok (.bipush 16, 2) := by decide +kernel
theorem dX5_isInner_59 : decode cX5_isInner 59 = .ok (.iload 4, 2) := by decide +kernel
theorem dX5_isInner_61 : decode cX5_isInner 61 = .ok (.imul, 1) := by decide +kernel
theorem dX5_isInner_62 : decode cX5_isInner 62 = .ok (.iload 5, 2) := by decide +kernel
theorem dX5_isInner_64 : decode cX5_isInner 64 = .ok (.iadd, 1) := by decide +kernel
theorem dX5_isInner_65 : decode cX5_isInner 65 = .ok (.baload, 1) := by decide +kernel
theorem dX5_isInner_66 : decode cX5_isInner 66 = .ok (.ifCond .eq 5, 3) := by decide +kernel
theorem dX5_isInner_69 : decode cX5_isInner 69 = .ok (.iconst 0, 1) := by decide +kernel
theorem dX5_isInner_70 : decode cX5_isInner 70 = .ok (.ireturn, 1) := by decide +kernel
theorem dX5_isInner_71 : decode cX5_isInner 71 = .ok (.iinc 5 1, 3) := by decide +kernel
theorem dX5_isInner_74 : decode cX5_isInner 74 = .ok (.goto (-56), 3) := by decide +kernel
theorem dX5_isInner_77 : decode cX5_isInner 77 = .ok (.iinc 4 1, 3) := by decide +kernel
theorem dX5_isInner_80 : decode cX5_isInner 80 = .ok (.goto (-75), 3) := by decide +kernel
theorem dX5_isInner_83 : decode cX5_isInner 83 = .ok (.iconst 1, 1) := by decide +kernel
theorem dX5_isInner_84 : decode cX5_isInner 84 = .ok (.ireturn, 1) := by decide +kernel
theorem dX5_ones_0 : decode cX5_ones 0 = .ok (.iconst 0, 1) := by decide +kernel
theorem dX5_ones_1 : decode cX5_ones 1 = .ok (.istore_n 1, 1) := by decide +kernel
theorem dX5_ones_2 : decode cX5_ones 2 = .ok (.iload_n 0, 1) := by decide +kernel
theorem dX5_ones_3 : decode cX5_ones 3 = .ok (.istore_n 2, 1) := by decide +kernel
theorem dX5_ones_4 : decode cX5_ones 4 = .ok (.iload_n 2, 1) := by decide +kernel
theorem dX5_ones_5 : decode cX5_ones 5 = .ok (.ifCond .eq 15, 3) := by decide +kernel
theorem dX5_ones_8 : decode cX5_ones 8 = .ok (.iinc 1 1, 3) := by decide +kernel
theorem dX5_ones_11 : decode cX5_ones 11 = .ok (.iload_n 2, 1) := by decide +kernel
theorem dX5_ones_12 : decode cX5_ones 12 = .ok (.iload_n 2, 1) := by decide +kernel
theorem dX5_ones_13 : decode cX5_ones 13 = .ok (.iconst 1, 1) := by decide +kernel
theorem dX5_ones_14 : decode cX5_ones 14 = .ok (.isub, 1) := by decide +kernel
theorem dX5_ones_15 : decode cX5_ones 15 = .ok (.iand, 1) := by decide +kernel
theorem dX5_ones_16 : decode cX5_ones 16 = .ok (.istore_n 2, 1) := by decide +kernel
theorem dX5_ones_17 : decode cX5_ones 17 = .ok (.goto (-13), 3) := by decide +kernel
theorem dX5_ones_20 : decode cX5_ones 20 = .ok (.iload_n 1, 1) := by decide +kernel
theorem dX5_ones_21 : decode cX5_ones 21 = .ok (.ireturn, 1) := by decide +kernel
set_option maxRecDepth 20000 in
theorem ggX5_tell_X5_placeOf : GoodIn wsX5_tell wsX5_placeOf := goodIn_r _ [16, 17, 18, 52, 53, 54, 55, 56, 57, 58, 59, 60, 61, 62, 63, 64, 65, 66, 67, 68, 69, 70, 71, 72, 73, 74, 75] (by decide +kernel) (by decide +kernel)
set_option maxRecDepth 20000 in
theorem gX5_tell_X5_placeOf : GoodIn wsX5_tell (wsV RX5 97 RX5 yX5_placeOf wsX5_placeOf) := goodIn_app (goodIn_of _ (by decide +kernel)) ggX5_tell_X5_placeOf
set_option maxRecDepth 20000 in
theorem ggX5_tell_X5_findCells : GoodIn wsX5_tell wsX5_findCells := goodIn_r _ [22, 23, 9, 10, 11, 17, 18, 24, 7, 25, 8, 26, 27, 28, 29, 15, 30, 3, 4, 5, 6, 2, 31, 32, 33, 34, 35, 36, 37, 38, 39, 40, 41, 42, 43, 44, 45, 46, 47, 48, 49, 50, 51, 52, 53, 54, 55, 56, 57, 58, 59, 60, 61, 62, 63, 64, 65, 66, 67, 68, 69, 70, 71, 72, 73, 74, 75] (by decide +kernel) (by decide +kernel)
set_option maxRecDepth 20000 in
theorem gX5_tell_X5_findCells : GoodIn wsX5_tell (wsV RX5 124 RX5 yX5_findCells wsX5_findCells) := goodIn_app (goodIn_of _ (by decide +kernel)) ggX5_tell_X5_findCells
theorem dX5_tell_0 : decode cX5_tell 0 = .ok (.aload_n 0, 1) := by decide +kernel
theorem dX5_tell_1 : decode cX5_tell 1 = .ok (.iconst 0, 1) := by decide +kernel
theorem dX5_tell_2 : decode cX5_tell 2 = .ok (.putfield 77, 3) := by decide +kernel
theorem dX5_tell_5 : decode cX5_tell 5 = .ok (.aload_n 0, 1) := by decide +kernel
theorem dX5_tell_6 : decode cX5_tell 6 = .ok (.iload_n 1, 1) := by decide +kernel
theorem dX5_tell_7 : decode cX5_tell 7 = .ok (.invokevirtual 97, 3) := by decide +kernel
theorem dX5_tell_10 : decode cX5_tell 10 = .ok (.istore_n 3, 1) := by decide +kernel
theorem dX5_tell_11 : decode cX5_tell 11 = .ok (.iload_n 3, 1) := by decide +kernel
theorem dX5_tell_12 : decode cX5_tell 12 = .ok (.iconst (-1), 1) := by decide +kernel
theorem dX5_tell_13 : decode cX5_tell 13 = .ok (.if_icmp .ne 5, 3) := by decide +kernel
theorem dX5_tell_16 : decode cX5_tell 16 = .ok (.iconst (-1), 1) := by decide +kernel
theorem dX5_tell_17 : decode cX5_tell 17 = .ok (.ireturn, 1) := by decide +kernel
theorem dX5_tell_18 : decode cX5_tell 18 = .ok (.iload_n 2, 1) := by decide +kernel
theorem dX5_tell_19 : decode cX5_tell 19 = .ok (.tableswitch 177 0 8 #[49, 56, 63, 70, 77, 84, 91, 98, 100], 49) := by decide +kernel
theorem dX5_tell_68 : decode cX5_tell 68 = .ok (.aload_n 0, 1) := by decide +kernel
theorem dX5_tell_69 : decode cX5_tell 69 = .ok (.getfield 28, 3) := by decide +kernel
theorem dX5_tell_72 : decode cX5_tell 72 = .ok (.iload_n 1, 1) := by decide +kernel
theorem dX5_tell_73 : decode cX5_tell 73 = .ok (.iaload, 1) := by decide +kernel
theorem dX5_tell_74 : decode cX5_tell 74 = .ok (.ireturn, 1) := by decide +kernel
theorem dX5_tell_75 : decode cX5_tell 75 = .ok (.aload_n 0, 1) := by decide +kernel
theorem dX5_tell_76 : decode cX5_tell 76 = .ok (.getfield 31, 3) := by decide +kernel
theorem dX5_tell_79 : decode cX5_tell 79 = .ok (.iload_n 1, 1) := by decide +kernel
theorem dX5_tell_80 : decode cX5_tell 80 = .ok (.iaload, 1) := by decide +kernel
theorem dX5_tell_81 : decode cX5_tell 81 = .ok (.ireturn, 1) := by decide +kernel
theorem dX5_tell_82 : decode cX5_tell 82 = .ok (.aload_n 0, 1) := by decide +kernel
theorem dX5_tell_83 : decode cX5_tell 83 = .ok (.getfield 34, 3) := by decide +kernel
theorem dX5_tell_86 : decode cX5_tell 86 = .ok (.iload_n 1, 1) := by decide +kernel
theorem dX5_tell_87 : decode cX5_tell 87 = .ok (.iaload, 1) := by decide +kernel
theorem dX5_tell_88 : decode cX5_tell 88 = .ok (.ireturn, 1) := by decide +kernel
theorem dX5_tell_89 : decode cX5_tell 89 = .ok (.aload_n 0, 1) := by decide +kernel
theorem dX5_tell_90 : decode cX5_tell 90 = .ok (.getfield 37, 3) := by decide +kernel
theorem dX5_tell_93 : decode cX5_tell 93 = .ok (.iload_n 1, 1) := by decide +kernel
theorem dX5_tell_94 : decode cX5_tell 94 = .ok (.iaload, 1) := by decide +kernel
theorem dX5_tell_95 : decode cX5_tell 95 = .ok (.ireturn, 1) := by decide +kernel
theorem dX5_tell_96 : decode cX5_tell 96 = .ok (.aload_n 0, 1) := by decide +kernel
theorem dX5_tell_97 : decode cX5_tell 97 = .ok (.getfield 40, 3) := by decide +kernel
theorem dX5_tell_100 : decode cX5_tell 100 = .ok (.iload_n 1, 1) := by decide +kernel
theorem dX5_tell_101 : decode cX5_tell 101 = .ok (.iaload, 1) := by decide +kernel
theorem dX5_tell_102 : decode cX5_tell 102 = .ok (.ireturn, 1) := by decide +kernel
theorem dX5_tell_103 : decode cX5_tell 103 = .ok (.aload_n 0, 1) := by decide +kernel
theorem dX5_tell_104 : decode cX5_tell 104 = .ok (.getfield 43, 3) := by decide +kernel
theorem dX5_tell_107 : decode cX5_tell 107 = .ok (.iload_n 1, 1) := by decide +kernel
theorem dX5_tell_108 : decode cX5_tell 108 = .ok (.iaload, 1) := by decide +kernel
theorem dX5_tell_109 : decode cX5_tell 109 = .ok (.ireturn, 1) := by decide +kernel
theorem dX5_tell_110 : decode cX5_tell 110 = .ok (.aload_n 0, 1) := by decide +kernel
theorem dX5_tell_111 : decode cX5_tell 111 = .ok (.getfield 46, 3) := by decide +kernel
theorem dX5_tell_114 : decode cX5_tell 114 = .ok (.iload_n 1, 1) := by decide +kernel
theorem dX5_tell_115 : decode cX5_tell 115 = .ok (.iaload, 1) := by decide +kernel
theorem dX5_tell_116 : decode cX5_tell 116 = .ok (.ireturn, 1) := by decide +kernel
theorem dX5_tell_117 : decode cX5_tell 117 = .ok (.iload_n 3, 1) := by decide +kernel
theorem dX5_tell_118 : decode cX5_tell 118 = .ok (.ireturn, 1) := by decide +kernel
theorem dX5_tell_119 : decode cX5_tell 119 = .ok (.aload_n 0, 1) := by decide +kernel
theorem dX5_tell_120 : decode cX5_tell 120 = .ok (.invokevirtual 124, 3) := by decide +kernel
theorem dX5_tell_123 : decode cX5_tell 123 = .ok (.iconst 0, 1) := by decide +kernel
theorem dX5_tell_124 : decode cX5_tell 124 = .ok (.istore 4, 2) := by decide +kernel
theorem dX5_tell_126 : decode cX5_tell 126 = .ok (.iconst 0, 1) := by decide +kernel
theorem dX5_tell_127 : decode cX5_tell 127 = .ok (.istore 5, 2) := by decide +kernel
theorem dX5_tell_129 : decode cX5_tell 129 = .ok (.iload 5, 2) := by decide +kernel
theorem dX5_tell_131 : decode cX5_tell 131 = .ok (.aload_n 0, 1) := by decide +kernel
theorem dX5_tell_132 : decode cX5_tell 132 = .ok (.getfield 7, 3) := by decide +kernel
theorem dX5_tell_135 : decode cX5_tell 135 = .ok (.iconst 0, 1) := by decide +kernel
theorem dX5_tell_136 : decode cX5_tell 136 = .ok (.iaload, 1) := by decide +kernel
theorem dX5_tell_137 : decode cX5_tell 137 = .ok (.if_icmp .ge 56, 3) := by decide +kernel
theorem dX5_tell_140 : decode cX5_tell 140 = .ok (.iconst 0, 1) := by decide +kernel
theorem dX5_tell_141 : decode cX5_tell 141 = .ok (.istore 6, 2) := by decide +kernel
theorem dX5_tell_143 : decode cX5_tell 143 = .ok (.iload 6, 2) := by decide +kernel
theorem dX5_tell_145 : decode cX5_tell 145 = .ok (.aload_n 0, 1) := by decide +kernel
theorem dX5_tell_146 : decode cX5_tell 146 = .ok (.getfield 13, 3) := by decide +kernel
theorem dX5_tell_149 : decode cX5_tell 149 = .ok (.iconst 0, 1) := by decide +kernel
theorem dX5_tell_150 : decode cX5_tell 150 = .ok (.iaload, 1) := by decide +kernel
theorem dX5_tell_151 : decode cX5_tell 151 = .ok (.if_icmp .ge 36, 3) := by decide +kernel
theorem dX5_tell_154 : decode cX5_tell 154 = .ok (.iload 4, 2) := by decide +kernel
theorem dX5_tell_156 : decode cX5_tell 156 = .ok (.aload_n 0, 1) := by decide +kernel
theorem dX5_tell_157 : decode cX5_tell 157 = .ok (.getfield 61, 3) := by decide +kernel
theorem dX5_tell_160 : decode cX5_tell 160 = .ok (.bipush 16, 2) := by decide +kernel
theorem dX5_tell_162 : decode cX5_tell 162 = .ok (.iload 5, 2) := by decide +kernel
theorem dX5_tell_164 : decode cX5_tell 164 = .ok (.imul, 1) := by decide +kernel
theorem dX5_tell_165 : decode cX5_tell 165 = .ok (.iload 6, 2) := by decide +kernel
theorem dX5_tell_167 : decode cX5_tell 167 = .ok (.iadd, 1) := by decide +kernel
theorem dX5_tell_168 : decode cX5_tell 168 = .ok (.iaload, 1) := by decide +kernel
theorem dX5_tell_169 : decode cX5_tell 169 = .ok (.iload_n 1, 1) := by decide +kernel
theorem dX5_tell_170 : decode cX5_tell 170 = .ok (.if_icmp .ne 7, 3) := by decide +kernel
theorem dX5_tell_173 : decode cX5_tell 173 = .ok (.iconst 1, 1) := by decide +kernel
theorem dX5_tell_174 : decode cX5_tell 174 = .ok (.goto 4, 3) := by decide +kernel
theorem dX5_tell_177 : decode cX5_tell 177 = .ok (.iconst 0, 1) := by decide +kernel
theorem dX5_tell_178 : decode cX5_tell 178 = .ok (.iadd, 1) := by decide +kernel
theorem dX5_tell_179 : decode cX5_tell 179 = .ok (.istore 4, 2) := by decide +kernel
theorem dX5_tell_181 : decode cX5_tell 181 = .ok (.iinc 6 1, 3) := by decide +kernel
theorem dX5_tell_184 : decode cX5_tell 184 = .ok (.goto (-41), 3) := by decide +kernel
theorem dX5_tell_187 : decode cX5_tell 187 = .ok (.iinc 5 1, 3) := by decide +kernel
theorem dX5_tell_190 : decode cX5_tell 190 = .ok (.goto (-61), 3) := by decide +kernel
theorem dX5_tell_193 : decode cX5_tell 193 = .ok (.iload 4, 2) := by decide +kernel
theorem dX5_tell_195 : decode cX5_tell 195 = .ok (.ireturn, 1) := by decide +kernel
theorem dX5_tell_196 : decode cX5_tell 196 = .ok (.iconst (-1), 1) := by decide +kernel
theorem dX5_tell_197 : decode cX5_tell 197 = .ok (.ireturn, 1) := by decide +kernel
set_option maxRecDepth 20000 in
theorem ggX5_cell_X5_isCell : GoodIn wsX5_cell wsX5_isCell := goodIn_r _ [10, 11, 12, 13, 14, 9, 15, 63, 64, 65, 66, 67, 68, 69, 70, 71, 72, 73, 74, 75, 76, 77, 78, 79, 80, 81, 82, 83, 84, 85, 86] (by decide +kernel) (by decide +kernel)
set_option maxRecDepth 20000 in
theorem gX5_cell_X5_isCell : GoodIn wsX5_cell (wsV RX5 111 RX5 yX5_isCell wsX5_isCell) := goodIn_app (goodIn_of _ (by decide +kernel)) ggX5_cell_X5_isCell
set_option maxRecDepth 20000 in
theorem ggX5_cell_X5_findCells : GoodIn wsX5_cell wsX5_findCells := goodIn_r _ [19, 20, 11, 12, 4, 21, 22, 2, 23, 3, 24, 5, 25, 26, 27, 9, 28, 29, 30, 31, 32, 33, 13, 14, 15, 34, 35, 36, 37, 38, 6, 7, 8, 10, 39, 40, 41, 42, 43, 44, 45, 46, 47, 63, 64, 65, 66, 67, 68, 69, 70, 71, 72, 73, 74, 75, 76, 77, 78, 79, 80, 81, 82, 83, 84, 85, 86] (by decide +kernel) (by decide +kernel)
set_option maxRecDepth 20000 in
theorem gX5_cell_X5_findCells : GoodIn wsX5_cell (wsV RX5 124 RX5 yX5_findCells wsX5_findCells) := goodIn_app (goodIn_of _ (by decide +kernel)) ggX5_cell_X5_findCells
set_option maxRecDepth 20000 in
theorem ggX5_cell_X5_shown : GoodIn wsX5_cell wsX5_shown := goodIn_r _ [51, 52, 53, 54, 55, 56, 9, 57, 58, 59, 60, 61, 62, 5, 6, 7, 8, 10, 11, 12, 13, 14, 15, 63, 64, 65, 66, 67, 68, 69, 70, 71, 72, 73, 74, 75, 76, 77, 78, 79, 80, 81, 82, 83, 84, 85, 86] (by decide +kernel) (by decide +kernel)
set_option maxRecDepth 20000 in
theorem gX5_cell_X5_shown : GoodIn wsX5_cell (wsV RX5 127 RX5 yX5_shown wsX5_shown) := goodIn_app (goodIn_of _ (by decide +kernel)) ggX5_cell_X5_shown
theorem dX5_cell_0 : decode cX5_cell 0 = .ok (.aload_n 0, 1) := by decide +kernel
theorem dX5_cell_1 : decode cX5_cell 1 = .ok (.iconst 0, 1) := by decide +kernel
theorem dX5_cell_2 : decode cX5_cell 2 = .ok (.putfield 77, 3) := by decide +kernel
theorem dX5_cell_5 : decode cX5_cell 5 = .ok (.aload_n 0, 1) := by decide +kernel
theorem dX5_cell_6 : decode cX5_cell 6 = .ok (.iload_n 1, 1) := by decide +kernel
theorem dX5_cell_7 : decode cX5_cell 7 = .ok (.iload_n 2, 1) := by decide +kernel
theorem dX5_cell_8 : decode cX5_cell 8 = .ok (.invokevirtual 111, 3) := by decide +kernel
theorem dX5_cell_11 : decode cX5_cell 11 = .ok (.ifCond .ne 5, 3) := by decide +kernel
theorem dX5_cell_14 : decode cX5_cell 14 = .ok (.iconst (-1), 1) := by decide +kernel
theorem dX5_cell_15 : decode cX5_cell 15 = .ok (.ireturn, 1) := by decide +kernel
theorem dX5_cell_16 : decode cX5_cell 16 = .ok (.aload_n 0, 1) := by decide +kernel
theorem dX5_cell_17 : decode cX5_cell 17 = .ok (.invokevirtual 124, 3) := by decide +kernel
theorem dX5_cell_20 : decode cX5_cell 20 = .ok (.bipush 16, 2) := by decide +kernel
theorem dX5_cell_22 : decode cX5_cell 22 = .ok (.iload_n 1, 1) := by decide +kernel
theorem dX5_cell_23 : decode cX5_cell 23 = .ok (.imul, 1) := by decide +kernel
theorem dX5_cell_24 : decode cX5_cell 24 = .ok (.iload_n 2, 1) := by decide +kernel
theorem dX5_cell_25 : decode cX5_cell 25 = .ok (.iadd, 1) := by decide +kernel
theorem dX5_cell_26 : decode cX5_cell 26 = .ok (.istore 4, 2) := by decide +kernel
theorem dX5_cell_28 : decode cX5_cell 28 = .ok (.iload_n 3, 1) := by decide +kernel
theorem dX5_cell_29 : decode cX5_cell 29 = .ok (.tableswitch 137 0 6 #[43, 51, 67, 75, 83, 90, 115], 43) := by decide +kernel
theorem dX5_cell_72 : decode cX5_cell 72 = .ok (.aload_n 0, 1) := by decide +kernel
theorem dX5_cell_73 : decode cX5_cell 73 = .ok (.getfield 64, 3) := by decide +kernel
theorem dX5_cell_76 : decode cX5_cell 76 = .ok (.iload 4, 2) := by decide +kernel
theorem dX5_cell_78 : decode cX5_cell 78 = .ok (.iaload, 1) := by decide +kernel
theorem dX5_cell_79 : decode cX5_cell 79 = .ok (.ireturn, 1) := by decide +kernel
theorem dX5_cell_80 : decode cX5_cell 80 = .ok (.aload_n 0, 1) := by decide +kernel
theorem dX5_cell_81 : decode cX5_cell 81 = .ok (.getfield 67, 3) := by decide +kernel
theorem dX5_cell_84 : decode cX5_cell 84 = .ok (.iload 4, 2) := by decide +kernel
theorem dX5_cell_86 : decode cX5_cell 86 = .ok (.baload, 1) := by decide +kernel
theorem dX5_cell_87 : decode cX5_cell 87 = .ok (.ifCond .eq 7, 3) := by decide +kernel
theorem dX5_cell_90 : decode cX5_cell 90 = .ok (.iconst 1, 1) := by decide +kernel
theorem dX5_cell_91 : decode cX5_cell 91 = .ok (.goto 4, 3) := by decide +kernel
theorem dX5_cell_94 : decode cX5_cell 94 = .ok (.iconst 0, 1) := by decide +kernel
theorem dX5_cell_95 : decode cX5_cell 95 = .ok (.ireturn, 1) := by decide +kernel
theorem dX5_cell_96 : decode cX5_cell 96 = .ok (.aload_n 0, 1) := by decide +kernel
theorem dX5_cell_97 : decode cX5_cell 97 = .ok (.getfield 61, 3) := by decide +kernel
theorem dX5_cell_100 : decode cX5_cell 100 = .ok (.iload 4, 2) := by decide +kernel
theorem dX5_cell_102 : decode cX5_cell 102 = .ok (.iaload, 1) := by decide +kernel
theorem dX5_cell_103 : decode cX5_cell 103 = .ok (.ireturn, 1) := by decide +kernel
theorem dX5_cell_104 : decode cX5_cell 104 = .ok (.aload_n 0, 1) := by decide +kernel
theorem dX5_cell_105 : decode cX5_cell 105 = .ok (.getfield 71, 3) := by decide +kernel
theorem dX5_cell_108 : decode cX5_cell 108 = .ok (.iload 4, 2) := by decide +kernel
theorem dX5_cell_110 : decode cX5_cell 110 = .ok (.iaload, 1) := by decide +kernel
theorem dX5_cell_111 : decode cX5_cell 111 = .ok (.ireturn, 1) := by decide +kernel
theorem dX5_cell_112 : decode cX5_cell 112 = .ok (.aload_n 0, 1) := by decide +kernel
theorem dX5_cell_113 : decode cX5_cell 113 = .ok (.iload_n 1, 1) := by decide +kernel
theorem dX5_cell_114 : decode cX5_cell 114 = .ok (.iload_n 2, 1) := by decide +kernel
theorem dX5_cell_115 : decode cX5_cell 115 = .ok (.invokevirtual 127, 3) := by decide +kernel
theorem dX5_cell_118 : decode cX5_cell 118 = .ok (.ireturn, 1) := by decide +kernel
theorem dX5_cell_119 : decode cX5_cell 119 = .ok (.aload_n 0, 1) := by decide +kernel
theorem dX5_cell_120 : decode cX5_cell 120 = .ok (.getfield 64, 3) := by decide +kernel
theorem dX5_cell_123 : decode cX5_cell 123 = .ok (.iload 4, 2) := by decide +kernel
theorem dX5_cell_125 : decode cX5_cell 125 = .ok (.iaload, 1) := by decide +kernel
theorem dX5_cell_126 : decode cX5_cell 126 = .ok (.ifCond .eq 16, 3) := by decide +kernel
theorem dX5_cell_129 : decode cX5_cell 129 = .ok (.aload_n 0, 1) := by decide +kernel
theorem dX5_cell_130 : decode cX5_cell 130 = .ok (.iload_n 1, 1) := by decide +kernel
theorem dX5_cell_131 : decode cX5_cell 131 = .ok (.iload_n 2, 1) := by decide +kernel
theorem dX5_cell_132 : decode cX5_cell 132 = .ok (.invokevirtual 127, 3) := by decide +kernel
theorem dX5_cell_135 : decode cX5_cell 135 = .ok (.ifCond .ne 7, 3) := by decide +kernel
theorem dX5_cell_138 : decode cX5_cell 138 = .ok (.iconst 1, 1) := by decide +kernel
theorem dX5_cell_139 : decode cX5_cell 139 = .ok (.goto 4, 3) := by decide +kernel
theorem dX5_cell_142 : decode cX5_cell 142 = .ok (.iconst 0, 1) := by decide +kernel
theorem dX5_cell_143 : decode cX5_cell 143 = .ok (.ireturn, 1) := by decide +kernel
theorem dX5_cell_144 : decode cX5_cell 144 = .ok (.aload_n 0, 1) := by decide +kernel
theorem dX5_cell_145 : decode cX5_cell 145 = .ok (.iload_n 1, 1) := by decide +kernel
theorem dX5_cell_146 : decode cX5_cell 146 = .ok (.iload_n 2, 1) := by decide +kernel
theorem dX5_cell_147 : decode cX5_cell 147 = .ok (.invokevirtual 127, 3) := by decide +kernel
theorem dX5_cell_150 : decode cX5_cell 150 = .ok (.aload_n 0, 1) := by decide +kernel
theorem dX5_cell_151 : decode cX5_cell 151 = .ok (.getfield 64, 3) := by decide +kernel
theorem dX5_cell_154 : decode cX5_cell 154 = .ok (.iload 4, 2) := by decide +kernel
theorem dX5_cell_156 : decode cX5_cell 156 = .ok (.iaload, 1) := by decide +kernel
theorem dX5_cell_157 : decode cX5_cell 157 = .ok (.if_icmp .eq 7, 3) := by decide +kernel
theorem dX5_cell_160 : decode cX5_cell 160 = .ok (.iconst 1, 1) := by decide +kernel
theorem dX5_cell_161 : decode cX5_cell 161 = .ok (.goto 4, 3) := by decide +kernel
theorem dX5_cell_164 : decode cX5_cell 164 = .ok (.iconst 0, 1) := by decide +kernel
theorem dX5_cell_165 : decode cX5_cell 165 = .ok (.ireturn, 1) := by decide +kernel
theorem dX5_cell_166 : decode cX5_cell 166 = .ok (.iconst (-1), 1) := by decide +kernel
theorem dX5_cell_167 : decode cX5_cell 167 = .ok (.ireturn, 1) := by decide +kernel
set_option maxRecDepth 20000 in
theorem ggX5_inner_X5_findCells : GoodIn wsX5_inner wsX5_findCells := goodIn_r _ [6, 7, 8, 9, 10, 11, 12, 13, 14, 15, 16, 17, 18, 19, 20, 5, 21, 22, 23, 24, 25, 26, 27, 28, 29, 30, 31, 32, 33, 34, 35, 36, 37, 38, 39, 40, 41, 42, 43, 44, 45, 46, 47, 52, 53, 54, 55, 56, 57, 58, 59, 60, 61, 62, 63, 64, 65, 66, 67, 68, 69, 70, 71, 72, 73, 74, 75] (by decide +kernel) (by decide +kernel)
set_option maxRecDepth 20000 in
theorem gX5_inner_X5_findCells : GoodIn wsX5_inner (wsV RX5 124 RX5 yX5_findCells wsX5_findCells) := goodIn_app (goodIn_of _ (by decide +kernel)) ggX5_inner_X5_findCells
set_option maxRecDepth 20000 in
theorem ggX5_inner_X5_isCell : GoodIn wsX5_inner wsX5_isCell := goodIn_r _ [38, 8, 9, 27, 28, 5, 29, 52, 53, 54, 55, 56, 57, 58, 59, 60, 61, 62, 63, 64, 65, 66, 67, 68, 69, 70, 71, 72, 73, 74, 75] (by decide +kernel) (by decide +kernel)
set_option maxRecDepth 20000 in
theorem gX5_inner_X5_isCell : GoodIn wsX5_inner (wsV RX5 111 RX5 yX5_isCell wsX5_isCell) := goodIn_app (goodIn_of _ (by decide +kernel)) ggX5_inner_X5_isCell
set_option maxRecDepth 20000 in
theorem ggX5_inner_X5_in : GoodIn wsX5_inner wsX5_in := goodIn_r _ [29] (by decide +kernel) (by decide +kernel)
set_option maxRecDepth 20000 in
theorem gX5_inner_X5_in : GoodIn wsX5_inner (va_wsS RX5 85 yX5_in wsX5_in) := goodIn_app (goodIn_of _ (by decide +kernel)) ggX5_inner_X5_in
set_option maxRecDepth 20000 in
theorem ggX5_inner_X5_isInner : GoodIn wsX5_inner wsX5_isInner := goodIn_r _ [51, 13, 15, 35, 36, 37, 5, 38, 8, 9, 27, 28, 29, 52, 53, 54, 55, 56, 57, 58, 59, 60, 61, 62, 63, 64, 65, 66, 67, 68, 69, 70, 71, 72, 73, 74, 75] (by decide +kernel) (by decide +kernel)
set_option maxRecDepth 20000 in
theorem gX5_inner_X5_isInner : GoodIn wsX5_inner (wsV RX5 130 RX5 yX5_isInner wsX5_isInner) := goodIn_app (goodIn_of _ (by decide +kernel)) ggX5_inner_X5_isInner
theorem dX5_inner_0 : decode cX5_inner 0 = .ok (.aload_n 0, 1) := by decide +kernel
theorem dX5_inner_1 : decode cX5_inner 1 = .ok (.iconst 0, 1) := by decide +kernel
theorem dX5_inner_2 : decode cX5_inner 2 = .ok (.putfield 77, 3) := by decide +kernel
theorem dX5_inner_5 : decode cX5_inner 5 = .ok (.aload_n 0, 1) := by decide +kernel
theorem dX5_inner_6 : decode cX5_inner 6 = .ok (.invokevirtual 124, 3) := by decide +kernel
theorem dX5_inner_9 : decode cX5_inner 9 = .ok (.aload_n 0, 1) := by decide +kernel
theorem dX5_inner_10 : decode cX5_inner 10 = .ok (.iload_n 1, 1) := by decide +kernel
theorem dX5_inner_11 : decode cX5_inner 11 = .ok (.iload_n 2, 1) := by decide +kernel
theorem dX5_inner_12 : decode cX5_inner 12 = .ok (.invokevirtual 111, 3) := by decide +kernel
theorem dX5_inner_15 : decode cX5_inner 15 = .ok (.ifCond .eq 27, 3) := by decide +kernel
theorem dX5_inner_18 : decode cX5_inner 18 = .ok (.iload_n 3, 1) := by decide +kernel
theorem dX5_inner_19 : decode cX5_inner 19 = .ok (.iconst 0, 1) := by decide +kernel
theorem dX5_inner_20 : decode cX5_inner 20 = .ok (.bipush 15, 2) := by decide +kernel
theorem dX5_inner_22 : decode cX5_inner 22 = .ok (.invokestatic 85, 3) := by decide +kernel
theorem dX5_inner_25 : decode cX5_inner 25 = .ok (.ifCond .eq 17, 3) := by decide +kernel
theorem dX5_inner_28 : decode cX5_inner 28 = .ok (.aload_n 0, 1) := by decide +kernel
theorem dX5_inner_29 : decode cX5_inner 29 = .ok (.iload_n 1, 1) := by decide +kernel
theorem dX5_inner_30 : decode cX5_inner 30 = .ok (.iload_n 2, 1) := by decide +kernel
theorem dX5_inner_31 : decode cX5_inner 31 = .ok (.iload_n 3, 1) := by decide +kernel
theorem dX5_inner_32 : decode cX5_inner 32 = .ok (.invokevirtual 130, 3) := by decide +kernel
theorem dX5_inner_35 : decode cX5_inner 35 = .ok (.ifCond .eq 7, 3) := by decide +kernel
theorem dX5_inner_38 : decode cX5_inner 38 = .ok (.iconst 1, 1) := by decide +kernel
theorem dX5_inner_39 : decode cX5_inner 39 = .ok (.goto 4, 3) := by decide +kernel
theorem dX5_inner_42 : decode cX5_inner 42 = .ok (.iconst 0, 1) := by decide +kernel
theorem dX5_inner_43 : decode cX5_inner 43 = .ok (.ireturn, 1) := by decide +kernel
set_option maxRecDepth 20000 in
theorem ggX5_lighter_X5_in : GoodIn wsX5_lighter wsX5_in := goodIn_r _ [5] (by decide +kernel) (by decide +kernel)
set_option maxRecDepth 20000 in
theorem gX5_lighter_X5_in : GoodIn wsX5_lighter (va_wsS RX5 85 yX5_in wsX5_in) := goodIn_app (goodIn_of _ (by decide +kernel)) ggX5_lighter_X5_in
set_option maxRecDepth 20000 in
theorem ggX5_lighter_X5_isLighter : GoodIn wsX5_lighter wsX5_isLighter := goodIn_r _ [9, 10, 11, 12, 4, 13, 14, 15, 16, 17, 18, 19, 20, 21, 22, 23, 24, 25, 26, 27, 28, 29, 30, 31, 32, 33, 34, 35, 36, 37, 38] (by decide +kernel) (by decide +kernel)
set_option maxRecDepth 20000 in
theorem gX5_lighter_X5_isLighter : GoodIn wsX5_lighter (wsV RX5 114 RX5 yX5_isLighter wsX5_isLighter) := goodIn_app (goodIn_of _ (by decide +kernel)) ggX5_lighter_X5_isLighter
theorem dX5_lighter_0 : decode cX5_lighter 0 = .ok (.aload_n 0, 1) := by decide +kernel
theorem dX5_lighter_1 : decode cX5_lighter 1 = .ok (.iconst 0, 1) := by decide +kernel
theorem dX5_lighter_2 : decode cX5_lighter 2 = .ok (.putfield 77, 3) := by decide +kernel
theorem dX5_lighter_5 : decode cX5_lighter 5 = .ok (.iload_n 1, 1) := by decide +kernel
theorem dX5_lighter_6 : decode cX5_lighter 6 = .ok (.iconst 0, 1) := by decide +kernel
theorem dX5_lighter_7 : decode cX5_lighter 7 = .ok (.bipush 15, 2) := by decide +kernel
theorem dX5_lighter_9 : decode cX5_lighter 9 = .ok (.invokestatic 85, 3) := by decide +kernel
theorem dX5_lighter_12 : decode cX5_lighter 12 = .ok (.ifCond .eq 26, 3) := by decide +kernel
theorem dX5_lighter_15 : decode cX5_lighter 15 = .ok (.iload_n 2, 1) := by decide +kernel
theorem dX5_lighter_16 : decode cX5_lighter 16 = .ok (.iconst 0, 1) := by decide +kernel
theorem dX5_lighter_17 : decode cX5_lighter 17 = .ok (.bipush 15, 2) := by decide +kernel
theorem dX5_lighter_19 : decode cX5_lighter 19 = .ok (.invokestatic 85, 3) := by decide +kernel
theorem dX5_lighter_22 : decode cX5_lighter 22 = .ok (.ifCond .eq 16, 3) := by decide +kernel
theorem dX5_lighter_25 : decode cX5_lighter 25 = .ok (.aload_n 0, 1) := by decide +kernel
theorem dX5_lighter_26 : decode cX5_lighter 26 = .ok (.iload_n 1, 1) := by decide +kernel
theorem dX5_lighter_27 : decode cX5_lighter 27 = .ok (.iload_n 2, 1) := by decide +kernel
theorem dX5_lighter_28 : decode cX5_lighter 28 = .ok (.invokevirtual 114, 3) := by decide +kernel
theorem dX5_lighter_31 : decode cX5_lighter 31 = .ok (.ifCond .eq 7, 3) := by decide +kernel
theorem dX5_lighter_34 : decode cX5_lighter 34 = .ok (.iconst 1, 1) := by decide +kernel
theorem dX5_lighter_35 : decode cX5_lighter 35 = .ok (.goto 4, 3) := by decide +kernel
theorem dX5_lighter_38 : decode cX5_lighter 38 = .ok (.iconst 0, 1) := by decide +kernel
theorem dX5_lighter_39 : decode cX5_lighter 39 = .ok (.ireturn, 1) := by decide +kernel
set_option maxRecDepth 20000 in
theorem ggX5_allPlates_X5_ones : GoodIn wsX5_allPlates wsX5_ones := goodIn_r _ [7] (by decide +kernel) (by decide +kernel)
set_option maxRecDepth 20000 in
theorem gX5_allPlates_X5_ones : GoodIn wsX5_allPlates (va_wsS RX5 133 yX5_ones wsX5_ones) := goodIn_app (goodIn_of _ (by decide +kernel)) ggX5_allPlates_X5_ones
theorem dX5_allPlates_0 : decode cX5_allPlates 0 = .ok (.iconst 0, 1) := by decide +kernel
theorem dX5_allPlates_1 : decode cX5_allPlates 1 = .ok (.istore_n 1, 1) := by decide +kernel
theorem dX5_allPlates_2 : decode cX5_allPlates 2 = .ok (.iconst 0, 1) := by decide +kernel
theorem dX5_allPlates_3 : decode cX5_allPlates 3 = .ok (.istore_n 2, 1) := by decide +kernel
theorem dX5_allPlates_4 : decode cX5_allPlates 4 = .ok (.iload_n 2, 1) := by decide +kernel
theorem dX5_allPlates_5 : decode cX5_allPlates 5 = .ok (.aload_n 0, 1) := by decide +kernel
theorem dX5_allPlates_6 : decode cX5_allPlates 6 = .ok (.getfield 7, 3) := by decide +kernel
theorem dX5_allPlates_9 : decode cX5_allPlates 9 = .ok (.iconst 0, 1) := by decide +kernel
theorem dX5_allPlates_10 : decode cX5_allPlates 10 = .ok (.iaload, 1) := by decide +kernel
theorem dX5_allPlates_11 : decode cX5_allPlates 11 = .ok (.if_icmp .ge 44, 3) := by decide +kernel
theorem dX5_allPlates_14 : decode cX5_allPlates 14 = .ok (.iconst 0, 1) := by decide +kernel
theorem dX5_allPlates_15 : decode cX5_allPlates 15 = .ok (.istore_n 3, 1) := by decide +kernel
theorem dX5_allPlates_16 : decode cX5_allPlates 16 = .ok (.iload_n 3, 1) := by decide +kernel
theorem dX5_allPlates_17 : decode cX5_allPlates 17 = .ok (.aload_n 0, 1) := by decide +kernel
theorem dX5_allPlates_18 : decode cX5_allPlates 18 = .ok (.getfield 13, 3) := by decide +kernel
theorem dX5_allPlates_21 : decode cX5_allPlates 21 = .ok (.iconst 0, 1) := by decide +kernel
theorem dX5_allPlates_22 : decode cX5_allPlates 22 = .ok (.iaload, 1) := by decide +kernel
theorem dX5_allPlates_23 : decode cX5_allPlates 23 = .ok (.if_icmp .ge 26, 3) := by decide +kernel
theorem dX5_allPlates_26 : decode cX5_allPlates 26 = .ok (.iload_n 1, 1) := by decide +kernel
theorem dX5_allPlates_27 : decode cX5_allPlates 27 = .ok (.aload_n 0, 1) := by decide +kernel
theorem dX5_allPlates_28 : decode cX5_allPlates 28 = .ok (.getfield 71, 3) := by decide +kernel
theorem dX5_allPlates_31 : decode cX5_allPlates 31 = .ok (.bipush 16, 2) := by decide +kernel
theorem dX5_allPlates_33 : decode cX5_allPlates 33 = .ok (.iload_n 2, 1) := by decide +kernel
theorem dX5_allPlates_34 : decode cX5_allPlates 34 = .ok (.imul, 1) := by decide +kernel
theorem dX5_allPlates_35 : decode cX5_allPlates 35 = .ok (.iload_n 3, 1) := by decide +kernel
theorem dX5_allPlates_36 : decode cX5_allPlates 36 = .ok (.iadd, 1) := by decide +kernel
theorem dX5_allPlates_37 : decode cX5_allPlates 37 = .ok (.iaload, 1) := by decide +kernel
theorem dX5_allPlates_38 : decode cX5_allPlates 38 = .ok (.invokestatic 133, 3) := by decide +kernel
theorem dX5_allPlates_41 : decode cX5_allPlates 41 = .ok (.iadd, 1) := by decide +kernel
theorem dX5_allPlates_42 : decode cX5_allPlates 42 = .ok (.istore_n 1, 1) := by decide +kernel
theorem dX5_allPlates_43 : decode cX5_allPlates 43 = .ok (.iinc 3 1, 3) := by decide +kernel
theorem dX5_allPlates_46 : decode cX5_allPlates 46 = .ok (.goto (-30), 3) := by decide +kernel
theorem dX5_allPlates_49 : decode cX5_allPlates 49 = .ok (.iinc 2 1, 3) := by decide +kernel
theorem dX5_allPlates_52 : decode cX5_allPlates 52 = .ok (.goto (-48), 3) := by decide +kernel
theorem dX5_allPlates_55 : decode cX5_allPlates 55 = .ok (.iload_n 1, 1) := by decide +kernel
theorem dX5_allPlates_56 : decode cX5_allPlates 56 = .ok (.ireturn, 1) := by decide +kernel
set_option maxRecDepth 20000 in
theorem ggX5_trap_X5_in : GoodIn wsX5_trap wsX5_in := goodIn_r _ [10] (by decide +kernel) (by decide +kernel)
set_option maxRecDepth 20000 in
theorem gX5_trap_X5_in : GoodIn wsX5_trap (va_wsS RX5 85 yX5_in wsX5_in) := goodIn_app (goodIn_of _ (by decide +kernel)) ggX5_trap_X5_in
set_option maxRecDepth 20000 in
theorem ggX5_trap_X5_findCells : GoodIn wsX5_trap wsX5_findCells := goodIn_r _ [14, 3, 4, 5, 15, 16, 17, 6, 18, 19, 20, 21, 22, 23, 24, 9, 25, 26, 27, 28, 29, 30, 7, 8, 10, 31, 32, 33, 34, 2, 35, 36, 37, 38, 39, 40, 41, 42, 43, 44, 45, 46, 47, 55, 56, 57, 58, 59, 60, 61, 62, 63, 64, 65, 66, 67, 68, 69, 70, 71, 72, 73, 74, 75, 76, 77, 78] (by decide +kernel) (by decide +kernel)
set_option maxRecDepth 20000 in
theorem gX5_trap_X5_findCells : GoodIn wsX5_trap (wsV RX5 124 RX5 yX5_findCells wsX5_findCells) := goodIn_app (goodIn_of _ (by decide +kernel)) ggX5_trap_X5_findCells
set_option maxRecDepth 20000 in
theorem ggX5_trap_X5_allPlates : GoodIn wsX5_trap wsX5_allPlates := goodIn_r _ [51, 4, 5, 21, 52, 53, 9, 54, 55, 56, 57, 58, 59, 60, 61, 62, 63, 64, 65, 66, 67, 68, 69, 70, 71, 72, 73, 74, 75, 76, 77, 78] (by decide +kernel) (by decide +kernel)
set_option maxRecDepth 20000 in
theorem gX5_trap_X5_allPlates : GoodIn wsX5_trap (wsV RX5 136 RX5 yX5_allPlates wsX5_allPlates) := goodIn_app (goodIn_of _ (by decide +kernel)) ggX5_trap_X5_allPlates
set_option maxRecDepth 20000 in
theorem ggX5_trap_X5_ones : GoodIn wsX5_trap wsX5_ones := goodIn_r _ [54] (by decide +kernel) (by decide +kernel)
set_option maxRecDepth 20000 in
theorem gX5_trap_X5_ones : GoodIn wsX5_trap (va_wsS RX5 133 yX5_ones wsX5_ones) := goodIn_app (goodIn_of _ (by decide +kernel)) ggX5_trap_X5_ones
theorem dX5_trap_0 : decode cX5_trap 0 = .ok (.aload_n 0, 1) := by decide +kernel
theorem dX5_trap_1 : decode cX5_trap 1 = .ok (.iconst 0, 1) := by decide +kernel
theorem dX5_trap_2 : decode cX5_trap 2 = .ok (.putfield 77, 3) := by decide +kernel
theorem dX5_trap_5 : decode cX5_trap 5 = .ok (.iload_n 1, 1) := by decide +kernel
theorem dX5_trap_6 : decode cX5_trap 6 = .ok (.iconst 0, 1) := by decide +kernel
theorem dX5_trap_7 : decode cX5_trap 7 = .ok (.bipush 6, 2) := by decide +kernel
theorem dX5_trap_9 : decode cX5_trap 9 = .ok (.invokestatic 85, 3) := by decide +kernel
theorem dX5_trap_12 : decode cX5_trap 12 = .ok (.ifCond .ne 5, 3) := by decide +kernel
theorem dX5_trap_15 : decode cX5_trap 15 = .ok (.iconst (-1), 1) := by decide +kernel
theorem dX5_trap_16 : decode cX5_trap 16 = .ok (.ireturn, 1) := by decide +kernel
theorem dX5_trap_17 : decode cX5_trap 17 = .ok (.aload_n 0, 1) := by decide +kernel
theorem dX5_trap_18 : decode cX5_trap 18 = .ok (.getfield 49, 3) := by decide +kernel
theorem dX5_trap_21 : decode cX5_trap 21 = .ok (.iconst 0, 1) := by decide +kernel
theorem dX5_trap_22 : decode cX5_trap 22 = .ok (.iload_n 1, 1) := by decide +kernel
theorem dX5_trap_23 : decode cX5_trap 23 = .ok (.iastore, 1) := by decide +kernel
theorem dX5_trap_24 : decode cX5_trap 24 = .ok (.aload_n 0, 1) := by decide +kernel
theorem dX5_trap_25 : decode cX5_trap 25 = .ok (.iconst 0, 1) := by decide +kernel
theorem dX5_trap_26 : decode cX5_trap 26 = .ok (.putfield 89, 3) := by decide +kernel
theorem dX5_trap_29 : decode cX5_trap 29 = .ok (.aload_n 0, 1) := by decide +kernel
theorem dX5_trap_30 : decode cX5_trap 30 = .ok (.invokevirtual 124, 3) := by decide +kernel
theorem dX5_trap_33 : decode cX5_trap 33 = .ok (.aload_n 0, 1) := by decide +kernel
theorem dX5_trap_34 : decode cX5_trap 34 = .ok (.invokevirtual 136, 3) := by decide +kernel
theorem dX5_trap_37 : decode cX5_trap 37 = .ok (.istore_n 2, 1) := by decide +kernel
theorem dX5_trap_38 : decode cX5_trap 38 = .ok (.iconst 0, 1) := by decide +kernel
theorem dX5_trap_39 : decode cX5_trap 39 = .ok (.istore_n 3, 1) := by decide +kernel
theorem dX5_trap_40 : decode cX5_trap 40 = .ok (.iload_n 3, 1) := by decide +kernel
theorem dX5_trap_41 : decode cX5_trap 41 = .ok (.aload_n 0, 1) := by decide +kernel
theorem dX5_trap_42 : decode cX5_trap 42 = .ok (.getfield 7, 3) := by decide +kernel
theorem dX5_trap_45 : decode cX5_trap 45 = .ok (.iconst 0, 1) := by decide +kernel
theorem dX5_trap_46 : decode cX5_trap 46 = .ok (.iaload, 1) := by decide +kernel
theorem dX5_trap_47 : decode cX5_trap 47 = .ok (.if_icmp .ge 47, 3) := by decide +kernel
theorem dX5_trap_50 : decode cX5_trap 50 = .ok (.iconst 0, 1) := by decide +kernel
theorem dX5_trap_51 : decode cX5_trap 51 = .ok (.istore 4, 2) := by decide +kernel
theorem dX5_trap_53 : decode cX5_trap 53 = .ok (.iload 4, 2) := by decide +kernel
theorem dX5_trap_55 : decode cX5_trap 55 = .ok (.aload_n 0, 1) := by decide +kernel
theorem dX5_trap_56 : decode cX5_trap 56 = .ok (.getfield 13, 3) := by decide +kernel
theorem dX5_trap_59 : decode cX5_trap 59 = .ok (.iconst 0, 1) := by decide +kernel
theorem dX5_trap_60 : decode cX5_trap 60 = .ok (.iaload, 1) := by decide +kernel
theorem dX5_trap_61 : decode cX5_trap 61 = .ok (.if_icmp .ge 27, 3) := by decide +kernel
theorem dX5_trap_64 : decode cX5_trap 64 = .ok (.iload_n 2, 1) := by decide +kernel
theorem dX5_trap_65 : decode cX5_trap 65 = .ok (.aload_n 0, 1) := by decide +kernel
theorem dX5_trap_66 : decode cX5_trap 66 = .ok (.getfield 64, 3) := by decide +kernel
theorem dX5_trap_69 : decode cX5_trap 69 = .ok (.bipush 16, 2) := by decide +kernel
theorem dX5_trap_71 : decode cX5_trap 71 = .ok (.iload_n 3, 1) := by decide +kernel
theorem dX5_trap_72 : decode cX5_trap 72 = .ok (.imul, 1) := by decide +kernel
theorem dX5_trap_73 : decode cX5_trap 73 = .ok (.iload 4, 2) := by decide +kernel
theorem dX5_trap_75 : decode cX5_trap 75 = .ok (.iadd, 1) := by decide +kernel
theorem dX5_trap_76 : decode cX5_trap 76 = .ok (.iaload, 1) := by decide +kernel
theorem dX5_trap_77 : decode cX5_trap 77 = .ok (.invokestatic 133, 3) := by decide +kernel
theorem dX5_trap_80 : decode cX5_trap 80 = .ok (.isub, 1) := by decide +kernel
theorem dX5_trap_81 : decode cX5_trap 81 = .ok (.istore_n 2, 1) := by decide +kernel
theorem dX5_trap_82 : decode cX5_trap 82 = .ok (.iinc 4 1, 3) := by decide +kernel
theorem dX5_trap_85 : decode cX5_trap 85 = .ok (.goto (-32), 3) := by decide +kernel
theorem dX5_trap_88 : decode cX5_trap 88 = .ok (.iinc 3 1, 3) := by decide +kernel
theorem dX5_trap_91 : decode cX5_trap 91 = .ok (.goto (-51), 3) := by decide +kernel
theorem dX5_trap_94 : decode cX5_trap 94 = .ok (.iload_n 2, 1) := by decide +kernel
theorem dX5_trap_95 : decode cX5_trap 95 = .ok (.ireturn, 1) := by decide +kernel
set_option maxRecDepth 20000 in
theorem ggX5_off_X5_in : GoodIn wsX5_off wsX5_in := goodIn_r _ [7] (by decide +kernel) (by decide +kernel)
set_option maxRecDepth 20000 in
theorem gX5_off_X5_in : GoodIn wsX5_off (va_wsS RX5 85 yX5_in wsX5_in) := goodIn_app (goodIn_of _ (by decide +kernel)) ggX5_off_X5_in
theorem dX5_off_0 : decode cX5_off 0 = .ok (.aload_n 0, 1) := by decide +kernel
theorem dX5_off_1 : decode cX5_off 1 = .ok (.iconst 0, 1) := by decide +kernel
theorem dX5_off_2 : decode cX5_off 2 = .ok (.putfield 77, 3) := by decide +kernel
theorem dX5_off_5 : decode cX5_off 5 = .ok (.iload_n 1, 1) := by decide +kernel
theorem dX5_off_6 : decode cX5_off 6 = .ok (.iconst 0, 1) := by decide +kernel
theorem dX5_off_7 : decode cX5_off 7 = .ok (.iconst 3, 1) := by decide +kernel
theorem dX5_off_8 : decode cX5_off 8 = .ok (.invokestatic 85, 3) := by decide +kernel
theorem dX5_off_11 : decode cX5_off 11 = .ok (.ifCond .eq 25, 3) := by decide +kernel
theorem dX5_off_14 : decode cX5_off 14 = .ok (.iload_n 2, 1) := by decide +kernel
theorem dX5_off_15 : decode cX5_off 15 = .ok (.bipush (-6), 2) := by decide +kernel
theorem dX5_off_17 : decode cX5_off 17 = .ok (.bipush 6, 2) := by decide +kernel
theorem dX5_off_19 : decode cX5_off 19 = .ok (.invokestatic 85, 3) := by decide +kernel
theorem dX5_off_22 : decode cX5_off 22 = .ok (.ifCond .eq 14, 3) := by decide +kernel
theorem dX5_off_25 : decode cX5_off 25 = .ok (.iload_n 3, 1) := by decide +kernel
theorem dX5_off_26 : decode cX5_off 26 = .ok (.bipush (-6), 2) := by decide +kernel
theorem dX5_off_28 : decode cX5_off 28 = .ok (.bipush 6, 2) := by decide +kernel
theorem dX5_off_30 : decode cX5_off 30 = .ok (.invokestatic 85, 3) := by decide +kernel
theorem dX5_off_33 : decode cX5_off 33 = .ok (.ifCond .ne 5, 3) := by decide +kernel
theorem dX5_off_36 : decode cX5_off 36 = .ok (.iconst 0, 1) := by decide +kernel
theorem dX5_off_37 : decode cX5_off 37 = .ok (.ireturn, 1) := by decide +kernel
theorem dX5_off_38 : decode cX5_off 38 = .ok (.aload_n 0, 1) := by decide +kernel
theorem dX5_off_39 : decode cX5_off 39 = .ok (.getfield 52, 3) := by decide +kernel
theorem dX5_off_42 : decode cX5_off 42 = .ok (.iload_n 1, 1) := by decide +kernel
theorem dX5_off_43 : decode cX5_off 43 = .ok (.iload_n 2, 1) := by decide +kernel
theorem dX5_off_44 : decode cX5_off 44 = .ok (.iastore, 1) := by decide +kernel
theorem dX5_off_45 : decode cX5_off 45 = .ok (.aload_n 0, 1) := by decide +kernel
theorem dX5_off_46 : decode cX5_off 46 = .ok (.getfield 55, 3) := by decide +kernel
theorem dX5_off_49 : decode cX5_off 49 = .ok (.iload_n 1, 1) := by decide +kernel
theorem dX5_off_50 : decode cX5_off 50 = .ok (.iload_n 3, 1) := by decide +kernel
theorem dX5_off_51 : decode cX5_off 51 = .ok (.iastore, 1) := by decide +kernel
theorem dX5_off_52 : decode cX5_off 52 = .ok (.iconst 1, 1) := by decide +kernel
theorem dX5_off_53 : decode cX5_off 53 = .ok (.ireturn, 1) := by decide +kernel
set_option maxRecDepth 20000 in
theorem ggX5_creep_X5_in : GoodIn wsX5_creep wsX5_in := goodIn_r _ [6] (by decide +kernel) (by decide +kernel)
set_option maxRecDepth 20000 in
theorem gX5_creep_X5_in : GoodIn wsX5_creep (va_wsS RX5 85 yX5_in wsX5_in) := goodIn_app (goodIn_of _ (by decide +kernel)) ggX5_creep_X5_in
theorem dX5_creep_0 : decode cX5_creep 0 = .ok (.aload_n 0, 1) := by decide +kernel
theorem dX5_creep_1 : decode cX5_creep 1 = .ok (.iconst 0, 1) := by decide +kernel
theorem dX5_creep_2 : decode cX5_creep 2 = .ok (.putfield 77, 3) := by decide +kernel
theorem dX5_creep_5 : decode cX5_creep 5 = .ok (.iload_n 1, 1) := by decide +kernel
theorem dX5_creep_6 : decode cX5_creep 6 = .ok (.bipush (-8), 2) := by decide +kernel
theorem dX5_creep_8 : decode cX5_creep 8 = .ok (.bipush 8, 2) := by decide +kernel
theorem dX5_creep_10 : decode cX5_creep 10 = .ok (.invokestatic 85, 3) := by decide +kernel
theorem dX5_creep_13 : decode cX5_creep 13 = .ok (.ifCond .ne 5, 3) := by decide +kernel
theorem dX5_creep_16 : decode cX5_creep 16 = .ok (.iconst 0, 1) := by decide +kernel
theorem dX5_creep_17 : decode cX5_creep 17 = .ok (.ireturn, 1) := by decide +kernel
theorem dX5_creep_18 : decode cX5_creep 18 = .ok (.aload_n 0, 1) := by decide +kernel
theorem dX5_creep_19 : decode cX5_creep 19 = .ok (.getfield 58, 3) := by decide +kernel
theorem dX5_creep_22 : decode cX5_creep 22 = .ok (.iconst 0, 1) := by decide +kernel
theorem dX5_creep_23 : decode cX5_creep 23 = .ok (.iload_n 1, 1) := by decide +kernel
theorem dX5_creep_24 : decode cX5_creep 24 = .ok (.iastore, 1) := by decide +kernel
theorem dX5_creep_25 : decode cX5_creep 25 = .ok (.iconst 1, 1) := by decide +kernel
theorem dX5_creep_26 : decode cX5_creep 26 = .ok (.ireturn, 1) := by decide +kernel
theorem dX5_right_0 : decode cX5_right 0 = .ok (.aload_n 0, 1) := by decide +kernel
theorem dX5_right_1 : decode cX5_right 1 = .ok (.iconst 0, 1) := by decide +kernel
theorem dX5_right_2 : decode cX5_right 2 = .ok (.putfield 77, 3) := by decide +kernel
theorem dX5_right_5 : decode cX5_right 5 = .ok (.iconst 0, 1) := by decide +kernel
theorem dX5_right_6 : decode cX5_right 6 = .ok (.istore_n 1, 1) := by decide +kernel
theorem dX5_right_7 : decode cX5_right 7 = .ok (.iload_n 1, 1) := by decide +kernel
theorem dX5_right_8 : decode cX5_right 8 = .ok (.iconst 4, 1) := by decide +kernel
theorem dX5_right_9 : decode cX5_right 9 = .ok (.if_icmp .ge 23, 3) := by decide +kernel
theorem dX5_right_12 : decode cX5_right 12 = .ok (.aload_n 0, 1) := by decide +kernel
theorem dX5_right_13 : decode cX5_right 13 = .ok (.getfield 52, 3) := by decide +kernel
theorem dX5_right_16 : decode cX5_right 16 = .ok (.iload_n 1, 1) := by decide +kernel
theorem dX5_right_17 : decode cX5_right 17 = .ok (.iconst 0, 1) := by decide +kernel
theorem dX5_right_18 : decode cX5_right 18 = .ok (.iastore, 1) := by decide +kernel
theorem dX5_right_19 : decode cX5_right 19 = .ok (.aload_n 0, 1) := by decide +kernel
theorem dX5_right_20 : decode cX5_right 20 = .ok (.getfield 55, 3) := by decide +kernel
theorem dX5_right_23 : decode cX5_right 23 = .ok (.iload_n 1, 1) := by decide +kernel
theorem dX5_right_24 : decode cX5_right 24 = .ok (.iconst 0, 1) := by decide +kernel
theorem dX5_right_25 : decode cX5_right 25 = .ok (.iastore, 1) := by decide +kernel
theorem dX5_right_26 : decode cX5_right 26 = .ok (.iinc 1 1, 3) := by decide +kernel
theorem dX5_right_29 : decode cX5_right 29 = .ok (.goto (-22), 3) := by decide +kernel
theorem dX5_right_32 : decode cX5_right 32 = .ok (.aload_n 0, 1) := by decide +kernel
theorem dX5_right_33 : decode cX5_right 33 = .ok (.getfield 58, 3) := by decide +kernel
theorem dX5_right_36 : decode cX5_right 36 = .ok (.iconst 0, 1) := by decide +kernel
theorem dX5_right_37 : decode cX5_right 37 = .ok (.iconst 0, 1) := by decide +kernel
theorem dX5_right_38 : decode cX5_right 38 = .ok (.iastore, 1) := by decide +kernel
theorem dX5_right_39 : decode cX5_right 39 = .ok (.return_, 1) := by decide +kernel
theorem dX5_size_0 : decode cX5_size 0 = .ok (.iload_n 0, 1) := by decide +kernel
theorem dX5_size_1 : decode cX5_size 1 = .ok (.ifCond .ge 8, 3) := by decide +kernel
theorem dX5_size_4 : decode cX5_size 4 = .ok (.iload_n 0, 1) := by decide +kernel
theorem dX5_size_5 : decode cX5_size 5 = .ok (.ineg, 1) := by decide +kernel
theorem dX5_size_6 : decode cX5_size 6 = .ok (.goto 4, 3) := by decide +kernel
theorem dX5_size_9 : decode cX5_size 9 = .ok (.iload_n 0, 1) := by decide +kernel
theorem dX5_size_10 : decode cX5_size 10 = .ok (.ireturn, 1) := by decide +kernel
set_option maxRecDepth 20000 in
theorem ggX5_reach_X5_size : GoodIn wsX5_reach wsX5_size := goodIn_r _ [7] (by decide +kernel) (by decide +kernel)
set_option maxRecDepth 20000 in
theorem gX5_reach_X5_size : GoodIn wsX5_reach (va_wsS RX5 140 yX5_size wsX5_size) := goodIn_app (goodIn_of _ (by decide +kernel)) ggX5_reach_X5_size
set_option maxRecDepth 20000 in
theorem ggX5_reach_X5_creepAt : GoodIn wsX5_reach wsX5_creepAt := goodIn_r _ [11, 12, 13, 14, 15, 16, 17, 18, 19, 20, 21, 22, 23, 24, 25, 26, 27, 28, 29, 30, 31, 32, 33, 34, 35, 36] (by decide +kernel) (by decide +kernel)
set_option maxRecDepth 20000 in
theorem gX5_reach_X5_creepAt : GoodIn wsX5_reach (wsV RX5 117 RX5 yX5_creepAt wsX5_creepAt) := goodIn_app (goodIn_of _ (by decide +kernel)) ggX5_reach_X5_creepAt
theorem dX5_reach_0 : decode cX5_reach 0 = .ok (.iconst 0, 1) := by decide +kernel
theorem dX5_reach_1 : decode cX5_reach 1 = .ok (.istore_n 1, 1) := by decide +kernel
theorem dX5_reach_2 : decode cX5_reach 2 = .ok (.iconst 0, 1) := by decide +kernel
theorem dX5_reach_3 : decode cX5_reach 3 = .ok (.istore_n 2, 1) := by decide +kernel
theorem dX5_reach_4 : decode cX5_reach 4 = .ok (.iload_n 2, 1) := by decide +kernel
theorem dX5_reach_5 : decode cX5_reach 5 = .ok (.iconst 4, 1) := by decide +kernel
theorem dX5_reach_6 : decode cX5_reach 6 = .ok (.if_icmp .ge 84, 3) := by decide +kernel
theorem dX5_reach_9 : decode cX5_reach 9 = .ok (.aload_n 0, 1) := by decide +kernel
theorem dX5_reach_10 : decode cX5_reach 10 = .ok (.getfield 52, 3) := by decide +kernel
theorem dX5_reach_13 : decode cX5_reach 13 = .ok (.iload_n 2, 1) := by decide +kernel
theorem dX5_reach_14 : decode cX5_reach 14 = .ok (.iaload, 1) := by decide +kernel
theorem dX5_reach_15 : decode cX5_reach 15 = .ok (.invokestatic 140, 3) := by decide +kernel
theorem dX5_reach_18 : decode cX5_reach 18 = .ok (.iload_n 1, 1) := by decide +kernel
theorem dX5_reach_19 : decode cX5_reach 19 = .ok (.if_icmp .le 15, 3) := by decide +kernel
theorem dX5_reach_22 : decode cX5_reach 22 = .ok (.aload_n 0, 1) := by decide +kernel
theorem dX5_reach_23 : decode cX5_reach 23 = .ok (.getfield 52, 3) := by decide +kernel
theorem dX5_reach_26 : decode cX5_reach 26 = .ok (.iload_n 2, 1) := by decide +kernel
theorem dX5_reach_27 : decode cX5_reach 27 = .ok (.iaload, 1) := by decide +kernel
theorem dX5_reach_28 : decode cX5_reach 28 = .ok (.invokestatic 140, 3) := by decide +kernel
theorem dX5_reach_31 : decode cX5_reach 31 = .ok (.goto 4, 3) := by decide +kernel
theorem dX5_reach_34 : decode cX5_reach 34 = .ok (.iload_n 1, 1) := by decide +kernel
theorem dX5_reach_35 : decode cX5_reach 35 = .ok (.istore_n 1, 1) := by decide +kernel
theorem dX5_reach_36 : decode cX5_reach 36 = .ok (.iconst 0, 1) := by decide +kernel
theorem dX5_reach_37 : decode cX5_reach 37 = .ok (.istore_n 3, 1) := by decide +kernel
theorem dX5_reach_38 : decode cX5_reach 38 = .ok (.iload_n 3, 1) := by decide +kernel
theorem dX5_reach_39 : decode cX5_reach 39 = .ok (.aload_n 0, 1) := by decide +kernel
theorem dX5_reach_40 : decode cX5_reach 40 = .ok (.getfield 13, 3) := by decide +kernel
theorem dX5_reach_43 : decode cX5_reach 43 = .ok (.iconst 0, 1) := by decide +kernel
theorem dX5_reach_44 : decode cX5_reach 44 = .ok (.iaload, 1) := by decide +kernel
theorem dX5_reach_45 : decode cX5_reach 45 = .ok (.if_icmp .ge 39, 3) := by decide +kernel
theorem dX5_reach_48 : decode cX5_reach 48 = .ok (.aload_n 0, 1) := by decide +kernel
theorem dX5_reach_49 : decode cX5_reach 49 = .ok (.getfield 55, 3) := by decide +kernel
theorem dX5_reach_52 : decode cX5_reach 52 = .ok (.iload_n 2, 1) := by decide +kernel
theorem dX5_reach_53 : decode cX5_reach 53 = .ok (.iaload, 1) := by decide +kernel
theorem dX5_reach_54 : decode cX5_reach 54 = .ok (.aload_n 0, 1) := by decide +kernel
theorem dX5_reach_55 : decode cX5_reach 55 = .ok (.iload_n 3, 1) := by decide +kernel
theorem dX5_reach_56 : decode cX5_reach 56 = .ok (.invokevirtual 117, 3) := by decide +kernel
theorem dX5_reach_59 : decode cX5_reach 59 = .ok (.iadd, 1) := by decide +kernel
theorem dX5_reach_60 : decode cX5_reach 60 = .ok (.invokestatic 140, 3) := by decide +kernel
theorem dX5_reach_63 : decode cX5_reach 63 = .ok (.istore 4, 2) := by decide +kernel
theorem dX5_reach_65 : decode cX5_reach 65 = .ok (.iload 4, 2) := by decide +kernel
theorem dX5_reach_67 : decode cX5_reach 67 = .ok (.iload_n 1, 1) := by decide +kernel
theorem dX5_reach_68 : decode cX5_reach 68 = .ok (.if_icmp .le 8, 3) := by decide +kernel
theorem dX5_reach_71 : decode cX5_reach 71 = .ok (.iload 4, 2) := by decide +kernel
theorem dX5_reach_73 : decode cX5_reach 73 = .ok (.goto 4, 3) := by decide +kernel
theorem dX5_reach_76 : decode cX5_reach 76 = .ok (.iload_n 1, 1) := by decide +kernel
theorem dX5_reach_77 : decode cX5_reach 77 = .ok (.istore_n 1, 1) := by decide +kernel
theorem dX5_reach_78 : decode cX5_reach 78 = .ok (.iinc 3 1, 3) := by decide +kernel
theorem dX5_reach_81 : decode cX5_reach 81 = .ok (.goto (-43), 3) := by decide +kernel
theorem dX5_reach_84 : decode cX5_reach 84 = .ok (.iinc 2 1, 3) := by decide +kernel
theorem dX5_reach_87 : decode cX5_reach 87 = .ok (.goto (-83), 3) := by decide +kernel
theorem dX5_reach_90 : decode cX5_reach 90 = .ok (.iload_n 1, 1) := by decide +kernel
theorem dX5_reach_91 : decode cX5_reach 91 = .ok (.ireturn, 1) := by decide +kernel
set_option maxRecDepth 20000 in
theorem ggX5_count_X5_findCells : GoodIn wsX5_count wsX5_findCells := goodIn_r _ [12, 13, 4, 5, 14, 2, 15, 7, 16, 17, 18, 19, 20, 21, 22, 11, 23, 24, 25, 26, 27, 28, 29, 30, 31, 32, 33, 34, 35, 3, 36, 37, 38, 39, 40, 41, 42, 43, 44, 45, 46, 47, 48, 77, 78, 79, 80, 81, 82, 83, 84, 85, 86, 87, 88, 89, 90, 91, 92, 93, 94, 95, 96, 97, 98, 99, 100] (by decide +kernel) (by decide +kernel)
set_option maxRecDepth 20000 in
theorem gX5_count_X5_findCells : GoodIn wsX5_count (wsV RX5 124 RX5 yX5_findCells wsX5_findCells) := goodIn_app (goodIn_of _ (by decide +kernel)) ggX5_count_X5_findCells
set_option maxRecDepth 20000 in
theorem ggX5_count_X5_reach : GoodIn wsX5_count wsX5_reach := goodIn_r _ [52, 53, 5, 54, 55, 56, 11, 57, 58, 59, 60, 61, 6, 77, 78, 79, 80, 81, 82, 83, 84, 85, 86, 87, 88, 89, 90, 91, 92, 93, 94, 95, 96, 97, 98, 99, 100] (by decide +kernel) (by decide +kernel)
set_option maxRecDepth 20000 in
theorem gX5_count_X5_reach : GoodIn wsX5_count (wsV RX5 143 RX5 yX5_reach wsX5_reach) := goodIn_app (goodIn_of _ (by decide +kernel)) ggX5_count_X5_reach
set_option maxRecDepth 20000 in
theorem ggX5_count_X5_allPlates : GoodIn wsX5_count wsX5_allPlates := goodIn_r _ [65, 4, 5, 19, 66, 67, 11, 68, 77, 78, 79, 80, 81, 82, 83, 84, 85, 86, 87, 88, 89, 90, 91, 92, 93, 94, 95, 96, 97, 98, 99, 100] (by decide +kernel) (by decide +kernel)
set_option maxRecDepth 20000 in
theorem gX5_count_X5_allPlates : GoodIn wsX5_count (wsV RX5 136 RX5 yX5_allPlates wsX5_allPlates) := goodIn_app (goodIn_of _ (by decide +kernel)) ggX5_count_X5_allPlates
set_option maxRecDepth 20000 in
theorem ggX5_count_X5_in : GoodIn wsX5_count wsX5_in := goodIn_r _ [31] (by decide +kernel) (by decide +kernel)
set_option maxRecDepth 20000 in
theorem gX5_count_X5_in : GoodIn wsX5_count (va_wsS RX5 85 yX5_in wsX5_in) := goodIn_app (goodIn_of _ (by decide +kernel)) ggX5_count_X5_in
set_option maxRecDepth 20000 in
theorem ggX5_count_X5_shown : GoodIn wsX5_count wsX5_shown := goodIn_r _ [72, 53, 54, 58, 59, 60, 11, 61, 6, 73, 74, 75, 76, 19, 36, 37, 38, 39, 4, 5, 29, 30, 31, 77, 78, 79, 80, 81, 82, 83, 84, 85, 86, 87, 88, 89, 90, 91, 92, 93, 94, 95, 96, 97, 98, 99, 100] (by decide +kernel) (by decide +kernel)
set_option maxRecDepth 20000 in
theorem gX5_count_X5_shown : GoodIn wsX5_count (wsV RX5 127 RX5 yX5_shown wsX5_shown) := goodIn_app (goodIn_of _ (by decide +kernel)) ggX5_count_X5_shown
set_option maxRecDepth 20000 in
theorem ggX5_count_X5_ones : GoodIn wsX5_count wsX5_ones := goodIn_r _ [68] (by decide +kernel) (by decide +kernel)
set_option maxRecDepth 20000 in
theorem gX5_count_X5_ones : GoodIn wsX5_count (va_wsS RX5 133 yX5_ones wsX5_ones) := goodIn_app (goodIn_of _ (by decide +kernel)) ggX5_count_X5_ones
theorem dX5_count_0 : decode cX5_count 0 = .ok (.aload_n 0, 1) := by decide +kernel
theorem dX5_count_1 : decode cX5_count 1 = .ok (.iconst 0, 1) := by decide +kernel
theorem dX5_count_2 : decode cX5_count 2 = .ok (.putfield 77, 3) := by decide +kernel
theorem dX5_count_5 : decode cX5_count 5 = .ok (.aload_n 0, 1) := by decide +kernel
theorem dX5_count_6 : decode cX5_count 6 = .ok (.invokevirtual 124, 3) := by decide +kernel
theorem dX5_count_9 : decode cX5_count 9 = .ok (.iload_n 1, 1) := by decide +kernel
theorem dX5_count_10 : decode cX5_count 10 = .ok (.tableswitch 91 3 10 #[46, 51, 91, 56, 63, 70, 77, 84], 46) := by decide +kernel
theorem dX5_count_56 : decode cX5_count 56 = .ok (.aload_n 0, 1) := by decide +kernel
theorem dX5_count_57 : decode cX5_count 57 = .ok (.invokevirtual 143, 3) := by decide +kernel
theorem dX5_count_60 : decode cX5_count 60 = .ok (.ireturn, 1) := by decide +kernel
theorem dX5_count_61 : decode cX5_count 61 = .ok (.aload_n 0, 1) := by decide +kernel
theorem dX5_count_62 : decode cX5_count 62 = .ok (.invokevirtual 136, 3) := by decide +kernel
theorem dX5_count_65 : decode cX5_count 65 = .ok (.ireturn, 1) := by decide +kernel
theorem dX5_count_66 : decode cX5_count 66 = .ok (.aload_n 0, 1) := by decide +kernel
theorem dX5_count_67 : decode cX5_count 67 = .ok (.getfield 22, 3) := by decide +kernel
theorem dX5_count_70 : decode cX5_count 70 = .ok (.iconst 0, 1) := by decide +kernel
theorem dX5_count_71 : decode cX5_count 71 = .ok (.iaload, 1) := by decide +kernel
theorem dX5_count_72 : decode cX5_count 72 = .ok (.ireturn, 1) := by decide +kernel
theorem dX5_count_73 : decode cX5_count 73 = .ok (.aload_n 0, 1) := by decide +kernel
theorem dX5_count_74 : decode cX5_count 74 = .ok (.getfield 49, 3) := by decide +kernel
theorem dX5_count_77 : decode cX5_count 77 = .ok (.iconst 0, 1) := by decide +kernel
theorem dX5_count_78 : decode cX5_count 78 = .ok (.iaload, 1) := by decide +kernel
theorem dX5_count_79 : decode cX5_count 79 = .ok (.ireturn, 1) := by decide +kernel
theorem dX5_count_80 : decode cX5_count 80 = .ok (.aload_n 0, 1) := by decide +kernel
theorem dX5_count_81 : decode cX5_count 81 = .ok (.getfield 7, 3) := by decide +kernel
theorem dX5_count_84 : decode cX5_count 84 = .ok (.iconst 0, 1) := by decide +kernel
theorem dX5_count_85 : decode cX5_count 85 = .ok (.iaload, 1) := by decide +kernel
theorem dX5_count_86 : decode cX5_count 86 = .ok (.ireturn, 1) := by decide +kernel
theorem dX5_count_87 : decode cX5_count 87 = .ok (.aload_n 0, 1) := by decide +kernel
theorem dX5_count_88 : decode cX5_count 88 = .ok (.getfield 13, 3) := by decide +kernel
theorem dX5_count_91 : decode cX5_count 91 = .ok (.iconst 0, 1) := by decide +kernel
theorem dX5_count_92 : decode cX5_count 92 = .ok (.iaload, 1) := by decide +kernel
theorem dX5_count_93 : decode cX5_count 93 = .ok (.ireturn, 1) := by decide +kernel
theorem dX5_count_94 : decode cX5_count 94 = .ok (.aload_n 0, 1) := by decide +kernel
theorem dX5_count_95 : decode cX5_count 95 = .ok (.getfield 58, 3) := by decide +kernel
theorem dX5_count_98 : decode cX5_count 98 = .ok (.iconst 0, 1) := by decide +kernel
theorem dX5_count_99 : decode cX5_count 99 = .ok (.iaload, 1) := by decide +kernel
theorem dX5_count_100 : decode cX5_count 100 = .ok (.ireturn, 1) := by decide +kernel
theorem dX5_count_101 : decode cX5_count 101 = .ok (.iload_n 1, 1) := by decide +kernel
theorem dX5_count_102 : decode cX5_count 102 = .ok (.iconst 0, 1) := by decide +kernel
theorem dX5_count_103 : decode cX5_count 103 = .ok (.iconst 5, 1) := by decide +kernel
theorem dX5_count_104 : decode cX5_count 104 = .ok (.invokestatic 85, 3) := by decide +kernel
theorem dX5_count_107 : decode cX5_count 107 = .ok (.ifCond .ne 5, 3) := by decide +kernel
theorem dX5_count_110 : decode cX5_count 110 = .ok (.iconst (-1), 1) := by decide +kernel
theorem dX5_count_111 : decode cX5_count 111 = .ok (.ireturn, 1) := by decide +kernel
theorem dX5_count_112 : decode cX5_count 112 = .ok (.iconst 0, 1) := by decide +kernel
theorem dX5_count_113 : decode cX5_count 113 = .ok (.istore_n 2, 1) := by decide +kernel
theorem dX5_count_114 : decode cX5_count 114 = .ok (.iconst 0, 1) := by decide +kernel
theorem dX5_count_115 : decode cX5_count 115 = .ok (.istore_n 3, 1) := by decide +kernel
theorem dX5_count_116 : decode cX5_count 116 = .ok (.iload_n 3, 1) := by decide +kernel
theorem dX5_count_117 : decode cX5_count 117 = .ok (.aload_n 0, 1) := by decide +kernel
theorem dX5_count_118 : decode cX5_count 118 = .ok (.getfield 7, 3) := by decide +kernel
theorem dX5_count_121 : decode cX5_count 121 = .ok (.iconst 0, 1) := by decide +kernel
theorem dX5_count_122 : decode cX5_count 122 = .ok (.iaload, 1) := by decide +kernel
theorem dX5_count_123 : decode cX5_count 123 = .ok (.if_icmp .ge 141, 3) := by decide +kernel
theorem dX5_count_126 : decode cX5_count 126 = .ok (.iconst 0, 1) := by decide +kernel
theorem dX5_count_127 : decode cX5_count 127 = .ok (.istore 4, 2) := by decide +kernel
theorem dX5_count_129 : decode cX5_count 129 = .ok (.iload 4, 2) := by decide +kernel
theorem dX5_count_131 : decode cX5_count 131 = .ok (.aload_n 0, 1) := by decide +kernel
theorem dX5_count_132 : decode cX5_count 132 = .ok (.getfield 13, 3) := by decide +kernel
theorem dX5_count_135 : decode cX5_count 135 = .ok (.iconst 0, 1) := by decide +kernel
theorem dX5_count_136 : decode cX5_count 136 = .ok (.iaload, 1) := by decide +kernel
theorem dX5_count_137 : decode cX5_count 137 = .ok (.if_icmp .ge 121, 3) := by decide +kernel
theorem dX5_count_140 : decode cX5_count 140 = .ok (.aload_n 0, 1) := by decide +kernel
theorem dX5_count_141 : decode cX5_count 141 = .ok (.getfield 64, 3) := by decide +kernel
theorem dX5_count_144 : decode cX5_count 144 = .ok (.bipush 16, 2) := by decide +kernel
theorem dX5_count_146 : decode cX5_count 146 = .ok (.iload_n 3, 1) := by decide +kernel
theorem dX5_count_147 : decode cX5_count 147 = .ok (.imul, 1) := by decide +kernel
theorem dX5_count_148 : decode cX5_count 148 = .ok (.iload 4, 2) := by decide +kernel
theorem dX5_count_150 : decode cX5_count 150 = .ok (.iadd, 1) := by decide +kernel
theorem dX5_count_151 : decode cX5_count 151 = .ok (.iaload, 1) := by decide +kernel
theorem dX5_count_152 : decode cX5_count 152 = .ok (.istore 5, 2) := by decide +kernel
theorem dX5_count_154 : decode cX5_count 154 = .ok (.aload_n 0, 1) := by decide +kernel
theorem dX5_count_155 : decode cX5_count 155 = .ok (.iload_n 3, 1) := by decide +kernel
theorem dX5_count_156 : decode cX5_count 156 = .ok (.iload 4, 2) := by decide +kernel
theorem dX5_count_158 : decode cX5_count 158 = .ok (.invokevirtual 127, 3) := by decide +kernel
theorem dX5_count_161 : decode cX5_count 161 = .ok (.istore 6, 2) := by decide +kernel
theorem dX5_count_163 : decode cX5_count 163 = .ok (.iload_n 1, 1) := by decide +kernel
theorem dX5_count_164 : decode cX5_count 164 = .ok (.ifCond .ne 16, 3) := by decide +kernel
theorem dX5_count_167 : decode cX5_count 167 = .ok (.iload 5, 2) := by decide +kernel
theorem dX5_count_169 : decode cX5_count 169 = .ok (.ifCond .eq 7, 3) := by decide +kernel
theorem dX5_count_172 : decode cX5_count 172 = .ok (.iconst 1, 1) := by decide +kernel
theorem dX5_count_173 : decode cX5_count 173 = .ok (.goto 64, 3) := by decide +kernel
theorem dX5_count_176 : decode cX5_count 176 = .ok (.iconst 0, 1) := by decide +kernel
theorem dX5_count_177 : decode cX5_count 177 = .ok (.goto 60, 3) := by decide +kernel
theorem dX5_count_180 : decode cX5_count 180 = .ok (.iload_n 1, 1) := by decide +kernel
theorem dX5_count_181 : decode cX5_count 181 = .ok (.iconst 1, 1) := by decide +kernel
theorem dX5_count_182 : decode cX5_count 182 = .ok (.if_icmp .ne 21, 3) := by decide +kernel
theorem dX5_count_185 : decode cX5_count 185 = .ok (.iload 5, 2) := by decide +kernel
theorem dX5_count_187 : decode cX5_count 187 = .ok (.ifCond .eq 12, 3) := by decide +kernel
theorem dX5_count_190 : decode cX5_count 190 = .ok (.iload 6, 2) := by decide +kernel
theorem dX5_count_192 : decode cX5_count 192 = .ok (.ifCond .ne 7, 3) := by decide +kernel
theorem dX5_count_195 : decode cX5_count 195 = .ok (.iconst 1, 1) := by decide +kernel
theorem dX5_count_196 : decode cX5_count 196 = .ok (.goto 41, 3) := by decide +kernel
theorem dX5_count_199 : decode cX5_count 199 = .ok (.iconst 0, 1) := by decide +kernel
theorem dX5_count_200 : decode cX5_count 200 = .ok (.goto 37, 3) := by decide +kernel
theorem dX5_count_203 : decode cX5_count 203 = .ok (.iload_n 1, 1) := by decide +kernel
theorem dX5_count_204 : decode cX5_count 204 = .ok (.iconst 2, 1) := by decide +kernel
theorem dX5_count_205 : decode cX5_count 205 = .ok (.if_icmp .ne 18, 3) := by decide +kernel
theorem dX5_count_208 : decode cX5_count 208 = .ok (.iload 6, 2) := by decide +kernel
theorem dX5_count_210 : decode cX5_count 210 = .ok (.iload 5, 2) := by decide +kernel
theorem dX5_count_212 : decode cX5_count 212 = .ok (.if_icmp .eq 7, 3) := by decide +kernel
theorem dX5_count_215 : decode cX5_count 215 = .ok (.iconst 1, 1) := by decide +kernel
theorem dX5_count_216 : decode cX5_count 216 = .ok (.goto 21, 3) := by decide +kernel
theorem dX5_count_219 : decode cX5_count 219 = .ok (.iconst 0, 1) := by decide +kernel
theorem dX5_count_220 : decode cX5_count 220 = .ok (.goto 17, 3) := by decide +kernel
theorem dX5_count_223 : decode cX5_count 223 = .ok (.iload 6, 2) := by decide +kernel
theorem dX5_count_225 : decode cX5_count 225 = .ok (.invokestatic 133, 3) := by decide +kernel
theorem dX5_count_228 : decode cX5_count 228 = .ok (.iconst 2, 1) := by decide +kernel
theorem dX5_count_229 : decode cX5_count 229 = .ok (.if_icmp .le 7, 3) := by decide +kernel
theorem dX5_count_232 : decode cX5_count 232 = .ok (.iconst 1, 1) := by decide +kernel
theorem dX5_count_233 : decode cX5_count 233 = .ok (.goto 4, 3) := by decide +kernel
theorem dX5_count_236 : decode cX5_count 236 = .ok (.iconst 0, 1) := by decide +kernel
theorem dX5_count_237 : decode cX5_count 237 = .ok (.istore 7, 2) := by decide +kernel
theorem dX5_count_239 : decode cX5_count 239 = .ok (.iload_n 2, 1) := by decide +kernel
theorem dX5_count_240 : decode cX5_count 240 = .ok (.iload 7, 2) := by decide +kernel
theorem dX5_count_242 : decode cX5_count 242 = .ok (.ifCond .eq 7, 3) := by decide +kernel
theorem dX5_count_245 : decode cX5_count 245 = .ok (.iconst 1, 1) := by decide +kernel
theorem dX5_count_246 : decode cX5_count 246 = .ok (.goto 4, 3) := by decide +kernel
theorem dX5_count_249 : decode cX5_count 249 = .ok (.iconst 0, 1) := by decide +kernel
theorem dX5_count_250 : decode cX5_count 250 = .ok (.iadd, 1) := by decide +kernel
theorem dX5_count_251 : decode cX5_count 251 = .ok (.istore_n 2, 1) := by decide +kernel
theorem dX5_count_252 : decode cX5_count 252 = .ok (.iinc 4 1, 3) := by decide +kernel
theorem dX5_count_255 : decode cX5_count 255 = .ok (.goto (-126), 3) := by decide +kernel
theorem dX5_count_258 : decode cX5_count 258 = .ok (.iinc 3 1, 3) := by decide +kernel
theorem dX5_count_261 : decode cX5_count 261 = .ok (.goto (-145), 3) := by decide +kernel
theorem dX5_count_264 : decode cX5_count 264 = .ok (.iload_n 2, 1) := by decide +kernel
theorem dX5_count_265 : decode cX5_count 265 = .ok (.ireturn, 1) := by decide +kernel
set_option maxRecDepth 20000 in
theorem ggX5_bare_X5_in : GoodIn wsX5_bare wsX5_in := goodIn_r _ [7] (by decide +kernel) (by decide +kernel)
set_option maxRecDepth 20000 in
theorem gX5_bare_X5_in : GoodIn wsX5_bare (va_wsS RX5 85 yX5_in wsX5_in) := goodIn_app (goodIn_of _ (by decide +kernel)) ggX5_bare_X5_in
set_option maxRecDepth 20000 in
theorem ggX5_bare_X5_findCells : GoodIn wsX5_bare wsX5_findCells := goodIn_r _ [11, 12, 2, 3, 13, 14, 15, 16, 17, 18, 19, 20, 21, 22, 23, 6, 24, 25, 26, 27, 28, 29, 4, 5, 7, 30, 31, 32, 33, 34, 35, 36, 37, 38, 39, 40, 41, 42, 43, 44, 45, 46, 47, 56, 57, 58, 59, 60, 61, 62, 63, 64, 65, 66, 67, 68, 69, 70, 71, 72, 73, 74, 75, 76, 77, 78, 79] (by decide +kernel) (by decide +kernel)
set_option maxRecDepth 20000 in
theorem gX5_bare_X5_findCells : GoodIn wsX5_bare (wsV RX5 124 RX5 yX5_findCells wsX5_findCells) := goodIn_app (goodIn_of _ (by decide +kernel)) ggX5_bare_X5_findCells
set_option maxRecDepth 20000 in
theorem ggX5_bare_X5_isBareBy : GoodIn wsX5_bare wsX5_isBareBy := goodIn_r _ [51, 16, 52, 53, 54, 6, 55, 20, 35, 36, 37, 38, 2, 3, 4, 5, 7, 56, 57, 58, 59, 60, 61, 62, 63, 64, 65, 66, 67, 68, 69, 70, 71, 72, 73, 74, 75, 76, 77, 78, 79] (by decide +kernel) (by decide +kernel)
set_option maxRecDepth 20000 in
theorem gX5_bare_X5_isBareBy : GoodIn wsX5_bare (wsV RX5 146 RX5 yX5_isBareBy wsX5_isBareBy) := goodIn_app (goodIn_of _ (by decide +kernel)) ggX5_bare_X5_isBareBy
theorem dX5_bare_0 : decode cX5_bare 0 = .ok (.aload_n 0, 1) := by decide +kernel
theorem dX5_bare_1 : decode cX5_bare 1 = .ok (.iconst 0, 1) := by decide +kernel
theorem dX5_bare_2 : decode cX5_bare 2 = .ok (.putfield 77, 3) := by decide +kernel
theorem dX5_bare_5 : decode cX5_bare 5 = .ok (.iload_n 1, 1) := by decide +kernel
theorem dX5_bare_6 : decode cX5_bare 6 = .ok (.iconst 0, 1) := by decide +kernel
theorem dX5_bare_7 : decode cX5_bare 7 = .ok (.iconst 3, 1) := by decide +kernel
theorem dX5_bare_8 : decode cX5_bare 8 = .ok (.invokestatic 85, 3) := by decide +kernel
theorem dX5_bare_11 : decode cX5_bare 11 = .ok (.ifCond .eq 25, 3) := by decide +kernel
theorem dX5_bare_14 : decode cX5_bare 14 = .ok (.iload_n 2, 1) := by decide +kernel
theorem dX5_bare_15 : decode cX5_bare 15 = .ok (.bipush (-6), 2) := by decide +kernel
theorem dX5_bare_17 : decode cX5_bare 17 = .ok (.bipush 6, 2) := by decide +kernel
theorem dX5_bare_19 : decode cX5_bare 19 = .ok (.invokestatic 85, 3) := by decide +kernel
theorem dX5_bare_22 : decode cX5_bare 22 = .ok (.ifCond .eq 14, 3) := by decide +kernel
theorem dX5_bare_25 : decode cX5_bare 25 = .ok (.iload_n 3, 1) := by decide +kernel
theorem dX5_bare_26 : decode cX5_bare 26 = .ok (.bipush (-6), 2) := by decide +kernel
theorem dX5_bare_28 : decode cX5_bare 28 = .ok (.bipush 6, 2) := by decide +kernel
theorem dX5_bare_30 : decode cX5_bare 30 = .ok (.invokestatic 85, 3) := by decide +kernel
theorem dX5_bare_33 : decode cX5_bare 33 = .ok (.ifCond .ne 5, 3) := by decide +kernel
theorem dX5_bare_36 : decode cX5_bare 36 = .ok (.iconst (-1), 1) := by decide +kernel
theorem dX5_bare_37 : decode cX5_bare 37 = .ok (.ireturn, 1) := by decide +kernel
theorem dX5_bare_38 : decode cX5_bare 38 = .ok (.aload_n 0, 1) := by decide +kernel
theorem dX5_bare_39 : decode cX5_bare 39 = .ok (.invokevirtual 124, 3) := by decide +kernel
theorem dX5_bare_42 : decode cX5_bare 42 = .ok (.iconst 0, 1) := by decide +kernel
theorem dX5_bare_43 : decode cX5_bare 43 = .ok (.istore 4, 2) := by decide +kernel
theorem dX5_bare_45 : decode cX5_bare 45 = .ok (.iconst 0, 1) := by decide +kernel
theorem dX5_bare_46 : decode cX5_bare 46 = .ok (.istore 5, 2) := by decide +kernel
theorem dX5_bare_48 : decode cX5_bare 48 = .ok (.iload 5, 2) := by decide +kernel
theorem dX5_bare_50 : decode cX5_bare 50 = .ok (.aload_n 0, 1) := by decide +kernel
theorem dX5_bare_51 : decode cX5_bare 51 = .ok (.getfield 7, 3) := by decide +kernel
theorem dX5_bare_54 : decode cX5_bare 54 = .ok (.iconst 0, 1) := by decide +kernel
theorem dX5_bare_55 : decode cX5_bare 55 = .ok (.iaload, 1) := by decide +kernel
theorem dX5_bare_56 : decode cX5_bare 56 = .ok (.if_icmp .ge 53, 3) := by decide +kernel
theorem dX5_bare_59 : decode cX5_bare 59 = .ok (.iconst 0, 1) := by decide +kernel
theorem dX5_bare_60 : decode cX5_bare 60 = .ok (.istore 6, 2) := by decide +kernel
theorem dX5_bare_62 : decode cX5_bare 62 = .ok (.iload 6, 2) := by decide +kernel
theorem dX5_bare_64 : decode cX5_bare 64 = .ok (.aload_n 0, 1) := by decide +kernel
theorem dX5_bare_65 : decode cX5_bare 65 = .ok (.getfield 13, 3) := by decide +kernel
theorem dX5_bare_68 : decode cX5_bare 68 = .ok (.iconst 0, 1) := by decide +kernel
theorem dX5_bare_69 : decode cX5_bare 69 = .ok (.iaload, 1) := by decide +kernel
theorem dX5_bare_70 : decode cX5_bare 70 = .ok (.if_icmp .ge 33, 3) := by decide +kernel
theorem dX5_bare_73 : decode cX5_bare 73 = .ok (.iload 4, 2) := by decide +kernel
theorem dX5_bare_75 : decode cX5_bare 75 = .ok (.aload_n 0, 1) := by decide +kernel
theorem dX5_bare_76 : decode cX5_bare 76 = .ok (.iload 5, 2) := by decide +kernel
theorem dX5_bare_78 : decode cX5_bare 78 = .ok (.iload 6, 2) := by decide +kernel
