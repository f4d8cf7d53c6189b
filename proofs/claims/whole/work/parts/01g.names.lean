theorem dX6_lineNow_54 : decode cX6_lineNow 54 = .ok (.iconst 4, 1) := by decide +kernel
theorem dX6_lineNow_55 : decode cX6_lineNow 55 = .ok (.iadd, 1) := by decide +kernel
theorem dX6_lineNow_56 : decode cX6_lineNow 56 = .ok (.invokevirtual 76, 3) := by decide +kernel
theorem dX6_lineNow_59 : decode cX6_lineNow 59 = .ok (.bipush 100, 2) := by decide +kernel
theorem dX6_lineNow_61 : decode cX6_lineNow 61 = .ok (.if_icmp .ne 5, 3) := by decide +kernel
theorem dX6_lineNow_64 : decode cX6_lineNow 64 = .ok (.iconst 1, 1) := by decide +kernel
theorem dX6_lineNow_65 : decode cX6_lineNow 65 = .ok (.ireturn, 1) := by decide +kernel
theorem dX6_lineNow_66 : decode cX6_lineNow 66 = .ok (.aload_n 0, 1) := by decide +kernel
theorem dX6_lineNow_67 : decode cX6_lineNow 67 = .ok (.iconst 5, 1) := by decide +kernel
theorem dX6_lineNow_68 : decode cX6_lineNow 68 = .ok (.bipush 115, 2) := by decide +kernel
theorem dX6_lineNow_70 : decode cX6_lineNow 70 = .ok (.bipush 104, 2) := by decide +kernel
theorem dX6_lineNow_72 : decode cX6_lineNow 72 = .ok (.bipush 97, 2) := by decide +kernel
theorem dX6_lineNow_74 : decode cX6_lineNow 74 = .ok (.bipush 114, 2) := by decide +kernel
theorem dX6_lineNow_76 : decode cX6_lineNow 76 = .ok (.invokevirtual 80, 3) := by decide +kernel
theorem dX6_lineNow_79 : decode cX6_lineNow 79 = .ok (.ifCond .eq 20, 3) := by decide +kernel
theorem dX6_lineNow_82 : decode cX6_lineNow 82 = .ok (.aload_n 0, 1) := by decide +kernel
theorem dX6_lineNow_83 : decode cX6_lineNow 83 = .ok (.aload_n 0, 1) := by decide +kernel
theorem dX6_lineNow_84 : decode cX6_lineNow 84 = .ok (.getfield 67, 3) := by decide +kernel
theorem dX6_lineNow_87 : decode cX6_lineNow 87 = .ok (.iconst 4, 1) := by decide +kernel
theorem dX6_lineNow_88 : decode cX6_lineNow 88 = .ok (.iadd, 1) := by decide +kernel
theorem dX6_lineNow_89 : decode cX6_lineNow 89 = .ok (.invokevirtual 76, 3) := by decide +kernel
theorem dX6_lineNow_92 : decode cX6_lineNow 92 = .ok (.bipush 101, 2) := by decide +kernel
theorem dX6_lineNow_94 : decode cX6_lineNow 94 = .ok (.if_icmp .ne 5, 3) := by decide +kernel
theorem dX6_lineNow_97 : decode cX6_lineNow 97 = .ok (.iconst 2, 1) := by decide +kernel
theorem dX6_lineNow_98 : decode cX6_lineNow 98 = .ok (.ireturn, 1) := by decide +kernel
theorem dX6_lineNow_99 : decode cX6_lineNow 99 = .ok (.aload_n 0, 1) := by decide +kernel
theorem dX6_lineNow_100 : decode cX6_lineNow 100 = .ok (.iconst 4, 1) := by decide +kernel
theorem dX6_lineNow_101 : decode cX6_lineNow 101 = .ok (.bipush 112, 2) := by decide +kernel
theorem dX6_lineNow_103 : decode cX6_lineNow 103 = .ok (.bipush 117, 2) := by decide +kernel
theorem dX6_lineNow_105 : decode cX6_lineNow 105 = .ok (.bipush 109, 2) := by decide +kernel
theorem dX6_lineNow_107 : decode cX6_lineNow 107 = .ok (.bipush 112, 2) := by decide +kernel
theorem dX6_lineNow_109 : decode cX6_lineNow 109 = .ok (.invokevirtual 80, 3) := by decide +kernel
theorem dX6_lineNow_112 : decode cX6_lineNow 112 = .ok (.ifCond .eq 7, 3) := by decide +kernel
theorem dX6_lineNow_115 : decode cX6_lineNow 115 = .ok (.iconst 3, 1) := by decide +kernel
theorem dX6_lineNow_116 : decode cX6_lineNow 116 = .ok (.goto 25, 3) := by decide +kernel
theorem dX6_lineNow_119 : decode cX6_lineNow 119 = .ok (.aload_n 0, 1) := by decide +kernel
theorem dX6_lineNow_120 : decode cX6_lineNow 120 = .ok (.iconst 4, 1) := by decide +kernel
theorem dX6_lineNow_121 : decode cX6_lineNow 121 = .ok (.bipush 112, 2) := by decide +kernel
theorem dX6_lineNow_123 : decode cX6_lineNow 123 = .ok (.bipush 108, 2) := by decide +kernel
theorem dX6_lineNow_125 : decode cX6_lineNow 125 = .ok (.bipush 97, 2) := by decide +kernel
theorem dX6_lineNow_127 : decode cX6_lineNow 127 = .ok (.bipush 110, 2) := by decide +kernel
theorem dX6_lineNow_129 : decode cX6_lineNow 129 = .ok (.invokevirtual 80, 3) := by decide +kernel
theorem dX6_lineNow_132 : decode cX6_lineNow 132 = .ok (.ifCond .eq 7, 3) := by decide +kernel
theorem dX6_lineNow_135 : decode cX6_lineNow 135 = .ok (.iconst 4, 1) := by decide +kernel
theorem dX6_lineNow_136 : decode cX6_lineNow 136 = .ok (.goto 5, 3) := by decide +kernel
theorem dX6_lineNow_139 : decode cX6_lineNow 139 = .ok (.bipush (-4), 2) := by decide +kernel
theorem dX6_lineNow_141 : decode cX6_lineNow 141 = .ok (.ireturn, 1) := by decide +kernel
set_option maxRecDepth 100000 in
theorem ggX6_reads_X6_byteAt : GoodIn wsX6_reads wsX6_byteAt := goodIn_r _ [14, 15, 16, 25, 26, 27, 28, 29, 30, 31, 32, 33, 34, 35, 36, 37, 38, 39, 40, 41, 42, 43, 44, 45, 46, 47, 48, 49, 50, 51, 52, 53, 54] rfl (by decide +kernel)
set_option maxRecDepth 100000 in
theorem gX6_reads_X6_byteAt : GoodIn wsX6_reads (wsV RX6 76 RX6 yX6_byteAt wsX6_byteAt) := goodIn_app (goodIn_of _ (by decide +kernel)) ggX6_reads_X6_byteAt
set_option maxRecDepth 100000 in
theorem ggX6_reads_X6_in : GoodIn wsX6_reads wsX6_in := goodIn_r _ [19] rfl (by decide +kernel)
set_option maxRecDepth 100000 in
theorem gX6_reads_X6_in : GoodIn wsX6_reads (va_wsS RX6 56 yX6_in wsX6_in) := goodIn_app (goodIn_of _ (by decide +kernel)) ggX6_reads_X6_in
set_option maxRecDepth 100000 in
theorem ggX6_reads_X6_requires : GoodIn wsX6_reads wsX6_requires := goodIn_r _ [23, 1, 3, 24, 25, 26, 27, 28, 29, 30, 31, 32, 33, 34, 35, 36, 37, 38, 39, 40, 41, 42, 43, 44, 45, 46, 47, 48, 49, 50, 51, 52, 53, 54] rfl (by decide +kernel)
set_option maxRecDepth 100000 in
theorem gX6_reads_X6_requires : GoodIn wsX6_reads (wsV RX6 98 RX6 yX6_requires wsX6_requires) := goodIn_app (goodIn_of _ (by decide +kernel)) ggX6_reads_X6_requires
theorem dX6_reads_0 : decode cX6_reads 0 = .ok (.aload_n 0, 1) := by decide +kernel
theorem dX6_reads_1 : decode cX6_reads 1 = .ok (.getfield 64, 3) := by decide +kernel
theorem dX6_reads_4 : decode cX6_reads 4 = .ok (.ifCond .le 4, 3) := by decide +kernel
theorem dX6_reads_7 : decode cX6_reads 7 = .ok (.return_, 1) := by decide +kernel
theorem dX6_reads_8 : decode cX6_reads 8 = .ok (.aload_n 0, 1) := by decide +kernel
theorem dX6_reads_9 : decode cX6_reads 9 = .ok (.aload_n 0, 1) := by decide +kernel
theorem dX6_reads_10 : decode cX6_reads 10 = .ok (.getfield 73, 3) := by decide +kernel
theorem dX6_reads_13 : decode cX6_reads 13 = .ok (.invokevirtual 76, 3) := by decide +kernel
theorem dX6_reads_16 : decode cX6_reads 16 = .ok (.bipush 32, 2) := by decide +kernel
theorem dX6_reads_18 : decode cX6_reads 18 = .ok (.if_icmp .ne 16, 3) := by decide +kernel
theorem dX6_reads_21 : decode cX6_reads 21 = .ok (.aload_n 0, 1) := by decide +kernel
theorem dX6_reads_22 : decode cX6_reads 22 = .ok (.dup, 1) := by decide +kernel
theorem dX6_reads_23 : decode cX6_reads 23 = .ok (.getfield 73, 3) := by decide +kernel
theorem dX6_reads_26 : decode cX6_reads 26 = .ok (.iconst 1, 1) := by decide +kernel
theorem dX6_reads_27 : decode cX6_reads 27 = .ok (.iadd, 1) := by decide +kernel
theorem dX6_reads_28 : decode cX6_reads 28 = .ok (.putfield 73, 3) := by decide +kernel
theorem dX6_reads_31 : decode cX6_reads 31 = .ok (.goto (-23), 3) := by decide +kernel
theorem dX6_reads_34 : decode cX6_reads 34 = .ok (.aload_n 0, 1) := by decide +kernel
theorem dX6_reads_35 : decode cX6_reads 35 = .ok (.aload_n 0, 1) := by decide +kernel
theorem dX6_reads_36 : decode cX6_reads 36 = .ok (.getfield 73, 3) := by decide +kernel
theorem dX6_reads_39 : decode cX6_reads 39 = .ok (.putfield 67, 3) := by decide +kernel
theorem dX6_reads_42 : decode cX6_reads 42 = .ok (.aload_n 0, 1) := by decide +kernel
theorem dX6_reads_43 : decode cX6_reads 43 = .ok (.aload_n 0, 1) := by decide +kernel
theorem dX6_reads_44 : decode cX6_reads 44 = .ok (.getfield 73, 3) := by decide +kernel
theorem dX6_reads_47 : decode cX6_reads 47 = .ok (.invokevirtual 76, 3) := by decide +kernel
theorem dX6_reads_50 : decode cX6_reads 50 = .ok (.istore_n 1, 1) := by decide +kernel
theorem dX6_reads_51 : decode cX6_reads 51 = .ok (.iload_n 1, 1) := by decide +kernel
theorem dX6_reads_52 : decode cX6_reads 52 = .ok (.ifCond .ge 11, 3) := by decide +kernel
theorem dX6_reads_55 : decode cX6_reads 55 = .ok (.aload_n 0, 1) := by decide +kernel
theorem dX6_reads_56 : decode cX6_reads 56 = .ok (.iconst 0, 1) := by decide +kernel
theorem dX6_reads_57 : decode cX6_reads 57 = .ok (.putfield 84, 3) := by decide +kernel
theorem dX6_reads_60 : decode cX6_reads 60 = .ok (.goto 214, 3) := by decide +kernel
theorem dX6_reads_63 : decode cX6_reads 63 = .ok (.iload_n 1, 1) := by decide +kernel
theorem dX6_reads_64 : decode cX6_reads 64 = .ok (.i2l, 1) := by decide +kernel
theorem dX6_reads_65 : decode cX6_reads 65 = .ok (.ldc2_w 87, 3) := by decide +kernel
theorem dX6_reads_68 : decode cX6_reads 68 = .ok (.ldc2_w 89, 3) := by decide +kernel
theorem dX6_reads_71 : decode cX6_reads 71 = .ok (.invokestatic 56, 3) := by decide +kernel
theorem dX6_reads_74 : decode cX6_reads 74 = .ok (.ifCond .eq 42, 3) := by decide +kernel
theorem dX6_reads_77 : decode cX6_reads 77 = .ok (.aload_n 0, 1) := by decide +kernel
theorem dX6_reads_78 : decode cX6_reads 78 = .ok (.iconst 1, 1) := by decide +kernel
theorem dX6_reads_79 : decode cX6_reads 79 = .ok (.putfield 84, 3) := by decide +kernel
theorem dX6_reads_82 : decode cX6_reads 82 = .ok (.aload_n 0, 1) := by decide +kernel
theorem dX6_reads_83 : decode cX6_reads 83 = .ok (.aload_n 0, 1) := by decide +kernel
theorem dX6_reads_84 : decode cX6_reads 84 = .ok (.getfield 73, 3) := by decide +kernel
theorem dX6_reads_87 : decode cX6_reads 87 = .ok (.invokevirtual 76, 3) := by decide +kernel
theorem dX6_reads_90 : decode cX6_reads 90 = .ok (.i2l, 1) := by decide +kernel
theorem dX6_reads_91 : decode cX6_reads 91 = .ok (.ldc2_w 87, 3) := by decide +kernel
theorem dX6_reads_94 : decode cX6_reads 94 = .ok (.ldc2_w 89, 3) := by decide +kernel
theorem dX6_reads_97 : decode cX6_reads 97 = .ok (.invokestatic 56, 3) := by decide +kernel
theorem dX6_reads_100 : decode cX6_reads 100 = .ok (.ifCond .eq 174, 3) := by decide +kernel
theorem dX6_reads_103 : decode cX6_reads 103 = .ok (.aload_n 0, 1) := by decide +kernel
theorem dX6_reads_104 : decode cX6_reads 104 = .ok (.dup, 1) := by decide +kernel
theorem dX6_reads_105 : decode cX6_reads 105 = .ok (.getfield 73, 3) := by decide +kernel
theorem dX6_reads_108 : decode cX6_reads 108 = .ok (.iconst 1, 1) := by decide +kernel
theorem dX6_reads_109 : decode cX6_reads 109 = .ok (.iadd, 1) := by decide +kernel
theorem dX6_reads_110 : decode cX6_reads 110 = .ok (.putfield 73, 3) := by decide +kernel
theorem dX6_reads_113 : decode cX6_reads 113 = .ok (.goto (-31), 3) := by decide +kernel
theorem dX6_reads_116 : decode cX6_reads 116 = .ok (.iload_n 1, 1) := by decide +kernel
theorem dX6_reads_117 : decode cX6_reads 117 = .ok (.i2l, 1) := by decide +kernel
theorem dX6_reads_118 : decode cX6_reads 118 = .ok (.ldc2_w 91, 3) := by decide +kernel
theorem dX6_reads_121 : decode cX6_reads 121 = .ok (.ldc2_w 93, 3) := by decide +kernel
theorem dX6_reads_124 : decode cX6_reads 124 = .ok (.invokestatic 56, 3) := by decide +kernel
theorem dX6_reads_127 : decode cX6_reads 127 = .ok (.ifCond .eq 116, 3) := by decide +kernel
theorem dX6_reads_130 : decode cX6_reads 130 = .ok (.aload_n 0, 1) := by decide +kernel
theorem dX6_reads_131 : decode cX6_reads 131 = .ok (.iconst 2, 1) := by decide +kernel
theorem dX6_reads_132 : decode cX6_reads 132 = .ok (.putfield 84, 3) := by decide +kernel
theorem dX6_reads_135 : decode cX6_reads 135 = .ok (.aload_n 0, 1) := by decide +kernel
theorem dX6_reads_136 : decode cX6_reads 136 = .ok (.iconst 0, 1) := by decide +kernel
theorem dX6_reads_137 : decode cX6_reads 137 = .ok (.putfield 95, 3) := by decide +kernel
theorem dX6_reads_140 : decode cX6_reads 140 = .ok (.aload_n 0, 1) := by decide +kernel
theorem dX6_reads_141 : decode cX6_reads 141 = .ok (.aload_n 0, 1) := by decide +kernel
theorem dX6_reads_142 : decode cX6_reads 142 = .ok (.getfield 73, 3) := by decide +kernel
theorem dX6_reads_145 : decode cX6_reads 145 = .ok (.invokevirtual 76, 3) := by decide +kernel
theorem dX6_reads_148 : decode cX6_reads 148 = .ok (.i2l, 1) := by decide +kernel
theorem dX6_reads_149 : decode cX6_reads 149 = .ok (.ldc2_w 91, 3) := by decide +kernel
theorem dX6_reads_152 : decode cX6_reads 152 = .ok (.ldc2_w 93, 3) := by decide +kernel
theorem dX6_reads_155 : decode cX6_reads 155 = .ok (.invokestatic 56, 3) := by decide +kernel
theorem dX6_reads_158 : decode cX6_reads 158 = .ok (.ifCond .eq 59, 3) := by decide +kernel
theorem dX6_reads_161 : decode cX6_reads 161 = .ok (.aload_n 0, 1) := by decide +kernel
theorem dX6_reads_162 : decode cX6_reads 162 = .ok (.aload_n 0, 1) := by decide +kernel
theorem dX6_reads_163 : decode cX6_reads 163 = .ok (.getfield 73, 3) := by decide +kernel
theorem dX6_reads_166 : decode cX6_reads 166 = .ok (.aload_n 0, 1) := by decide +kernel
theorem dX6_reads_167 : decode cX6_reads 167 = .ok (.getfield 67, 3) := by decide +kernel
theorem dX6_reads_170 : decode cX6_reads 170 = .ok (.isub, 1) := by decide +kernel
theorem dX6_reads_171 : decode cX6_reads 171 = .ok (.iconst 2, 1) := by decide +kernel
theorem dX6_reads_172 : decode cX6_reads 172 = .ok (.if_icmp .ge 25, 3) := by decide +kernel
theorem dX6_reads_175 : decode cX6_reads 175 = .ok (.bipush 10, 2) := by decide +kernel
theorem dX6_reads_177 : decode cX6_reads 177 = .ok (.aload_n 0, 1) := by decide +kernel
theorem dX6_reads_178 : decode cX6_reads 178 = .ok (.getfield 95, 3) := by decide +kernel
theorem dX6_reads_181 : decode cX6_reads 181 = .ok (.imul, 1) := by decide +kernel
theorem dX6_reads_182 : decode cX6_reads 182 = .ok (.aload_n 0, 1) := by decide +kernel
theorem dX6_reads_183 : decode cX6_reads 183 = .ok (.aload_n 0, 1) := by decide +kernel
theorem dX6_reads_184 : decode cX6_reads 184 = .ok (.getfield 73, 3) := by decide +kernel
theorem dX6_reads_187 : decode cX6_reads 187 = .ok (.invokevirtual 76, 3) := by decide +kernel
theorem dX6_reads_190 : decode cX6_reads 190 = .ok (.iadd, 1) := by decide +kernel
theorem dX6_reads_191 : decode cX6_reads 191 = .ok (.bipush 48, 2) := by decide +kernel
theorem dX6_reads_193 : decode cX6_reads 193 = .ok (.isub, 1) := by decide +kernel
theorem dX6_reads_194 : decode cX6_reads 194 = .ok (.goto 7, 3) := by decide +kernel
theorem dX6_reads_197 : decode cX6_reads 197 = .ok (.aload_n 0, 1) := by decide +kernel
theorem dX6_reads_198 : decode cX6_reads 198 = .ok (.getfield 95, 3) := by decide +kernel
theorem dX6_reads_201 : decode cX6_reads 201 = .ok (.putfield 95, 3) := by decide +kernel
theorem dX6_reads_204 : decode cX6_reads 204 = .ok (.aload_n 0, 1) := by decide +kernel
theorem dX6_reads_205 : decode cX6_reads 205 = .ok (.dup, 1) := by decide +kernel
theorem dX6_reads_206 : decode cX6_reads 206 = .ok (.getfield 73, 3) := by decide +kernel
theorem dX6_reads_209 : decode cX6_reads 209 = .ok (.iconst 1, 1) := by decide +kernel
theorem dX6_reads_210 : decode cX6_reads 210 = .ok (.iadd, 1) := by decide +kernel
theorem dX6_reads_211 : decode cX6_reads 211 = .ok (.putfield 73, 3) := by decide +kernel
theorem dX6_reads_214 : decode cX6_reads 214 = .ok (.goto (-74), 3) := by decide +kernel
theorem dX6_reads_217 : decode cX6_reads 217 = .ok (.aload_n 0, 1) := by decide +kernel
theorem dX6_reads_218 : decode cX6_reads 218 = .ok (.aload_n 0, 1) := by decide +kernel
theorem dX6_reads_219 : decode cX6_reads 219 = .ok (.getfield 73, 3) := by decide +kernel
theorem dX6_reads_222 : decode cX6_reads 222 = .ok (.aload_n 0, 1) := by decide +kernel
theorem dX6_reads_223 : decode cX6_reads 223 = .ok (.getfield 67, 3) := by decide +kernel
theorem dX6_reads_226 : decode cX6_reads 226 = .ok (.isub, 1) := by decide +kernel
theorem dX6_reads_227 : decode cX6_reads 227 = .ok (.iconst 2, 1) := by decide +kernel
theorem dX6_reads_228 : decode cX6_reads 228 = .ok (.if_icmp .gt 7, 3) := by decide +kernel
theorem dX6_reads_231 : decode cX6_reads 231 = .ok (.iconst 1, 1) := by decide +kernel
theorem dX6_reads_232 : decode cX6_reads 232 = .ok (.goto 4, 3) := by decide +kernel
theorem dX6_reads_235 : decode cX6_reads 235 = .ok (.iconst 0, 1) := by decide +kernel
theorem dX6_reads_236 : decode cX6_reads 236 = .ok (.iconst 1, 1) := by decide +kernel
theorem dX6_reads_237 : decode cX6_reads 237 = .ok (.invokevirtual 98, 3) := by decide +kernel
theorem dX6_reads_240 : decode cX6_reads 240 = .ok (.goto 34, 3) := by decide +kernel
theorem dX6_reads_243 : decode cX6_reads 243 = .ok (.aload_n 0, 1) := by decide +kernel
theorem dX6_reads_244 : decode cX6_reads 244 = .ok (.iconst 3, 1) := by decide +kernel
theorem dX6_reads_245 : decode cX6_reads 245 = .ok (.putfield 84, 3) := by decide +kernel
theorem dX6_reads_248 : decode cX6_reads 248 = .ok (.aload_n 0, 1) := by decide +kernel
theorem dX6_reads_249 : decode cX6_reads 249 = .ok (.iload_n 1, 1) := by decide +kernel
theorem dX6_reads_250 : decode cX6_reads 250 = .ok (.bipush 59, 2) := by decide +kernel
theorem dX6_reads_252 : decode cX6_reads 252 = .ok (.if_icmp .ne 7, 3) := by decide +kernel
theorem dX6_reads_255 : decode cX6_reads 255 = .ok (.iconst 1, 1) := by decide +kernel
theorem dX6_reads_256 : decode cX6_reads 256 = .ok (.goto 4, 3) := by decide +kernel
theorem dX6_reads_259 : decode cX6_reads 259 = .ok (.iconst 0, 1) := by decide +kernel
theorem dX6_reads_260 : decode cX6_reads 260 = .ok (.iconst 1, 1) := by decide +kernel
theorem dX6_reads_261 : decode cX6_reads 261 = .ok (.invokevirtual 98, 3) := by decide +kernel
theorem dX6_reads_264 : decode cX6_reads 264 = .ok (.aload_n 0, 1) := by decide +kernel
theorem dX6_reads_265 : decode cX6_reads 265 = .ok (.dup, 1) := by decide +kernel
theorem dX6_reads_266 : decode cX6_reads 266 = .ok (.getfield 73, 3) := by decide +kernel
theorem dX6_reads_269 : decode cX6_reads 269 = .ok (.iconst 1, 1) := by decide +kernel
theorem dX6_reads_270 : decode cX6_reads 270 = .ok (.iadd, 1) := by decide +kernel
theorem dX6_reads_271 : decode cX6_reads 271 = .ok (.putfield 73, 3) := by decide +kernel
theorem dX6_reads_274 : decode cX6_reads 274 = .ok (.return_, 1) := by decide +kernel
set_option maxRecDepth 100000 in
theorem ggX6_readNumber_X6_requires : GoodIn wsX6_readNumber wsX6_requires := goodIn_r _ [8, 1, 9, 10, 29, 30, 31, 32, 33, 34, 35, 36, 37, 38, 39, 40, 41, 42, 43, 44, 45, 46, 47, 48, 49, 50, 51, 52, 53, 54, 55, 56, 57, 58] rfl (by decide +kernel)
set_option maxRecDepth 100000 in
theorem gX6_readNumber_X6_requires : GoodIn wsX6_readNumber (wsV RX6 98 RX6 yX6_requires wsX6_requires) := goodIn_app (goodIn_of _ (by decide +kernel)) ggX6_readNumber_X6_requires
set_option maxRecDepth 100000 in
theorem ggX6_readNumber_X6_in : GoodIn wsX6_readNumber wsX6_in := goodIn_r _ [13] rfl (by decide +kernel)
set_option maxRecDepth 100000 in
theorem gX6_readNumber_X6_in : GoodIn wsX6_readNumber (va_wsS RX6 56 yX6_in wsX6_in) := goodIn_app (goodIn_of _ (by decide +kernel)) ggX6_readNumber_X6_in
set_option maxRecDepth 100000 in
theorem ggX6_readNumber_X6_reads : GoodIn wsX6_readNumber wsX6_reads := goodIn_r _ [17, 1, 18, 9, 2, 19, 20, 21, 22, 3, 23, 24, 25, 7, 26, 27, 28, 11, 12, 13, 4, 5, 6, 8, 10, 29, 30, 31, 32, 33, 34, 35, 36, 37, 38, 39, 40, 41, 42, 43, 44, 45, 46, 47, 48, 49, 50, 51, 52, 53, 54, 55, 56, 57, 58] rfl (by decide +kernel)
set_option maxRecDepth 100000 in
theorem gX6_readNumber_X6_reads : GoodIn wsX6_readNumber (wsV RX6 102 RX6 yX6_reads wsX6_reads) := goodIn_app (goodIn_of _ (by decide +kernel)) ggX6_readNumber_X6_reads
theorem dX6_readNumber_0 : decode cX6_readNumber 0 = .ok (.aload_n 0, 1) := by decide +kernel
theorem dX6_readNumber_1 : decode cX6_readNumber 1 = .ok (.getfield 64, 3) := by decide +kernel
theorem dX6_readNumber_4 : decode cX6_readNumber 4 = .ok (.ifCond .ne 21, 3) := by decide +kernel
theorem dX6_readNumber_7 : decode cX6_readNumber 7 = .ok (.aload_n 0, 1) := by decide +kernel
theorem dX6_readNumber_8 : decode cX6_readNumber 8 = .ok (.aload_n 0, 1) := by decide +kernel
theorem dX6_readNumber_9 : decode cX6_readNumber 9 = .ok (.getfield 84, 3) := by decide +kernel
theorem dX6_readNumber_12 : decode cX6_readNumber 12 = .ok (.iconst 2, 1) := by decide +kernel
theorem dX6_readNumber_13 : decode cX6_readNumber 13 = .ok (.if_icmp .ne 7, 3) := by decide +kernel
theorem dX6_readNumber_16 : decode cX6_readNumber 16 = .ok (.iconst 1, 1) := by decide +kernel
theorem dX6_readNumber_17 : decode cX6_readNumber 17 = .ok (.goto 4, 3) := by decide +kernel
theorem dX6_readNumber_20 : decode cX6_readNumber 20 = .ok (.iconst 0, 1) := by decide +kernel
theorem dX6_readNumber_21 : decode cX6_readNumber 21 = .ok (.iconst 2, 1) := by decide +kernel
theorem dX6_readNumber_22 : decode cX6_readNumber 22 = .ok (.invokevirtual 98, 3) := by decide +kernel
theorem dX6_readNumber_25 : decode cX6_readNumber 25 = .ok (.aload_n 0, 1) := by decide +kernel
theorem dX6_readNumber_26 : decode cX6_readNumber 26 = .ok (.getfield 64, 3) := by decide +kernel
theorem dX6_readNumber_29 : decode cX6_readNumber 29 = .ok (.ifCond .ne 20, 3) := by decide +kernel
theorem dX6_readNumber_32 : decode cX6_readNumber 32 = .ok (.aload_n 0, 1) := by decide +kernel
theorem dX6_readNumber_33 : decode cX6_readNumber 33 = .ok (.aload_n 0, 1) := by decide +kernel
theorem dX6_readNumber_34 : decode cX6_readNumber 34 = .ok (.getfield 95, 3) := by decide +kernel
theorem dX6_readNumber_37 : decode cX6_readNumber 37 = .ok (.i2l, 1) := by decide +kernel
theorem dX6_readNumber_38 : decode cX6_readNumber 38 = .ok (.iload_n 1, 1) := by decide +kernel
theorem dX6_readNumber_39 : decode cX6_readNumber 39 = .ok (.i2l, 1) := by decide +kernel
theorem dX6_readNumber_40 : decode cX6_readNumber 40 = .ok (.iload_n 2, 1) := by decide +kernel
theorem dX6_readNumber_41 : decode cX6_readNumber 41 = .ok (.i2l, 1) := by decide +kernel
theorem dX6_readNumber_42 : decode cX6_readNumber 42 = .ok (.invokestatic 56, 3) := by decide +kernel
theorem dX6_readNumber_45 : decode cX6_readNumber 45 = .ok (.iconst 3, 1) := by decide +kernel
theorem dX6_readNumber_46 : decode cX6_readNumber 46 = .ok (.invokevirtual 98, 3) := by decide +kernel
theorem dX6_readNumber_49 : decode cX6_readNumber 49 = .ok (.aload_n 0, 1) := by decide +kernel
theorem dX6_readNumber_50 : decode cX6_readNumber 50 = .ok (.getfield 64, 3) := by decide +kernel
theorem dX6_readNumber_53 : decode cX6_readNumber 53 = .ok (.ifCond .ne 10, 3) := by decide +kernel
theorem dX6_readNumber_56 : decode cX6_readNumber 56 = .ok (.aload_n 0, 1) := by decide +kernel
theorem dX6_readNumber_57 : decode cX6_readNumber 57 = .ok (.getfield 95, 3) := by decide +kernel
theorem dX6_readNumber_60 : decode cX6_readNumber 60 = .ok (.goto 4, 3) := by decide +kernel
theorem dX6_readNumber_63 : decode cX6_readNumber 63 = .ok (.iconst 0, 1) := by decide +kernel
theorem dX6_readNumber_64 : decode cX6_readNumber 64 = .ok (.istore_n 3, 1) := by decide +kernel
theorem dX6_readNumber_65 : decode cX6_readNumber 65 = .ok (.aload_n 0, 1) := by decide +kernel
theorem dX6_readNumber_66 : decode cX6_readNumber 66 = .ok (.invokevirtual 102, 3) := by decide +kernel
theorem dX6_readNumber_69 : decode cX6_readNumber 69 = .ok (.iload_n 3, 1) := by decide +kernel
theorem dX6_readNumber_70 : decode cX6_readNumber 70 = .ok (.ireturn, 1) := by decide +kernel
set_option maxRecDepth 100000 in
theorem ggX6_readPlan_X6_readNumber : GoodIn wsX6_readPlan wsX6_readNumber := goodIn_r _ [8, 2, 3, 9, 10, 11, 12, 7, 13, 14, 15, 16, 17, 18, 19, 20, 21, 22, 23, 24, 25, 26, 27, 28, 29, 30, 31, 32, 33, 34, 35, 36, 37, 38, 39, 40, 41, 42, 43, 44, 45, 46, 47, 48, 49, 50, 51, 52, 53, 54, 55, 56, 57, 58, 59, 60, 61, 62, 63] rfl (by decide +kernel)
set_option maxRecDepth 100000 in
theorem gX6_readPlan_X6_readNumber : GoodIn wsX6_readPlan (wsV RX6 105 RX6 yX6_readNumber wsX6_readNumber) := goodIn_app (goodIn_of _ (by decide +kernel)) ggX6_readPlan_X6_readNumber
set_option maxRecDepth 100000 in
theorem ggX6_readPlan_X6_requires : GoodIn wsX6_readPlan wsX6_requires := goodIn_r _ [13, 2, 14, 15, 34, 35, 36, 37, 38, 39, 40, 41, 42, 43, 44, 45, 46, 47, 48, 49, 50, 51, 52, 53, 54, 55, 56, 57, 58, 59, 60, 61, 62, 63] rfl (by decide +kernel)
set_option maxRecDepth 100000 in
theorem gX6_readPlan_X6_requires : GoodIn wsX6_readPlan (wsV RX6 98 RX6 yX6_requires wsX6_requires) := goodIn_app (goodIn_of _ (by decide +kernel)) ggX6_readPlan_X6_requires
theorem dX6_readPlan_0 : decode cX6_readPlan 0 = .ok (.aload_n 0, 1) := by decide +kernel
theorem dX6_readPlan_1 : decode cX6_readPlan 1 = .ok (.getfield 20, 3) := by decide +kernel
theorem dX6_readPlan_4 : decode cX6_readPlan 4 = .ok (.bipush 21, 2) := by decide +kernel
theorem dX6_readPlan_6 : decode cX6_readPlan 6 = .ok (.aload_n 0, 1) := by decide +kernel
theorem dX6_readPlan_7 : decode cX6_readPlan 7 = .ok (.iconst 0, 1) := by decide +kernel
theorem dX6_readPlan_8 : decode cX6_readPlan 8 = .ok (.bipush 18, 2) := by decide +kernel
theorem dX6_readPlan_10 : decode cX6_readPlan 10 = .ok (.invokevirtual 105, 3) := by decide +kernel
theorem dX6_readPlan_13 : decode cX6_readPlan 13 = .ok (.iastore, 1) := by decide +kernel
theorem dX6_readPlan_14 : decode cX6_readPlan 14 = .ok (.aload_n 0, 1) := by decide +kernel
theorem dX6_readPlan_15 : decode cX6_readPlan 15 = .ok (.getfield 20, 3) := by decide +kernel
theorem dX6_readPlan_18 : decode cX6_readPlan 18 = .ok (.bipush 37, 2) := by decide +kernel
theorem dX6_readPlan_20 : decode cX6_readPlan 20 = .ok (.iconst 1, 1) := by decide +kernel
theorem dX6_readPlan_21 : decode cX6_readPlan 21 = .ok (.iastore, 1) := by decide +kernel
theorem dX6_readPlan_22 : decode cX6_readPlan 22 = .ok (.aload_n 0, 1) := by decide +kernel
theorem dX6_readPlan_23 : decode cX6_readPlan 23 = .ok (.getfield 64, 3) := by decide +kernel
theorem dX6_readPlan_26 : decode cX6_readPlan 26 = .ok (.ifCond .ne 76, 3) := by decide +kernel
theorem dX6_readPlan_29 : decode cX6_readPlan 29 = .ok (.aload_n 0, 1) := by decide +kernel
theorem dX6_readPlan_30 : decode cX6_readPlan 30 = .ok (.getfield 84, 3) := by decide +kernel
theorem dX6_readPlan_33 : decode cX6_readPlan 33 = .ok (.iconst 2, 1) := by decide +kernel
theorem dX6_readPlan_34 : decode cX6_readPlan 34 = .ok (.if_icmp .ne 68, 3) := by decide +kernel
theorem dX6_readPlan_37 : decode cX6_readPlan 37 = .ok (.aload_n 0, 1) := by decide +kernel
theorem dX6_readPlan_38 : decode cX6_readPlan 38 = .ok (.aload_n 0, 1) := by decide +kernel
theorem dX6_readPlan_39 : decode cX6_readPlan 39 = .ok (.getfield 20, 3) := by decide +kernel
theorem dX6_readPlan_42 : decode cX6_readPlan 42 = .ok (.bipush 37, 2) := by decide +kernel
theorem dX6_readPlan_44 : decode cX6_readPlan 44 = .ok (.iaload, 1) := by decide +kernel
theorem dX6_readPlan_45 : decode cX6_readPlan 45 = .ok (.bipush 16, 2) := by decide +kernel
theorem dX6_readPlan_47 : decode cX6_readPlan 47 = .ok (.if_icmp .ge 7, 3) := by decide +kernel
theorem dX6_readPlan_50 : decode cX6_readPlan 50 = .ok (.iconst 1, 1) := by decide +kernel
theorem dX6_readPlan_51 : decode cX6_readPlan 51 = .ok (.goto 4, 3) := by decide +kernel
theorem dX6_readPlan_54 : decode cX6_readPlan 54 = .ok (.iconst 0, 1) := by decide +kernel
theorem dX6_readPlan_55 : decode cX6_readPlan 55 = .ok (.iconst 5, 1) := by decide +kernel
theorem dX6_readPlan_56 : decode cX6_readPlan 56 = .ok (.invokevirtual 98, 3) := by decide +kernel
theorem dX6_readPlan_59 : decode cX6_readPlan 59 = .ok (.aload_n 0, 1) := by decide +kernel
theorem dX6_readPlan_60 : decode cX6_readPlan 60 = .ok (.getfield 64, 3) := by decide +kernel
theorem dX6_readPlan_63 : decode cX6_readPlan 63 = .ok (.ifCond .ne (-41), 3) := by decide +kernel
theorem dX6_readPlan_66 : decode cX6_readPlan 66 = .ok (.aload_n 0, 1) := by decide +kernel
theorem dX6_readPlan_67 : decode cX6_readPlan 67 = .ok (.getfield 20, 3) := by decide +kernel
theorem dX6_readPlan_70 : decode cX6_readPlan 70 = .ok (.bipush 21, 2) := by decide +kernel
theorem dX6_readPlan_72 : decode cX6_readPlan 72 = .ok (.aload_n 0, 1) := by decide +kernel
theorem dX6_readPlan_73 : decode cX6_readPlan 73 = .ok (.getfield 20, 3) := by decide +kernel
theorem dX6_readPlan_76 : decode cX6_readPlan 76 = .ok (.bipush 37, 2) := by decide +kernel
theorem dX6_readPlan_78 : decode cX6_readPlan 78 = .ok (.iaload, 1) := by decide +kernel
theorem dX6_readPlan_79 : decode cX6_readPlan 79 = .ok (.iadd, 1) := by decide +kernel
theorem dX6_readPlan_80 : decode cX6_readPlan 80 = .ok (.aload_n 0, 1) := by decide +kernel
theorem dX6_readPlan_81 : decode cX6_readPlan 81 = .ok (.iconst 0, 1) := by decide +kernel
theorem dX6_readPlan_82 : decode cX6_readPlan 82 = .ok (.bipush 18, 2) := by decide +kernel
theorem dX6_readPlan_84 : decode cX6_readPlan 84 = .ok (.invokevirtual 105, 3) := by decide +kernel
theorem dX6_readPlan_87 : decode cX6_readPlan 87 = .ok (.iastore, 1) := by decide +kernel
theorem dX6_readPlan_88 : decode cX6_readPlan 88 = .ok (.aload_n 0, 1) := by decide +kernel
theorem dX6_readPlan_89 : decode cX6_readPlan 89 = .ok (.getfield 20, 3) := by decide +kernel
theorem dX6_readPlan_92 : decode cX6_readPlan 92 = .ok (.bipush 37, 2) := by decide +kernel
theorem dX6_readPlan_94 : decode cX6_readPlan 94 = .ok (.dup2, 1) := by decide +kernel
theorem dX6_readPlan_95 : decode cX6_readPlan 95 = .ok (.iaload, 1) := by decide +kernel
theorem dX6_readPlan_96 : decode cX6_readPlan 96 = .ok (.iconst 1, 1) := by decide +kernel
theorem dX6_readPlan_97 : decode cX6_readPlan 97 = .ok (.iadd, 1) := by decide +kernel
theorem dX6_readPlan_98 : decode cX6_readPlan 98 = .ok (.iastore, 1) := by decide +kernel
theorem dX6_readPlan_99 : decode cX6_readPlan 99 = .ok (.goto (-77), 3) := by decide +kernel
theorem dX6_readPlan_102 : decode cX6_readPlan 102 = .ok (.return_, 1) := by decide +kernel
set_option maxRecDepth 100000 in
theorem ggX6_readUnit_X6_readNumber : GoodIn wsX6_readUnit wsX6_readNumber := goodIn_r _ [6, 7, 8, 9, 10, 11, 12, 5, 13, 14, 15, 16, 17, 18, 19, 20, 21, 22, 23, 24, 25, 26, 27, 28, 29, 30, 31, 32, 33, 34, 35, 36, 37, 38, 39, 40, 41, 42, 43, 44, 45, 46, 47, 48, 49, 50, 51, 52, 53, 54, 55, 56, 57, 58, 59, 60, 61, 62, 63] rfl (by decide +kernel)
set_option maxRecDepth 100000 in
theorem gX6_readUnit_X6_readNumber : GoodIn wsX6_readUnit (wsV RX6 105 RX6 yX6_readNumber wsX6_readNumber) := goodIn_app (goodIn_of _ (by decide +kernel)) ggX6_readUnit_X6_readNumber
theorem dX6_readUnit_0 : decode cX6_readUnit 0 = .ok (.iconst 4, 1) := by decide +kernel
theorem dX6_readUnit_1 : decode cX6_readUnit 1 = .ok (.aload_n 0, 1) := by decide +kernel
theorem dX6_readUnit_2 : decode cX6_readUnit 2 = .ok (.getfield 20, 3) := by decide +kernel
theorem dX6_readUnit_5 : decode cX6_readUnit 5 = .ok (.bipush 20, 2) := by decide +kernel
theorem dX6_readUnit_7 : decode cX6_readUnit 7 = .ok (.iaload, 1) := by decide +kernel
theorem dX6_readUnit_8 : decode cX6_readUnit 8 = .ok (.imul, 1) := by decide +kernel
theorem dX6_readUnit_9 : decode cX6_readUnit 9 = .ok (.istore_n 2, 1) := by decide +kernel
theorem dX6_readUnit_10 : decode cX6_readUnit 10 = .ok (.aload_n 0, 1) := by decide +kernel
theorem dX6_readUnit_11 : decode cX6_readUnit 11 = .ok (.getfield 20, 3) := by decide +kernel
theorem dX6_readUnit_14 : decode cX6_readUnit 14 = .ok (.iload_n 2, 1) := by decide +kernel
theorem dX6_readUnit_15 : decode cX6_readUnit 15 = .ok (.iconst 0, 1) := by decide +kernel
theorem dX6_readUnit_16 : decode cX6_readUnit 16 = .ok (.iadd, 1) := by decide +kernel
theorem dX6_readUnit_17 : decode cX6_readUnit 17 = .ok (.iload_n 1, 1) := by decide +kernel
theorem dX6_readUnit_18 : decode cX6_readUnit 18 = .ok (.iastore, 1) := by decide +kernel
theorem dX6_readUnit_19 : decode cX6_readUnit 19 = .ok (.aload_n 0, 1) := by decide +kernel
theorem dX6_readUnit_20 : decode cX6_readUnit 20 = .ok (.getfield 20, 3) := by decide +kernel
theorem dX6_readUnit_23 : decode cX6_readUnit 23 = .ok (.iload_n 2, 1) := by decide +kernel
theorem dX6_readUnit_24 : decode cX6_readUnit 24 = .ok (.iconst 1, 1) := by decide +kernel
theorem dX6_readUnit_25 : decode cX6_readUnit 25 = .ok (.iadd, 1) := by decide +kernel
theorem dX6_readUnit_26 : decode cX6_readUnit 26 = .ok (.aload_n 0, 1) := by decide +kernel
theorem dX6_readUnit_27 : decode cX6_readUnit 27 = .ok (.iconst 1, 1) := by decide +kernel
theorem dX6_readUnit_28 : decode cX6_readUnit 28 = .ok (.bipush 99, 2) := by decide +kernel
theorem dX6_readUnit_30 : decode cX6_readUnit 30 = .ok (.invokevirtual 105, 3) := by decide +kernel
theorem dX6_readUnit_33 : decode cX6_readUnit 33 = .ok (.iastore, 1) := by decide +kernel
theorem dX6_readUnit_34 : decode cX6_readUnit 34 = .ok (.aload_n 0, 1) := by decide +kernel
theorem dX6_readUnit_35 : decode cX6_readUnit 35 = .ok (.getfield 20, 3) := by decide +kernel
theorem dX6_readUnit_38 : decode cX6_readUnit 38 = .ok (.iload_n 2, 1) := by decide +kernel
theorem dX6_readUnit_39 : decode cX6_readUnit 39 = .ok (.iconst 2, 1) := by decide +kernel
theorem dX6_readUnit_40 : decode cX6_readUnit 40 = .ok (.iadd, 1) := by decide +kernel
theorem dX6_readUnit_41 : decode cX6_readUnit 41 = .ok (.aload_n 0, 1) := by decide +kernel
theorem dX6_readUnit_42 : decode cX6_readUnit 42 = .ok (.iconst 0, 1) := by decide +kernel
theorem dX6_readUnit_43 : decode cX6_readUnit 43 = .ok (.aload_n 0, 1) := by decide +kernel
theorem dX6_readUnit_44 : decode cX6_readUnit 44 = .ok (.getfield 20, 3) := by decide +kernel
theorem dX6_readUnit_47 : decode cX6_readUnit 47 = .ok (.iload_n 2, 1) := by decide +kernel
theorem dX6_readUnit_48 : decode cX6_readUnit 48 = .ok (.iconst 1, 1) := by decide +kernel
theorem dX6_readUnit_49 : decode cX6_readUnit 49 = .ok (.iadd, 1) := by decide +kernel
theorem dX6_readUnit_50 : decode cX6_readUnit 50 = .ok (.iaload, 1) := by decide +kernel
theorem dX6_readUnit_51 : decode cX6_readUnit 51 = .ok (.invokevirtual 105, 3) := by decide +kernel
theorem dX6_readUnit_54 : decode cX6_readUnit 54 = .ok (.iastore, 1) := by decide +kernel
theorem dX6_readUnit_55 : decode cX6_readUnit 55 = .ok (.aload_n 0, 1) := by decide +kernel
theorem dX6_readUnit_56 : decode cX6_readUnit 56 = .ok (.getfield 20, 3) := by decide +kernel
theorem dX6_readUnit_59 : decode cX6_readUnit 59 = .ok (.iload_n 2, 1) := by decide +kernel
theorem dX6_readUnit_60 : decode cX6_readUnit 60 = .ok (.iconst 3, 1) := by decide +kernel
theorem dX6_readUnit_61 : decode cX6_readUnit 61 = .ok (.iadd, 1) := by decide +kernel
theorem dX6_readUnit_62 : decode cX6_readUnit 62 = .ok (.aload_n 0, 1) := by decide +kernel
theorem dX6_readUnit_63 : decode cX6_readUnit 63 = .ok (.iconst 0, 1) := by decide +kernel
theorem dX6_readUnit_64 : decode cX6_readUnit 64 = .ok (.bipush 9, 2) := by decide +kernel
theorem dX6_readUnit_66 : decode cX6_readUnit 66 = .ok (.invokevirtual 105, 3) := by decide +kernel
theorem dX6_readUnit_69 : decode cX6_readUnit 69 = .ok (.iastore, 1) := by decide +kernel
theorem dX6_readUnit_70 : decode cX6_readUnit 70 = .ok (.aload_n 0, 1) := by decide +kernel
theorem dX6_readUnit_71 : decode cX6_readUnit 71 = .ok (.getfield 20, 3) := by decide +kernel
theorem dX6_readUnit_74 : decode cX6_readUnit 74 = .ok (.bipush 20, 2) := by decide +kernel
theorem dX6_readUnit_76 : decode cX6_readUnit 76 = .ok (.dup2, 1) := by decide +kernel
theorem dX6_readUnit_77 : decode cX6_readUnit 77 = .ok (.iaload, 1) := by decide +kernel
theorem dX6_readUnit_78 : decode cX6_readUnit 78 = .ok (.iconst 1, 1) := by decide +kernel
theorem dX6_readUnit_79 : decode cX6_readUnit 79 = .ok (.iadd, 1) := by decide +kernel
theorem dX6_readUnit_80 : decode cX6_readUnit 80 = .ok (.iastore, 1) := by decide +kernel
theorem dX6_readUnit_81 : decode cX6_readUnit 81 = .ok (.return_, 1) := by decide +kernel
set_option maxRecDepth 100000 in
theorem ggX6_readLine_X6_lineNow : GoodIn wsX6_readLine wsX6_lineNow := goodIn_r _ [9, 10, 11, 12, 13, 8, 14, 15, 16, 17, 18, 19, 20, 21, 51, 52, 53, 54, 55, 56, 57, 58, 59, 60, 61, 62, 63, 64, 65, 66, 67, 68, 69, 70, 71, 72, 73, 74, 75, 76, 77, 78, 79, 80] rfl (by decide +kernel)
set_option maxRecDepth 100000 in
theorem gX6_readLine_X6_lineNow : GoodIn wsX6_readLine (wsV RX6 109 RX6 yX6_lineNow wsX6_lineNow) := goodIn_app (goodIn_of _ (by decide +kernel)) ggX6_readLine_X6_lineNow
set_option maxRecDepth 100000 in
theorem ggX6_readLine_X6_requires : GoodIn wsX6_readLine wsX6_requires := goodIn_r _ [25, 4, 10, 26, 51, 52, 53, 54, 55, 56, 57, 58, 59, 60, 61, 62, 63, 64, 65, 66, 67, 68, 69, 70, 71, 72, 73, 74, 75, 76, 77, 78, 79, 80] rfl (by decide +kernel)
set_option maxRecDepth 100000 in
theorem gX6_readLine_X6_requires : GoodIn wsX6_readLine (wsV RX6 98 RX6 yX6_requires wsX6_requires) := goodIn_app (goodIn_of _ (by decide +kernel)) ggX6_readLine_X6_requires
set_option maxRecDepth 100000 in
theorem ggX6_readLine_X6_reads : GoodIn wsX6_readLine wsX6_reads := goodIn_r _ [30, 4, 15, 10, 1, 31, 32, 33, 34, 35, 16, 17, 18, 8, 19, 20, 21, 36, 37, 38, 22, 23, 24, 25, 26, 51, 52, 53, 54, 55, 56, 57, 58, 59, 60, 61, 62, 63, 64, 65, 66, 67, 68, 69, 70, 71, 72, 73, 74, 75, 76, 77, 78, 79, 80] rfl (by decide +kernel)
set_option maxRecDepth 100000 in
theorem gX6_readLine_X6_reads : GoodIn wsX6_readLine (wsV RX6 102 RX6 yX6_reads wsX6_reads) := goodIn_app (goodIn_of _ (by decide +kernel)) ggX6_readLine_X6_reads
set_option maxRecDepth 100000 in
theorem ggX6_readLine_X6_readPlan : GoodIn wsX6_readLine wsX6_readPlan := goodIn_r _ [42, 2, 4, 1, 43, 44, 45, 8, 46, 35, 22, 23, 24, 25, 10, 26, 36, 37, 38, 27, 28, 29, 30, 15, 31, 32, 33, 34, 16, 17, 18, 19, 20, 21, 51, 52, 53, 54, 55, 56, 57, 58, 59, 60, 61, 62, 63, 64, 65, 66, 67, 68, 69, 70, 71, 72, 73, 74, 75, 76, 77, 78, 79, 80] rfl (by decide +kernel)
set_option maxRecDepth 100000 in
theorem gX6_readLine_X6_readPlan : GoodIn wsX6_readLine (wsV RX6 113 RX6 yX6_readPlan wsX6_readPlan) := goodIn_app (goodIn_of _ (by decide +kernel)) ggX6_readLine_X6_readPlan
set_option maxRecDepth 100000 in
theorem ggX6_readLine_X6_readUnit : GoodIn wsX6_readLine wsX6_readUnit := goodIn_r _ [50, 2, 43, 44, 45, 8, 46, 4, 1, 35, 22, 23, 24, 25, 10, 26, 36, 37, 38, 27, 28, 29, 30, 15, 31, 32, 33, 34, 16, 17, 18, 19, 20, 21, 51, 52, 53, 54, 55, 56, 57, 58, 59, 60, 61, 62, 63, 64, 65, 66, 67, 68, 69, 70, 71, 72, 73, 74, 75, 76, 77, 78, 79, 80] rfl (by decide +kernel)
set_option maxRecDepth 100000 in
theorem gX6_readLine_X6_readUnit : GoodIn wsX6_readLine (wsV RX6 116 RX6 yX6_readUnit wsX6_readUnit) := goodIn_app (goodIn_of _ (by decide +kernel)) ggX6_readLine_X6_readUnit
theorem dX6_readLine_0 : decode cX6_readLine 0 = .ok (.aload_n 0, 1) := by decide +kernel
theorem dX6_readLine_1 : decode cX6_readLine 1 = .ok (.getfield 84, 3) := by decide +kernel
theorem dX6_readLine_4 : decode cX6_readLine 4 = .ok (.iconst 1, 1) := by decide +kernel
theorem dX6_readLine_5 : decode cX6_readLine 5 = .ok (.if_icmp .ne 10, 3) := by decide +kernel
theorem dX6_readLine_8 : decode cX6_readLine 8 = .ok (.aload_n 0, 1) := by decide +kernel
theorem dX6_readLine_9 : decode cX6_readLine 9 = .ok (.invokevirtual 109, 3) := by decide +kernel
theorem dX6_readLine_12 : decode cX6_readLine 12 = .ok (.goto 5, 3) := by decide +kernel
theorem dX6_readLine_15 : decode cX6_readLine 15 = .ok (.bipush (-4), 2) := by decide +kernel
theorem dX6_readLine_17 : decode cX6_readLine 17 = .ok (.istore_n 1, 1) := by decide +kernel
theorem dX6_readLine_18 : decode cX6_readLine 18 = .ok (.aload_n 0, 1) := by decide +kernel
theorem dX6_readLine_19 : decode cX6_readLine 19 = .ok (.iload_n 1, 1) := by decide +kernel
theorem dX6_readLine_20 : decode cX6_readLine 20 = .ok (.bipush (-4), 2) := by decide +kernel
theorem dX6_readLine_22 : decode cX6_readLine 22 = .ok (.if_icmp .eq 7, 3) := by decide +kernel
theorem dX6_readLine_25 : decode cX6_readLine 25 = .ok (.iconst 1, 1) := by decide +kernel
theorem dX6_readLine_26 : decode cX6_readLine 26 = .ok (.goto 4, 3) := by decide +kernel
theorem dX6_readLine_29 : decode cX6_readLine 29 = .ok (.iconst 0, 1) := by decide +kernel
theorem dX6_readLine_30 : decode cX6_readLine 30 = .ok (.iconst 2, 1) := by decide +kernel
theorem dX6_readLine_31 : decode cX6_readLine 31 = .ok (.invokevirtual 98, 3) := by decide +kernel
theorem dX6_readLine_34 : decode cX6_readLine 34 = .ok (.aload_n 0, 1) := by decide +kernel
theorem dX6_readLine_35 : decode cX6_readLine 35 = .ok (.iload_n 1, 1) := by decide +kernel
theorem dX6_readLine_36 : decode cX6_readLine 36 = .ok (.iconst 4, 1) := by decide +kernel
theorem dX6_readLine_37 : decode cX6_readLine 37 = .ok (.if_icmp .eq 14, 3) := by decide +kernel
theorem dX6_readLine_40 : decode cX6_readLine 40 = .ok (.aload_n 0, 1) := by decide +kernel
theorem dX6_readLine_41 : decode cX6_readLine 41 = .ok (.getfield 20, 3) := by decide +kernel
theorem dX6_readLine_44 : decode cX6_readLine 44 = .ok (.bipush 20, 2) := by decide +kernel
theorem dX6_readLine_46 : decode cX6_readLine 46 = .ok (.iaload, 1) := by decide +kernel
theorem dX6_readLine_47 : decode cX6_readLine 47 = .ok (.iconst 5, 1) := by decide +kernel
theorem dX6_readLine_48 : decode cX6_readLine 48 = .ok (.if_icmp .ge 7, 3) := by decide +kernel
theorem dX6_readLine_51 : decode cX6_readLine 51 = .ok (.iconst 1, 1) := by decide +kernel
theorem dX6_readLine_52 : decode cX6_readLine 52 = .ok (.goto 4, 3) := by decide +kernel
theorem dX6_readLine_55 : decode cX6_readLine 55 = .ok (.iconst 0, 1) := by decide +kernel
theorem dX6_readLine_56 : decode cX6_readLine 56 = .ok (.iconst 5, 1) := by decide +kernel
theorem dX6_readLine_57 : decode cX6_readLine 57 = .ok (.invokevirtual 98, 3) := by decide +kernel
theorem dX6_readLine_60 : decode cX6_readLine 60 = .ok (.aload_n 0, 1) := by decide +kernel
theorem dX6_readLine_61 : decode cX6_readLine 61 = .ok (.iload_n 1, 1) := by decide +kernel
theorem dX6_readLine_62 : decode cX6_readLine 62 = .ok (.iconst 4, 1) := by decide +kernel
theorem dX6_readLine_63 : decode cX6_readLine 63 = .ok (.if_icmp .ne 10, 3) := by decide +kernel
theorem dX6_readLine_66 : decode cX6_readLine 66 = .ok (.aload_n 0, 1) := by decide +kernel
theorem dX6_readLine_67 : decode cX6_readLine 67 = .ok (.getfield 50, 3) := by decide +kernel
theorem dX6_readLine_70 : decode cX6_readLine 70 = .ok (.ifCond .ne 7, 3) := by decide +kernel
theorem dX6_readLine_73 : decode cX6_readLine 73 = .ok (.iconst 1, 1) := by decide +kernel
theorem dX6_readLine_74 : decode cX6_readLine 74 = .ok (.goto 4, 3) := by decide +kernel
theorem dX6_readLine_77 : decode cX6_readLine 77 = .ok (.iconst 0, 1) := by decide +kernel
theorem dX6_readLine_78 : decode cX6_readLine 78 = .ok (.iconst 4, 1) := by decide +kernel
theorem dX6_readLine_79 : decode cX6_readLine 79 = .ok (.invokevirtual 98, 3) := by decide +kernel
theorem dX6_readLine_82 : decode cX6_readLine 82 = .ok (.aload_n 0, 1) := by decide +kernel
theorem dX6_readLine_83 : decode cX6_readLine 83 = .ok (.aload_n 0, 1) := by decide +kernel
theorem dX6_readLine_84 : decode cX6_readLine 84 = .ok (.getfield 50, 3) := by decide +kernel
theorem dX6_readLine_87 : decode cX6_readLine 87 = .ok (.ifCond .ne 8, 3) := by decide +kernel
theorem dX6_readLine_90 : decode cX6_readLine 90 = .ok (.iload_n 1, 1) := by decide +kernel
theorem dX6_readLine_91 : decode cX6_readLine 91 = .ok (.iconst 4, 1) := by decide +kernel
theorem dX6_readLine_92 : decode cX6_readLine 92 = .ok (.if_icmp .ne 7, 3) := by decide +kernel
theorem dX6_readLine_95 : decode cX6_readLine 95 = .ok (.iconst 1, 1) := by decide +kernel
theorem dX6_readLine_96 : decode cX6_readLine 96 = .ok (.goto 4, 3) := by decide +kernel
theorem dX6_readLine_99 : decode cX6_readLine 99 = .ok (.iconst 0, 1) := by decide +kernel
theorem dX6_readLine_100 : decode cX6_readLine 100 = .ok (.putfield 50, 3) := by decide +kernel
theorem dX6_readLine_103 : decode cX6_readLine 103 = .ok (.aload_n 0, 1) := by decide +kernel
theorem dX6_readLine_104 : decode cX6_readLine 104 = .ok (.invokevirtual 102, 3) := by decide +kernel
theorem dX6_readLine_107 : decode cX6_readLine 107 = .ok (.aload_n 0, 1) := by decide +kernel
theorem dX6_readLine_108 : decode cX6_readLine 108 = .ok (.getfield 64, 3) := by decide +kernel
theorem dX6_readLine_111 : decode cX6_readLine 111 = .ok (.ifCond .le 4, 3) := by decide +kernel
theorem dX6_readLine_114 : decode cX6_readLine 114 = .ok (.return_, 1) := by decide +kernel
theorem dX6_readLine_115 : decode cX6_readLine 115 = .ok (.iload_n 1, 1) := by decide +kernel
theorem dX6_readLine_116 : decode cX6_readLine 116 = .ok (.iconst 4, 1) := by decide +kernel
theorem dX6_readLine_117 : decode cX6_readLine 117 = .ok (.if_icmp .ne 10, 3) := by decide +kernel
theorem dX6_readLine_120 : decode cX6_readLine 120 = .ok (.aload_n 0, 1) := by decide +kernel
theorem dX6_readLine_121 : decode cX6_readLine 121 = .ok (.invokevirtual 113, 3) := by decide +kernel
theorem dX6_readLine_124 : decode cX6_readLine 124 = .ok (.goto 8, 3) := by decide +kernel
theorem dX6_readLine_127 : decode cX6_readLine 127 = .ok (.aload_n 0, 1) := by decide +kernel
theorem dX6_readLine_128 : decode cX6_readLine 128 = .ok (.iload_n 1, 1) := by decide +kernel
theorem dX6_readLine_129 : decode cX6_readLine 129 = .ok (.invokevirtual 116, 3) := by decide +kernel
theorem dX6_readLine_132 : decode cX6_readLine 132 = .ok (.aload_n 0, 1) := by decide +kernel
theorem dX6_readLine_133 : decode cX6_readLine 133 = .ok (.getfield 64, 3) := by decide +kernel
theorem dX6_readLine_136 : decode cX6_readLine 136 = .ok (.ifCond .ne 21, 3) := by decide +kernel
theorem dX6_readLine_139 : decode cX6_readLine 139 = .ok (.aload_n 0, 1) := by decide +kernel
theorem dX6_readLine_140 : decode cX6_readLine 140 = .ok (.aload_n 0, 1) := by decide +kernel
theorem dX6_readLine_141 : decode cX6_readLine 141 = .ok (.getfield 84, 3) := by decide +kernel
theorem dX6_readLine_144 : decode cX6_readLine 144 = .ok (.iconst 3, 1) := by decide +kernel
theorem dX6_readLine_145 : decode cX6_readLine 145 = .ok (.if_icmp .ne 7, 3) := by decide +kernel
theorem dX6_readLine_148 : decode cX6_readLine 148 = .ok (.iconst 1, 1) := by decide +kernel
theorem dX6_readLine_149 : decode cX6_readLine 149 = .ok (.goto 4, 3) := by decide +kernel
theorem dX6_readLine_152 : decode cX6_readLine 152 = .ok (.iconst 0, 1) := by decide +kernel
theorem dX6_readLine_153 : decode cX6_readLine 153 = .ok (.iconst 2, 1) := by decide +kernel
theorem dX6_readLine_154 : decode cX6_readLine 154 = .ok (.invokevirtual 98, 3) := by decide +kernel
theorem dX6_readLine_157 : decode cX6_readLine 157 = .ok (.aload_n 0, 1) := by decide +kernel
theorem dX6_readLine_158 : decode cX6_readLine 158 = .ok (.invokevirtual 102, 3) := by decide +kernel
theorem dX6_readLine_161 : decode cX6_readLine 161 = .ok (.return_, 1) := by decide +kernel
set_option maxRecDepth 100000 in
theorem ggX6_text_X6_firstDraft : GoodIn wsX6_text wsX6_firstDraft := goodIn_r _ [10, 11, 12, 65, 66, 67, 68, 69, 70, 71, 72, 73, 74, 75, 76, 77, 78, 79, 80, 81, 82, 83, 84, 85, 86, 87, 88, 89, 90, 91, 92, 93, 94] rfl (by decide +kernel)
set_option maxRecDepth 100000 in
theorem gX6_text_X6_firstDraft : GoodIn wsX6_text (wsV RX6 44 RX6 yX6_firstDraft wsX6_firstDraft) := goodIn_app (goodIn_of _ (by decide +kernel)) ggX6_text_X6_firstDraft
set_option maxRecDepth 100000 in
theorem ggX6_text_X6_reads : GoodIn wsX6_text wsX6_reads := goodIn_r _ [16, 1, 2, 17, 3, 18, 19, 20, 21, 22, 23, 24, 25, 9, 26, 4, 27, 28, 29, 30, 31, 32, 33, 34, 5, 65, 66, 67, 68, 69, 70, 71, 72, 73, 74, 75, 76, 77, 78, 79, 80, 81, 82, 83, 84, 85, 86, 87, 88, 89, 90, 91, 92, 93, 94] rfl (by decide +kernel)
set_option maxRecDepth 100000 in
theorem gX6_text_X6_reads : GoodIn wsX6_text (wsV RX6 102 RX6 yX6_reads wsX6_reads) := goodIn_app (goodIn_of _ (by decide +kernel)) ggX6_text_X6_reads
set_option maxRecDepth 100000 in
theorem ggX6_text_X6_readLine : GoodIn wsX6_text wsX6_readLine := goodIn_r _ [38, 3, 11, 12, 1, 39, 40, 41, 9, 42, 17, 43, 44, 45, 46, 2, 23, 24, 25, 26, 4, 27, 31, 32, 33, 34, 5, 13, 14, 15, 16, 18, 19, 20, 21, 22, 28, 29, 30, 47, 48, 49, 50, 51, 52, 53, 54, 55, 56, 57, 58, 65, 66, 67, 68, 69, 70, 71, 72, 73, 74, 75, 76, 77, 78, 79, 80, 81, 82, 83, 84, 85, 86, 87, 88, 89, 90, 91, 92, 93, 94] rfl (by decide +kernel)
set_option maxRecDepth 100000 in
theorem gX6_text_X6_readLine : GoodIn wsX6_text (wsV RX6 120 RX6 yX6_readLine wsX6_readLine) := goodIn_app (goodIn_of _ (by decide +kernel)) ggX6_text_X6_readLine
set_option maxRecDepth 100000 in
theorem ggX6_text_X6_keepDraft : GoodIn wsX6_text wsX6_keepDraft := goodIn_r _ [62, 63, 11, 64, 65, 66, 67, 68, 69, 70, 71, 72, 73, 74, 75, 76, 77, 78, 79, 80, 81, 82, 83, 84, 85, 86, 87, 88, 89, 90, 91, 92, 93, 94] rfl (by decide +kernel)
set_option maxRecDepth 100000 in
theorem gX6_text_X6_keepDraft : GoodIn wsX6_text (wsV RX6 47 RX6 yX6_keepDraft wsX6_keepDraft) := goodIn_app (goodIn_of _ (by decide +kernel)) ggX6_text_X6_keepDraft
theorem dX6_text_0 : decode cX6_text 0 = .ok (.iconst 0, 1) := by decide +kernel
theorem dX6_text_1 : decode cX6_text 1 = .ok (.istore_n 1, 1) := by decide +kernel
theorem dX6_text_2 : decode cX6_text 2 = .ok (.aload_n 0, 1) := by decide +kernel
theorem dX6_text_3 : decode cX6_text 3 = .ok (.iconst 0, 1) := by decide +kernel
theorem dX6_text_4 : decode cX6_text 4 = .ok (.putfield 64, 3) := by decide +kernel
theorem dX6_text_7 : decode cX6_text 7 = .ok (.aload_n 0, 1) := by decide +kernel
theorem dX6_text_8 : decode cX6_text 8 = .ok (.iconst 0, 1) := by decide +kernel
theorem dX6_text_9 : decode cX6_text 9 = .ok (.putfield 73, 3) := by decide +kernel
theorem dX6_text_12 : decode cX6_text 12 = .ok (.aload_n 0, 1) := by decide +kernel
theorem dX6_text_13 : decode cX6_text 13 = .ok (.invokevirtual 44, 3) := by decide +kernel
theorem dX6_text_16 : decode cX6_text 16 = .ok (.aload_n 0, 1) := by decide +kernel
theorem dX6_text_17 : decode cX6_text 17 = .ok (.invokevirtual 102, 3) := by decide +kernel
theorem dX6_text_20 : decode cX6_text 20 = .ok (.aload_n 0, 1) := by decide +kernel
theorem dX6_text_21 : decode cX6_text 21 = .ok (.getfield 64, 3) := by decide +kernel
theorem dX6_text_24 : decode cX6_text 24 = .ok (.ifCond .ne 20, 3) := by decide +kernel
theorem dX6_text_27 : decode cX6_text 27 = .ok (.aload_n 0, 1) := by decide +kernel
theorem dX6_text_28 : decode cX6_text 28 = .ok (.getfield 84, 3) := by decide +kernel
theorem dX6_text_31 : decode cX6_text 31 = .ok (.ifCond .eq 13, 3) := by decide +kernel
theorem dX6_text_34 : decode cX6_text 34 = .ok (.aload_n 0, 1) := by decide +kernel
theorem dX6_text_35 : decode cX6_text 35 = .ok (.invokevirtual 120, 3) := by decide +kernel
theorem dX6_text_38 : decode cX6_text 38 = .ok (.iinc 1 1, 3) := by decide +kernel
theorem dX6_text_41 : decode cX6_text 41 = .ok (.goto (-21), 3) := by decide +kernel
theorem dX6_text_44 : decode cX6_text 44 = .ok (.aload_n 0, 1) := by decide +kernel
theorem dX6_text_45 : decode cX6_text 45 = .ok (.iconst 0, 1) := by decide +kernel
theorem dX6_text_46 : decode cX6_text 46 = .ok (.putfield 60, 3) := by decide +kernel
theorem dX6_text_49 : decode cX6_text 49 = .ok (.aload_n 0, 1) := by decide +kernel
theorem dX6_text_50 : decode cX6_text 50 = .ok (.getfield 64, 3) := by decide +kernel
theorem dX6_text_53 : decode cX6_text 53 = .ok (.ifCond .le 11, 3) := by decide +kernel
theorem dX6_text_56 : decode cX6_text 56 = .ok (.bipush (-10), 2) := by decide +kernel
theorem dX6_text_58 : decode cX6_text 58 = .ok (.aload_n 0, 1) := by decide +kernel
theorem dX6_text_59 : decode cX6_text 59 = .ok (.getfield 70, 3) := by decide +kernel
theorem dX6_text_62 : decode cX6_text 62 = .ok (.isub, 1) := by decide +kernel
theorem dX6_text_63 : decode cX6_text 63 = .ok (.ireturn, 1) := by decide +kernel
theorem dX6_text_64 : decode cX6_text 64 = .ok (.aload_n 0, 1) := by decide +kernel
theorem dX6_text_65 : decode cX6_text 65 = .ok (.invokevirtual 47, 3) := by decide +kernel
theorem dX6_text_68 : decode cX6_text 68 = .ok (.iload_n 1, 1) := by decide +kernel
theorem dX6_text_69 : decode cX6_text 69 = .ok (.ireturn, 1) := by decide +kernel
theorem dX6_fault_0 : decode cX6_fault 0 = .ok (.aload_n 0, 1) := by decide +kernel
theorem dX6_fault_1 : decode cX6_fault 1 = .ok (.getfield 64, 3) := by decide +kernel
theorem dX6_fault_4 : decode cX6_fault 4 = .ok (.ireturn, 1) := by decide +kernel
set_option maxRecDepth 100000 in
theorem ggX6_isUnit_X6_in : GoodIn wsX6_isUnit wsX6_in := goodIn_r _ [5] rfl (by decide +kernel)
set_option maxRecDepth 100000 in
theorem gX6_isUnit_X6_in : GoodIn wsX6_isUnit (va_wsS RX6 56 yX6_in wsX6_in) := goodIn_app (goodIn_of _ (by decide +kernel)) ggX6_isUnit_X6_in
theorem dX6_isUnit_0 : decode cX6_isUnit 0 = .ok (.iload_n 1, 1) := by decide +kernel
theorem dX6_isUnit_1 : decode cX6_isUnit 1 = .ok (.i2l, 1) := by decide +kernel
theorem dX6_isUnit_2 : decode cX6_isUnit 2 = .ok (.lconst 0, 1) := by decide +kernel
theorem dX6_isUnit_3 : decode cX6_isUnit 3 = .ok (.aload_n 0, 1) := by decide +kernel
theorem dX6_isUnit_4 : decode cX6_isUnit 4 = .ok (.getfield 7, 3) := by decide +kernel
theorem dX6_isUnit_7 : decode cX6_isUnit 7 = .ok (.bipush 20, 2) := by decide +kernel
theorem dX6_isUnit_9 : decode cX6_isUnit 9 = .ok (.iaload, 1) := by decide +kernel
theorem dX6_isUnit_10 : decode cX6_isUnit 10 = .ok (.iconst 1, 1) := by decide +kernel
theorem dX6_isUnit_11 : decode cX6_isUnit 11 = .ok (.isub, 1) := by decide +kernel
theorem dX6_isUnit_12 : decode cX6_isUnit 12 = .ok (.i2l, 1) := by decide +kernel
theorem dX6_isUnit_13 : decode cX6_isUnit 13 = .ok (.invokestatic 56, 3) := by decide +kernel
theorem dX6_isUnit_16 : decode cX6_isUnit 16 = .ok (.ireturn, 1) := by decide +kernel
set_option maxRecDepth 100000 in
theorem ggX6_isSign_X6_in : GoodIn wsX6_isSign wsX6_in := goodIn_r _ [5] rfl (by decide +kernel)
set_option maxRecDepth 100000 in
theorem gX6_isSign_X6_in : GoodIn wsX6_isSign (va_wsS RX6 56 yX6_in wsX6_in) := goodIn_app (goodIn_of _ (by decide +kernel)) ggX6_isSign_X6_in
theorem dX6_isSign_0 : decode cX6_isSign 0 = .ok (.iload_n 1, 1) := by decide +kernel
theorem dX6_isSign_1 : decode cX6_isSign 1 = .ok (.i2l, 1) := by decide +kernel
theorem dX6_isSign_2 : decode cX6_isSign 2 = .ok (.lconst 0, 1) := by decide +kernel
theorem dX6_isSign_3 : decode cX6_isSign 3 = .ok (.aload_n 0, 1) := by decide +kernel
theorem dX6_isSign_4 : decode cX6_isSign 4 = .ok (.getfield 7, 3) := by decide +kernel
theorem dX6_isSign_7 : decode cX6_isSign 7 = .ok (.bipush 37, 2) := by decide +kernel
theorem dX6_isSign_9 : decode cX6_isSign 9 = .ok (.iaload, 1) := by decide +kernel
theorem dX6_isSign_10 : decode cX6_isSign 10 = .ok (.iconst 1, 1) := by decide +kernel
theorem dX6_isSign_11 : decode cX6_isSign 11 = .ok (.isub, 1) := by decide +kernel
theorem dX6_isSign_12 : decode cX6_isSign 12 = .ok (.i2l, 1) := by decide +kernel
theorem dX6_isSign_13 : decode cX6_isSign 13 = .ok (.invokestatic 56, 3) := by decide +kernel
theorem dX6_isSign_16 : decode cX6_isSign 16 = .ok (.ireturn, 1) := by decide +kernel
set_option maxRecDepth 100000 in
theorem ggX6_isPart_X6_in : GoodIn wsX6_isPart wsX6_in := goodIn_r _ [4] rfl (by decide +kernel)
set_option maxRecDepth 100000 in
theorem gX6_isPart_X6_in : GoodIn wsX6_isPart (va_wsS RX6 56 yX6_in wsX6_in) := goodIn_app (goodIn_of _ (by decide +kernel)) ggX6_isPart_X6_in
theorem dX6_isPart_0 : decode cX6_isPart 0 = .ok (.iload_n 0, 1) := by decide +kernel
theorem dX6_isPart_1 : decode cX6_isPart 1 = .ok (.i2l, 1) := by decide +kernel
theorem dX6_isPart_2 : decode cX6_isPart 2 = .ok (.lconst 0, 1) := by decide +kernel
theorem dX6_isPart_3 : decode cX6_isPart 3 = .ok (.lconst 1, 1) := by decide +kernel
theorem dX6_isPart_4 : decode cX6_isPart 4 = .ok (.invokestatic 56, 3) := by decide +kernel
theorem dX6_isPart_7 : decode cX6_isPart 7 = .ok (.ireturn, 1) := by decide +kernel
theorem dX6_starts_0 : decode cX6_starts 0 = .ok (.iconst 0, 1) := by decide +kernel
theorem dX6_starts_1 : decode cX6_starts 1 = .ok (.istore_n 1, 1) := by decide +kernel
theorem dX6_starts_2 : decode cX6_starts 2 = .ok (.iload_n 1, 1) := by decide +kernel
theorem dX6_starts_3 : decode cX6_starts 3 = .ok (.bipush 61, 2) := by decide +kernel
theorem dX6_starts_5 : decode cX6_starts 5 = .ok (.if_icmp .ge 21, 3) := by decide +kernel
theorem dX6_starts_8 : decode cX6_starts 8 = .ok (.aload_n 0, 1) := by decide +kernel
theorem dX6_starts_9 : decode cX6_starts 9 = .ok (.getfield 13, 3) := by decide +kernel
theorem dX6_starts_12 : decode cX6_starts 12 = .ok (.iload_n 1, 1) := by decide +kernel
theorem dX6_starts_13 : decode cX6_starts 13 = .ok (.aload_n 0, 1) := by decide +kernel
theorem dX6_starts_14 : decode cX6_starts 14 = .ok (.getfield 7, 3) := by decide +kernel
theorem dX6_starts_17 : decode cX6_starts 17 = .ok (.iload_n 1, 1) := by decide +kernel
theorem dX6_starts_18 : decode cX6_starts 18 = .ok (.iaload, 1) := by decide +kernel
theorem dX6_starts_19 : decode cX6_starts 19 = .ok (.iastore, 1) := by decide +kernel
theorem dX6_starts_20 : decode cX6_starts 20 = .ok (.iinc 1 1, 3) := by decide +kernel
theorem dX6_starts_23 : decode cX6_starts 23 = .ok (.goto (-21), 3) := by decide +kernel
theorem dX6_starts_26 : decode cX6_starts 26 = .ok (.aload_n 0, 1) := by decide +kernel
theorem dX6_starts_27 : decode cX6_starts 27 = .ok (.bipush (-4), 2) := by decide +kernel
theorem dX6_starts_29 : decode cX6_starts 29 = .ok (.putfield 123, 3) := by decide +kernel
theorem dX6_starts_32 : decode cX6_starts 32 = .ok (.aload_n 0, 1) := by decide +kernel
theorem dX6_starts_33 : decode cX6_starts 33 = .ok (.iconst 0, 1) := by decide +kernel
theorem dX6_starts_34 : decode cX6_starts 34 = .ok (.putfield 126, 3) := by decide +kernel
theorem dX6_starts_37 : decode cX6_starts 37 = .ok (.aload_n 0, 1) := by decide +kernel
theorem dX6_starts_38 : decode cX6_starts 38 = .ok (.iconst 0, 1) := by decide +kernel
theorem dX6_starts_39 : decode cX6_starts 39 = .ok (.putfield 129, 3) := by decide +kernel
theorem dX6_starts_42 : decode cX6_starts 42 = .ok (.aload_n 0, 1) := by decide +kernel
theorem dX6_starts_43 : decode cX6_starts 43 = .ok (.iconst 0, 1) := by decide +kernel
theorem dX6_starts_44 : decode cX6_starts 44 = .ok (.putfield 132, 3) := by decide +kernel
theorem dX6_starts_47 : decode cX6_starts 47 = .ok (.return_, 1) := by decide +kernel
theorem dX6_settles_0 : decode cX6_settles 0 = .ok (.iconst 0, 1) := by decide +kernel
theorem dX6_settles_1 : decode cX6_settles 1 = .ok (.istore_n 1, 1) := by decide +kernel
theorem dX6_settles_2 : decode cX6_settles 2 = .ok (.iload_n 1, 1) := by decide +kernel
theorem dX6_settles_3 : decode cX6_settles 3 = .ok (.bipush 61, 2) := by decide +kernel
theorem dX6_settles_5 : decode cX6_settles 5 = .ok (.if_icmp .ge 21, 3) := by decide +kernel
theorem dX6_settles_8 : decode cX6_settles 8 = .ok (.aload_n 0, 1) := by decide +kernel
theorem dX6_settles_9 : decode cX6_settles 9 = .ok (.getfield 7, 3) := by decide +kernel
theorem dX6_settles_12 : decode cX6_settles 12 = .ok (.iload_n 1, 1) := by decide +kernel
theorem dX6_settles_13 : decode cX6_settles 13 = .ok (.aload_n 0, 1) := by decide +kernel
theorem dX6_settles_14 : decode cX6_settles 14 = .ok (.getfield 13, 3) := by decide +kernel
theorem dX6_settles_17 : decode cX6_settles 17 = .ok (.iload_n 1, 1) := by decide +kernel
theorem dX6_settles_18 : decode cX6_settles 18 = .ok (.iaload, 1) := by decide +kernel
theorem dX6_settles_19 : decode cX6_settles 19 = .ok (.iastore, 1) := by decide +kernel
theorem dX6_settles_20 : decode cX6_settles 20 = .ok (.iinc 1 1, 3) := by decide +kernel
theorem dX6_settles_23 : decode cX6_settles 23 = .ok (.goto (-21), 3) := by decide +kernel
theorem dX6_settles_26 : decode cX6_settles 26 = .ok (.return_, 1) := by decide +kernel
theorem dX6_of_0 : decode cX6_of 0 = .ok (.aload_n 0, 1) := by decide +kernel
theorem dX6_of_1 : decode cX6_of 1 = .ok (.getfield 13, 3) := by decide +kernel
theorem dX6_of_4 : decode cX6_of 4 = .ok (.iconst 4, 1) := by decide +kernel
theorem dX6_of_5 : decode cX6_of 5 = .ok (.iload_n 1, 1) := by decide +kernel
theorem dX6_of_6 : decode cX6_of 6 = .ok (.imul, 1) := by decide +kernel
theorem dX6_of_7 : decode cX6_of 7 = .ok (.iload_n 2, 1) := by decide +kernel
theorem dX6_of_8 : decode cX6_of 8 = .ok (.iadd, 1) := by decide +kernel
theorem dX6_of_9 : decode cX6_of 9 = .ok (.iaload, 1) := by decide +kernel
theorem dX6_of_10 : decode cX6_of 10 = .ok (.ireturn, 1) := by decide +kernel
theorem dX6_becomesOf_0 : decode cX6_becomesOf 0 = .ok (.aload_n 0, 1) := by decide +kernel
theorem dX6_becomesOf_1 : decode cX6_becomesOf 1 = .ok (.getfield 13, 3) := by decide +kernel
theorem dX6_becomesOf_4 : decode cX6_becomesOf 4 = .ok (.iconst 4, 1) := by decide +kernel
theorem dX6_becomesOf_5 : decode cX6_becomesOf 5 = .ok (.iload_n 1, 1) := by decide +kernel
theorem dX6_becomesOf_6 : decode cX6_becomesOf 6 = .ok (.imul, 1) := by decide +kernel
theorem dX6_becomesOf_7 : decode cX6_becomesOf 7 = .ok (.iload_n 2, 1) := by decide +kernel
theorem dX6_becomesOf_8 : decode cX6_becomesOf 8 = .ok (.iadd, 1) := by decide +kernel
theorem dX6_becomesOf_9 : decode cX6_becomesOf 9 = .ok (.iload_n 3, 1) := by decide +kernel
theorem dX6_becomesOf_10 : decode cX6_becomesOf 10 = .ok (.iastore, 1) := by decide +kernel
theorem dX6_becomesOf_11 : decode cX6_becomesOf 11 = .ok (.return_, 1) := by decide +kernel
set_option maxRecDepth 100000 in
theorem ggX6_stopsBy_X6_of : GoodIn wsX6_stopsBy wsX6_of := goodIn_r _ [5, 6, 7, 8, 9, 10, 11, 12, 13, 14, 15, 16, 17, 18, 19, 20, 21, 22, 23, 24, 25, 26, 27, 28, 29, 30, 31, 32, 33, 34, 35, 36] rfl (by decide +kernel)
set_option maxRecDepth 100000 in
theorem gX6_stopsBy_X6_of : GoodIn wsX6_stopsBy (wsV RX6 135 RX6 yX6_of wsX6_of) := goodIn_app (goodIn_of _ (by decide +kernel)) ggX6_stopsBy_X6_of
theorem dX6_stopsBy_0 : decode cX6_stopsBy 0 = .ok (.iload_n 2, 1) := by decide +kernel
theorem dX6_stopsBy_1 : decode cX6_stopsBy 1 = .ok (.ifCond .le 35, 3) := by decide +kernel
theorem dX6_stopsBy_4 : decode cX6_stopsBy 4 = .ok (.aload_n 0, 1) := by decide +kernel
theorem dX6_stopsBy_5 : decode cX6_stopsBy 5 = .ok (.iload_n 1, 1) := by decide +kernel
theorem dX6_stopsBy_6 : decode cX6_stopsBy 6 = .ok (.iconst 0, 1) := by decide +kernel
theorem dX6_stopsBy_7 : decode cX6_stopsBy 7 = .ok (.invokevirtual 135, 3) := by decide +kernel
theorem dX6_stopsBy_10 : decode cX6_stopsBy 10 = .ok (.ifCond .ne 24, 3) := by decide +kernel
theorem dX6_stopsBy_13 : decode cX6_stopsBy 13 = .ok (.aload_n 0, 1) := by decide +kernel
theorem dX6_stopsBy_14 : decode cX6_stopsBy 14 = .ok (.iload_n 1, 1) := by decide +kernel
theorem dX6_stopsBy_15 : decode cX6_stopsBy 15 = .ok (.iconst 2, 1) := by decide +kernel
theorem dX6_stopsBy_16 : decode cX6_stopsBy 16 = .ok (.invokevirtual 135, 3) := by decide +kernel
theorem dX6_stopsBy_19 : decode cX6_stopsBy 19 = .ok (.iload_n 2, 1) := by decide +kernel
theorem dX6_stopsBy_20 : decode cX6_stopsBy 20 = .ok (.iadd, 1) := by decide +kernel
theorem dX6_stopsBy_21 : decode cX6_stopsBy 21 = .ok (.aload_n 0, 1) := by decide +kernel
theorem dX6_stopsBy_22 : decode cX6_stopsBy 22 = .ok (.iload_n 1, 1) := by decide +kernel
theorem dX6_stopsBy_23 : decode cX6_stopsBy 23 = .ok (.iconst 1, 1) := by decide +kernel
theorem dX6_stopsBy_24 : decode cX6_stopsBy 24 = .ok (.invokevirtual 135, 3) := by decide +kernel
theorem dX6_stopsBy_27 : decode cX6_stopsBy 27 = .ok (.if_icmp .le 7, 3) := by decide +kernel
theorem dX6_stopsBy_30 : decode cX6_stopsBy 30 = .ok (.iconst 1, 1) := by decide +kernel
theorem dX6_stopsBy_31 : decode cX6_stopsBy 31 = .ok (.goto 4, 3) := by decide +kernel
theorem dX6_stopsBy_34 : decode cX6_stopsBy 34 = .ok (.iconst 0, 1) := by decide +kernel
theorem dX6_stopsBy_35 : decode cX6_stopsBy 35 = .ok (.ireturn, 1) := by decide +kernel
theorem dX6_stopsBy_36 : decode cX6_stopsBy 36 = .ok (.aload_n 0, 1) := by decide +kernel
theorem dX6_stopsBy_37 : decode cX6_stopsBy 37 = .ok (.iload_n 1, 1) := by decide +kernel
theorem dX6_stopsBy_38 : decode cX6_stopsBy 38 = .ok (.iconst 0, 1) := by decide +kernel
theorem dX6_stopsBy_39 : decode cX6_stopsBy 39 = .ok (.invokevirtual 135, 3) := by decide +kernel
theorem dX6_stopsBy_42 : decode cX6_stopsBy 42 = .ok (.iconst 3, 1) := by decide +kernel
theorem dX6_stopsBy_43 : decode cX6_stopsBy 43 = .ok (.if_icmp .eq 18, 3) := by decide +kernel
theorem dX6_stopsBy_46 : decode cX6_stopsBy 46 = .ok (.aload_n 0, 1) := by decide +kernel
theorem dX6_stopsBy_47 : decode cX6_stopsBy 47 = .ok (.iload_n 1, 1) := by decide +kernel
theorem dX6_stopsBy_48 : decode cX6_stopsBy 48 = .ok (.iconst 2, 1) := by decide +kernel
theorem dX6_stopsBy_49 : decode cX6_stopsBy 49 = .ok (.invokevirtual 135, 3) := by decide +kernel
theorem dX6_stopsBy_52 : decode cX6_stopsBy 52 = .ok (.iload_n 2, 1) := by decide +kernel
theorem dX6_stopsBy_53 : decode cX6_stopsBy 53 = .ok (.ineg, 1) := by decide +kernel
theorem dX6_stopsBy_54 : decode cX6_stopsBy 54 = .ok (.if_icmp .ge 7, 3) := by decide +kernel
theorem dX6_stopsBy_57 : decode cX6_stopsBy 57 = .ok (.iconst 1, 1) := by decide +kernel
theorem dX6_stopsBy_58 : decode cX6_stopsBy 58 = .ok (.goto 4, 3) := by decide +kernel
theorem dX6_stopsBy_61 : decode cX6_stopsBy 61 = .ok (.iconst 0, 1) := by decide +kernel
theorem dX6_stopsBy_62 : decode cX6_stopsBy 62 = .ok (.ireturn, 1) := by decide +kernel
set_option maxRecDepth 100000 in
theorem ggX6_anyStops_X6_stopsBy : GoodIn wsX6_anyStops wsX6_stopsBy := goodIn_r _ [7, 8, 9, 10, 6, 11, 1, 12, 13, 14, 15, 16, 17, 18, 19, 20, 21, 22, 23, 24, 25, 26, 27, 28, 29, 30, 31, 32, 33, 34, 35, 36, 37, 38, 39, 40, 41] rfl (by decide +kernel)
set_option maxRecDepth 100000 in
theorem gX6_anyStops_X6_stopsBy : GoodIn wsX6_anyStops (wsV RX6 138 RX6 yX6_stopsBy wsX6_stopsBy) := goodIn_app (goodIn_of _ (by decide +kernel)) ggX6_anyStops_X6_stopsBy
theorem dX6_anyStops_0 : decode cX6_anyStops 0 = .ok (.iconst 0, 1) := by decide +kernel
theorem dX6_anyStops_1 : decode cX6_anyStops 1 = .ok (.istore_n 2, 1) := by decide +kernel
theorem dX6_anyStops_2 : decode cX6_anyStops 2 = .ok (.iconst 0, 1) := by decide +kernel
theorem dX6_anyStops_3 : decode cX6_anyStops 3 = .ok (.istore_n 3, 1) := by decide +kernel
theorem dX6_anyStops_4 : decode cX6_anyStops 4 = .ok (.iload_n 3, 1) := by decide +kernel
theorem dX6_anyStops_5 : decode cX6_anyStops 5 = .ok (.aload_n 0, 1) := by decide +kernel
theorem dX6_anyStops_6 : decode cX6_anyStops 6 = .ok (.getfield 13, 3) := by decide +kernel
theorem dX6_anyStops_9 : decode cX6_anyStops 9 = .ok (.bipush 20, 2) := by decide +kernel
theorem dX6_anyStops_11 : decode cX6_anyStops 11 = .ok (.iaload, 1) := by decide +kernel
theorem dX6_anyStops_12 : decode cX6_anyStops 12 = .ok (.if_icmp .ge 36, 3) := by decide +kernel
theorem dX6_anyStops_15 : decode cX6_anyStops 15 = .ok (.iload_n 2, 1) := by decide +kernel
theorem dX6_anyStops_16 : decode cX6_anyStops 16 = .ok (.ifCond .ne 20, 3) := by decide +kernel
theorem dX6_anyStops_19 : decode cX6_anyStops 19 = .ok (.iload_n 3, 1) := by decide +kernel
theorem dX6_anyStops_20 : decode cX6_anyStops 20 = .ok (.aload_n 0, 1) := by decide +kernel
theorem dX6_anyStops_21 : decode cX6_anyStops 21 = .ok (.getfield 123, 3) := by decide +kernel
theorem dX6_anyStops_24 : decode cX6_anyStops 24 = .ok (.if_icmp .eq 16, 3) := by decide +kernel
theorem dX6_anyStops_27 : decode cX6_anyStops 27 = .ok (.aload_n 0, 1) := by decide +kernel
theorem dX6_anyStops_28 : decode cX6_anyStops 28 = .ok (.iload_n 3, 1) := by decide +kernel
theorem dX6_anyStops_29 : decode cX6_anyStops 29 = .ok (.iload_n 1, 1) := by decide +kernel
theorem dX6_anyStops_30 : decode cX6_anyStops 30 = .ok (.invokevirtual 138, 3) := by decide +kernel
theorem dX6_anyStops_33 : decode cX6_anyStops 33 = .ok (.ifCond .eq 7, 3) := by decide +kernel
theorem dX6_anyStops_36 : decode cX6_anyStops 36 = .ok (.iconst 1, 1) := by decide +kernel
theorem dX6_anyStops_37 : decode cX6_anyStops 37 = .ok (.goto 4, 3) := by decide +kernel
theorem dX6_anyStops_40 : decode cX6_anyStops 40 = .ok (.iconst 0, 1) := by decide +kernel
theorem dX6_anyStops_41 : decode cX6_anyStops 41 = .ok (.istore_n 2, 1) := by decide +kernel
theorem dX6_anyStops_42 : decode cX6_anyStops 42 = .ok (.iinc 3 1, 3) := by decide +kernel
theorem dX6_anyStops_45 : decode cX6_anyStops 45 = .ok (.goto (-41), 3) := by decide +kernel
theorem dX6_anyStops_48 : decode cX6_anyStops 48 = .ok (.iload_n 2, 1) := by decide +kernel
theorem dX6_anyStops_49 : decode cX6_anyStops 49 = .ok (.ireturn, 1) := by decide +kernel
set_option maxRecDepth 100000 in
theorem ggX6_extremeOne_X6_of : GoodIn wsX6_extremeOne wsX6_of := goodIn_r _ [7, 1, 8, 9, 10, 11, 12, 13, 14, 15, 16, 17, 18, 19, 20, 21, 22, 23, 24, 25, 26, 27, 28, 29, 30, 31, 32, 33, 34, 35, 36, 37] rfl (by decide +kernel)
set_option maxRecDepth 100000 in
theorem gX6_extremeOne_X6_of : GoodIn wsX6_extremeOne (wsV RX6 135 RX6 yX6_of wsX6_of) := goodIn_app (goodIn_of _ (by decide +kernel)) ggX6_extremeOne_X6_of
theorem dX6_extremeOne_0 : decode cX6_extremeOne 0 = .ok (.bipush (-4), 2) := by decide +kernel
theorem dX6_extremeOne_2 : decode cX6_extremeOne 2 = .ok (.istore_n 2, 1) := by decide +kernel
theorem dX6_extremeOne_3 : decode cX6_extremeOne 3 = .ok (.iconst 0, 1) := by decide +kernel
theorem dX6_extremeOne_4 : decode cX6_extremeOne 4 = .ok (.istore_n 3, 1) := by decide +kernel
theorem dX6_extremeOne_5 : decode cX6_extremeOne 5 = .ok (.iload_n 3, 1) := by decide +kernel
theorem dX6_extremeOne_6 : decode cX6_extremeOne 6 = .ok (.aload_n 0, 1) := by decide +kernel
theorem dX6_extremeOne_7 : decode cX6_extremeOne 7 = .ok (.getfield 13, 3) := by decide +kernel
theorem dX6_extremeOne_10 : decode cX6_extremeOne 10 = .ok (.bipush 20, 2) := by decide +kernel
theorem dX6_extremeOne_12 : decode cX6_extremeOne 12 = .ok (.iaload, 1) := by decide +kernel
theorem dX6_extremeOne_13 : decode cX6_extremeOne 13 = .ok (.if_icmp .ge 78, 3) := by decide +kernel
theorem dX6_extremeOne_16 : decode cX6_extremeOne 16 = .ok (.iload_n 3, 1) := by decide +kernel
theorem dX6_extremeOne_17 : decode cX6_extremeOne 17 = .ok (.aload_n 0, 1) := by decide +kernel
theorem dX6_extremeOne_18 : decode cX6_extremeOne 18 = .ok (.getfield 123, 3) := by decide +kernel
theorem dX6_extremeOne_21 : decode cX6_extremeOne 21 = .ok (.if_icmp .eq 64, 3) := by decide +kernel
theorem dX6_extremeOne_24 : decode cX6_extremeOne 24 = .ok (.iload_n 2, 1) := by decide +kernel
theorem dX6_extremeOne_25 : decode cX6_extremeOne 25 = .ok (.bipush (-4), 2) := by decide +kernel
theorem dX6_extremeOne_27 : decode cX6_extremeOne 27 = .ok (.if_icmp .eq 40, 3) := by decide +kernel
theorem dX6_extremeOne_30 : decode cX6_extremeOne 30 = .ok (.iload_n 1, 1) := by decide +kernel
theorem dX6_extremeOne_31 : decode cX6_extremeOne 31 = .ok (.ifCond .eq 21, 3) := by decide +kernel
theorem dX6_extremeOne_34 : decode cX6_extremeOne 34 = .ok (.aload_n 0, 1) := by decide +kernel
theorem dX6_extremeOne_35 : decode cX6_extremeOne 35 = .ok (.iload_n 3, 1) := by decide +kernel
theorem dX6_extremeOne_36 : decode cX6_extremeOne 36 = .ok (.iconst 2, 1) := by decide +kernel
theorem dX6_extremeOne_37 : decode cX6_extremeOne 37 = .ok (.invokevirtual 135, 3) := by decide +kernel
theorem dX6_extremeOne_40 : decode cX6_extremeOne 40 = .ok (.aload_n 0, 1) := by decide +kernel
theorem dX6_extremeOne_41 : decode cX6_extremeOne 41 = .ok (.iload_n 2, 1) := by decide +kernel
theorem dX6_extremeOne_42 : decode cX6_extremeOne 42 = .ok (.iconst 2, 1) := by decide +kernel
theorem dX6_extremeOne_43 : decode cX6_extremeOne 43 = .ok (.invokevirtual 135, 3) := by decide +kernel
theorem dX6_extremeOne_46 : decode cX6_extremeOne 46 = .ok (.if_icmp .le 25, 3) := by decide +kernel
theorem dX6_extremeOne_49 : decode cX6_extremeOne 49 = .ok (.goto 18, 3) := by decide +kernel
theorem dX6_extremeOne_52 : decode cX6_extremeOne 52 = .ok (.aload_n 0, 1) := by decide +kernel
theorem dX6_extremeOne_53 : decode cX6_extremeOne 53 = .ok (.iload_n 3, 1) := by decide +kernel
theorem dX6_extremeOne_54 : decode cX6_extremeOne 54 = .ok (.iconst 2, 1) := by decide +kernel
theorem dX6_extremeOne_55 : decode cX6_extremeOne 55 = .ok (.invokevirtual 135, 3) := by decide +kernel
theorem dX6_extremeOne_58 : decode cX6_extremeOne 58 = .ok (.aload_n 0, 1) := by decide +kernel
theorem dX6_extremeOne_59 : decode cX6_extremeOne 59 = .ok (.iload_n 2, 1) := by decide +kernel
theorem dX6_extremeOne_60 : decode cX6_extremeOne 60 = .ok (.iconst 2, 1) := by decide +kernel
theorem dX6_extremeOne_61 : decode cX6_extremeOne 61 = .ok (.invokevirtual 135, 3) := by decide +kernel
theorem dX6_extremeOne_64 : decode cX6_extremeOne 64 = .ok (.if_icmp .ge 7, 3) := by decide +kernel
theorem dX6_extremeOne_67 : decode cX6_extremeOne 67 = .ok (.iconst 1, 1) := by decide +kernel
theorem dX6_extremeOne_68 : decode cX6_extremeOne 68 = .ok (.goto 4, 3) := by decide +kernel
theorem dX6_extremeOne_71 : decode cX6_extremeOne 71 = .ok (.iconst 0, 1) := by decide +kernel
theorem dX6_extremeOne_72 : decode cX6_extremeOne 72 = .ok (.istore 4, 2) := by decide +kernel
theorem dX6_extremeOne_74 : decode cX6_extremeOne 74 = .ok (.iload 4, 2) := by decide +kernel
theorem dX6_extremeOne_76 : decode cX6_extremeOne 76 = .ok (.ifCond .eq 7, 3) := by decide +kernel
theorem dX6_extremeOne_79 : decode cX6_extremeOne 79 = .ok (.iload_n 3, 1) := by decide +kernel
theorem dX6_extremeOne_80 : decode cX6_extremeOne 80 = .ok (.goto 4, 3) := by decide +kernel
theorem dX6_extremeOne_83 : decode cX6_extremeOne 83 = .ok (.iload_n 2, 1) := by decide +kernel
theorem dX6_extremeOne_84 : decode cX6_extremeOne 84 = .ok (.istore_n 2, 1) := by decide +kernel
theorem dX6_extremeOne_85 : decode cX6_extremeOne 85 = .ok (.iinc 3 1, 3) := by decide +kernel
theorem dX6_extremeOne_88 : decode cX6_extremeOne 88 = .ok (.goto (-83), 3) := by decide +kernel
theorem dX6_extremeOne_91 : decode cX6_extremeOne 91 = .ok (.iload_n 2, 1) := by decide +kernel
theorem dX6_extremeOne_92 : decode cX6_extremeOne 92 = .ok (.ireturn, 1) := by decide +kernel
set_option maxRecDepth 100000 in
theorem ggX6_leftBy_X6_of : GoodIn wsX6_leftBy wsX6_of := goodIn_r _ [5, 6, 14, 15, 16, 17, 18, 19, 20, 21, 22, 23, 24, 25, 26, 27, 28, 29, 30, 31, 32, 33, 34, 35, 36, 37, 38, 39, 40, 41, 42, 43] rfl (by decide +kernel)
set_option maxRecDepth 100000 in
theorem gX6_leftBy_X6_of : GoodIn wsX6_leftBy (wsV RX6 135 RX6 yX6_of wsX6_of) := goodIn_app (goodIn_of _ (by decide +kernel)) ggX6_leftBy_X6_of
set_option maxRecDepth 100000 in
theorem ggX6_leftBy_X6_lesser : GoodIn wsX6_leftBy wsX6_lesser := goodIn_r _ [9] rfl (by decide +kernel)
set_option maxRecDepth 100000 in
theorem gX6_leftBy_X6_lesser : GoodIn wsX6_leftBy (va_wsS RX6 142 yX6_lesser wsX6_lesser) := goodIn_app (goodIn_of _ (by decide +kernel)) ggX6_leftBy_X6_lesser
set_option maxRecDepth 100000 in
theorem ggX6_leftBy_X6_becomesOf : GoodIn wsX6_leftBy wsX6_becomesOf := goodIn_r _ [13, 6, 14, 15, 16, 17, 18, 19, 20, 21, 22, 23, 24, 25, 26, 27, 28, 29, 30, 31, 32, 33, 34, 35, 36, 37, 38, 39, 40, 41, 42, 43] rfl (by decide +kernel)
set_option maxRecDepth 100000 in
theorem gX6_leftBy_X6_becomesOf : GoodIn wsX6_leftBy (wsV RX6 145 RX6 yX6_becomesOf wsX6_becomesOf) := goodIn_app (goodIn_of _ (by decide +kernel)) ggX6_leftBy_X6_becomesOf
theorem dX6_leftBy_0 : decode cX6_leftBy 0 = .ok (.iload_n 2, 1) := by decide +kernel
theorem dX6_leftBy_1 : decode cX6_leftBy 1 = .ok (.aload_n 0, 1) := by decide +kernel
theorem dX6_leftBy_2 : decode cX6_leftBy 2 = .ok (.iload_n 1, 1) := by decide +kernel
theorem dX6_leftBy_3 : decode cX6_leftBy 3 = .ok (.iconst 1, 1) := by decide +kernel
theorem dX6_leftBy_4 : decode cX6_leftBy 4 = .ok (.invokevirtual 135, 3) := by decide +kernel
theorem dX6_leftBy_7 : decode cX6_leftBy 7 = .ok (.aload_n 0, 1) := by decide +kernel
theorem dX6_leftBy_8 : decode cX6_leftBy 8 = .ok (.iload_n 1, 1) := by decide +kernel
theorem dX6_leftBy_9 : decode cX6_leftBy 9 = .ok (.iconst 2, 1) := by decide +kernel
theorem dX6_leftBy_10 : decode cX6_leftBy 10 = .ok (.invokevirtual 135, 3) := by decide +kernel
theorem dX6_leftBy_13 : decode cX6_leftBy 13 = .ok (.isub, 1) := by decide +kernel
theorem dX6_leftBy_14 : decode cX6_leftBy 14 = .ok (.invokestatic 142, 3) := by decide +kernel
theorem dX6_leftBy_17 : decode cX6_leftBy 17 = .ok (.istore_n 3, 1) := by decide +kernel
theorem dX6_leftBy_18 : decode cX6_leftBy 18 = .ok (.aload_n 0, 1) := by decide +kernel
theorem dX6_leftBy_19 : decode cX6_leftBy 19 = .ok (.iload_n 1, 1) := by decide +kernel
theorem dX6_leftBy_20 : decode cX6_leftBy 20 = .ok (.iconst 2, 1) := by decide +kernel
theorem dX6_leftBy_21 : decode cX6_leftBy 21 = .ok (.aload_n 0, 1) := by decide +kernel
theorem dX6_leftBy_22 : decode cX6_leftBy 22 = .ok (.iload_n 1, 1) := by decide +kernel
theorem dX6_leftBy_23 : decode cX6_leftBy 23 = .ok (.iconst 2, 1) := by decide +kernel
theorem dX6_leftBy_24 : decode cX6_leftBy 24 = .ok (.invokevirtual 135, 3) := by decide +kernel
theorem dX6_leftBy_27 : decode cX6_leftBy 27 = .ok (.iload_n 3, 1) := by decide +kernel
theorem dX6_leftBy_28 : decode cX6_leftBy 28 = .ok (.iadd, 1) := by decide +kernel
theorem dX6_leftBy_29 : decode cX6_leftBy 29 = .ok (.invokevirtual 145, 3) := by decide +kernel
theorem dX6_leftBy_32 : decode cX6_leftBy 32 = .ok (.iload_n 2, 1) := by decide +kernel
theorem dX6_leftBy_33 : decode cX6_leftBy 33 = .ok (.iload_n 3, 1) := by decide +kernel
theorem dX6_leftBy_34 : decode cX6_leftBy 34 = .ok (.isub, 1) := by decide +kernel
theorem dX6_leftBy_35 : decode cX6_leftBy 35 = .ok (.ireturn, 1) := by decide +kernel
set_option maxRecDepth 100000 in
theorem ggX6_lackBy_X6_of : GoodIn wsX6_lackBy wsX6_of := goodIn_r _ [5, 6, 14, 15, 16, 17, 18, 19, 20, 21, 22, 23, 24, 25, 26, 27, 28, 29, 30, 31, 32, 33, 34, 35, 36, 37, 38, 39, 40, 41, 42, 43] rfl (by decide +kernel)
set_option maxRecDepth 100000 in
theorem gX6_lackBy_X6_of : GoodIn wsX6_lackBy (wsV RX6 135 RX6 yX6_of wsX6_of) := goodIn_app (goodIn_of _ (by decide +kernel)) ggX6_lackBy_X6_of
set_option maxRecDepth 100000 in
theorem ggX6_lackBy_X6_lesser : GoodIn wsX6_lackBy wsX6_lesser := goodIn_r _ [9] rfl (by decide +kernel)
set_option maxRecDepth 100000 in
theorem gX6_lackBy_X6_lesser : GoodIn wsX6_lackBy (va_wsS RX6 142 yX6_lesser wsX6_lesser) := goodIn_app (goodIn_of _ (by decide +kernel)) ggX6_lackBy_X6_lesser
set_option maxRecDepth 100000 in
theorem ggX6_lackBy_X6_becomesOf : GoodIn wsX6_lackBy wsX6_becomesOf := goodIn_r _ [13, 6, 14, 15, 16, 17, 18, 19, 20, 21, 22, 23, 24, 25, 26, 27, 28, 29, 30, 31, 32, 33, 34, 35, 36, 37, 38, 39, 40, 41, 42, 43] rfl (by decide +kernel)
set_option maxRecDepth 100000 in
theorem gX6_lackBy_X6_becomesOf : GoodIn wsX6_lackBy (wsV RX6 145 RX6 yX6_becomesOf wsX6_becomesOf) := goodIn_app (goodIn_of _ (by decide +kernel)) ggX6_lackBy_X6_becomesOf
theorem dX6_lackBy_0 : decode cX6_lackBy 0 = .ok (.iload_n 2, 1) := by decide +kernel
theorem dX6_lackBy_1 : decode cX6_lackBy 1 = .ok (.aload_n 0, 1) := by decide +kernel
theorem dX6_lackBy_2 : decode cX6_lackBy 2 = .ok (.iload_n 1, 1) := by decide +kernel
theorem dX6_lackBy_3 : decode cX6_lackBy 3 = .ok (.iconst 2, 1) := by decide +kernel
theorem dX6_lackBy_4 : decode cX6_lackBy 4 = .ok (.invokevirtual 135, 3) := by decide +kernel
theorem dX6_lackBy_7 : decode cX6_lackBy 7 = .ok (.invokestatic 142, 3) := by decide +kernel
theorem dX6_lackBy_10 : decode cX6_lackBy 10 = .ok (.istore_n 3, 1) := by decide +kernel
theorem dX6_lackBy_11 : decode cX6_lackBy 11 = .ok (.aload_n 0, 1) := by decide +kernel
theorem dX6_lackBy_12 : decode cX6_lackBy 12 = .ok (.iload_n 1, 1) := by decide +kernel
theorem dX6_lackBy_13 : decode cX6_lackBy 13 = .ok (.iconst 2, 1) := by decide +kernel
theorem dX6_lackBy_14 : decode cX6_lackBy 14 = .ok (.aload_n 0, 1) := by decide +kernel
theorem dX6_lackBy_15 : decode cX6_lackBy 15 = .ok (.iload_n 1, 1) := by decide +kernel
theorem dX6_lackBy_16 : decode cX6_lackBy 16 = .ok (.iconst 2, 1) := by decide +kernel
theorem dX6_lackBy_17 : decode cX6_lackBy 17 = .ok (.invokevirtual 135, 3) := by decide +kernel
theorem dX6_lackBy_20 : decode cX6_lackBy 20 = .ok (.iload_n 3, 1) := by decide +kernel
theorem dX6_lackBy_21 : decode cX6_lackBy 21 = .ok (.isub, 1) := by decide +kernel
theorem dX6_lackBy_22 : decode cX6_lackBy 22 = .ok (.invokevirtual 145, 3) := by decide +kernel
theorem dX6_lackBy_25 : decode cX6_lackBy 25 = .ok (.iload_n 2, 1) := by decide +kernel
theorem dX6_lackBy_26 : decode cX6_lackBy 26 = .ok (.iload_n 3, 1) := by decide +kernel
theorem dX6_lackBy_27 : decode cX6_lackBy 27 = .ok (.isub, 1) := by decide +kernel
theorem dX6_lackBy_28 : decode cX6_lackBy 28 = .ok (.ireturn, 1) := by decide +kernel
set_option maxRecDepth 100000 in
theorem ggX6_takes_X6_leftBy : GoodIn wsX6_takes wsX6_leftBy := goodIn_r _ [7, 8, 9, 10, 6, 11, 2, 12, 13, 14, 15, 16, 17, 18, 24, 25, 26, 27, 28, 29, 30, 31, 32, 33, 34, 35, 36, 37, 38, 39, 40, 41, 42, 43, 44, 45, 46, 47, 48, 49, 50, 51, 52, 53] rfl (by decide +kernel)
set_option maxRecDepth 100000 in
theorem gX6_takes_X6_leftBy : GoodIn wsX6_takes (wsV RX6 149 RX6 yX6_leftBy wsX6_leftBy) := goodIn_app (goodIn_of _ (by decide +kernel)) ggX6_takes_X6_leftBy
set_option maxRecDepth 100000 in
theorem ggX6_takes_X6_of : GoodIn wsX6_takes wsX6_of := goodIn_r _ [11, 2, 24, 25, 26, 27, 28, 29, 30, 31, 32, 33, 34, 35, 36, 37, 38, 39, 40, 41, 42, 43, 44, 45, 46, 47, 48, 49, 50, 51, 52, 53] rfl (by decide +kernel)
set_option maxRecDepth 100000 in
theorem gX6_takes_X6_of : GoodIn wsX6_takes (wsV RX6 135 RX6 yX6_of wsX6_of) := goodIn_app (goodIn_of _ (by decide +kernel)) ggX6_takes_X6_of
set_option maxRecDepth 100000 in
theorem ggX6_takes_X6_extremeOne : GoodIn wsX6_takes wsX6_extremeOne := goodIn_r _ [22, 2, 23, 8, 9, 10, 6, 11, 24, 25, 26, 27, 28, 29, 30, 31, 32, 33, 34, 35, 36, 37, 38, 39, 40, 41, 42, 43, 44, 45, 46, 47, 48, 49, 50, 51, 52, 53] rfl (by decide +kernel)
set_option maxRecDepth 100000 in
theorem gX6_takes_X6_extremeOne : GoodIn wsX6_takes (wsV RX6 152 RX6 yX6_extremeOne wsX6_extremeOne) := goodIn_app (goodIn_of _ (by decide +kernel)) ggX6_takes_X6_extremeOne
set_option maxRecDepth 100000 in
theorem ggX6_takes_X6_lesser : GoodIn wsX6_takes wsX6_lesser := goodIn_r _ [14] rfl (by decide +kernel)
set_option maxRecDepth 100000 in
theorem gX6_takes_X6_lesser : GoodIn wsX6_takes (va_wsS RX6 142 yX6_lesser wsX6_lesser) := goodIn_app (goodIn_of _ (by decide +kernel)) ggX6_takes_X6_lesser
theorem dX6_takes_0 : decode cX6_takes 0 = .ok (.aload_n 0, 1) := by decide +kernel
theorem dX6_takes_1 : decode cX6_takes 1 = .ok (.iload_n 1, 1) := by decide +kernel
theorem dX6_takes_2 : decode cX6_takes 2 = .ok (.iload_n 2, 1) := by decide +kernel
theorem dX6_takes_3 : decode cX6_takes 3 = .ok (.invokevirtual 149, 3) := by decide +kernel
theorem dX6_takes_6 : decode cX6_takes 6 = .ok (.istore_n 3, 1) := by decide +kernel
theorem dX6_takes_7 : decode cX6_takes 7 = .ok (.iload_n 3, 1) := by decide +kernel
theorem dX6_takes_8 : decode cX6_takes 8 = .ok (.ifCond .le 24, 3) := by decide +kernel
theorem dX6_takes_11 : decode cX6_takes 11 = .ok (.aload_n 0, 1) := by decide +kernel
theorem dX6_takes_12 : decode cX6_takes 12 = .ok (.iload_n 1, 1) := by decide +kernel
theorem dX6_takes_13 : decode cX6_takes 13 = .ok (.iconst 0, 1) := by decide +kernel
theorem dX6_takes_14 : decode cX6_takes 14 = .ok (.invokevirtual 135, 3) := by decide +kernel
theorem dX6_takes_17 : decode cX6_takes 17 = .ok (.iconst 2, 1) := by decide +kernel
theorem dX6_takes_18 : decode cX6_takes 18 = .ok (.if_icmp .lt 14, 3) := by decide +kernel
theorem dX6_takes_21 : decode cX6_takes 21 = .ok (.aload_n 0, 1) := by decide +kernel
theorem dX6_takes_22 : decode cX6_takes 22 = .ok (.aload_n 0, 1) := by decide +kernel
theorem dX6_takes_23 : decode cX6_takes 23 = .ok (.iconst 0, 1) := by decide +kernel
theorem dX6_takes_24 : decode cX6_takes 24 = .ok (.invokevirtual 152, 3) := by decide +kernel
theorem dX6_takes_27 : decode cX6_takes 27 = .ok (.iload_n 3, 1) := by decide +kernel
theorem dX6_takes_28 : decode cX6_takes 28 = .ok (.invokevirtual 149, 3) := by decide +kernel
theorem dX6_takes_31 : decode cX6_takes 31 = .ok (.istore_n 3, 1) := by decide +kernel
theorem dX6_takes_32 : decode cX6_takes 32 = .ok (.aload_n 0, 1) := by decide +kernel
theorem dX6_takes_33 : decode cX6_takes 33 = .ok (.dup, 1) := by decide +kernel
theorem dX6_takes_34 : decode cX6_takes 34 = .ok (.getfield 132, 3) := by decide +kernel
theorem dX6_takes_37 : decode cX6_takes 37 = .ok (.iload_n 3, 1) := by decide +kernel
theorem dX6_takes_38 : decode cX6_takes 38 = .ok (.iadd, 1) := by decide +kernel
theorem dX6_takes_39 : decode cX6_takes 39 = .ok (.putfield 132, 3) := by decide +kernel
theorem dX6_takes_42 : decode cX6_takes 42 = .ok (.aload_n 0, 1) := by decide +kernel
theorem dX6_takes_43 : decode cX6_takes 43 = .ok (.getfield 13, 3) := by decide +kernel
theorem dX6_takes_46 : decode cX6_takes 46 = .ok (.bipush 40, 2) := by decide +kernel
theorem dX6_takes_48 : decode cX6_takes 48 = .ok (.sipush 9999, 3) := by decide +kernel
theorem dX6_takes_51 : decode cX6_takes 51 = .ok (.aload_n 0, 1) := by decide +kernel
theorem dX6_takes_52 : decode cX6_takes 52 = .ok (.getfield 13, 3) := by decide +kernel
theorem dX6_takes_55 : decode cX6_takes 55 = .ok (.bipush 40, 2) := by decide +kernel
theorem dX6_takes_57 : decode cX6_takes 57 = .ok (.iaload, 1) := by decide +kernel
