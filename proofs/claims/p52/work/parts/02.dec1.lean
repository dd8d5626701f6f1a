theorem dL_isConeGood_137 : decode cL_isConeGood 137 = .ok (.bipush 10, 2) := by decide +kernel
theorem dL_isConeGood_139 : decode cL_isConeGood 139 = .ok (.idiv, 1) := by decide +kernel
theorem dL_isConeGood_140 : decode cL_isConeGood 140 = .ok (.aload_n 0, 1) := by decide +kernel
theorem dL_isConeGood_141 : decode cL_isConeGood 141 = .ok (.iload_n 1, 1) := by decide +kernel
theorem dL_isConeGood_142 : decode cL_isConeGood 142 = .ok (.iload 5, 2) := by decide +kernel
theorem dL_isConeGood_144 : decode cL_isConeGood 144 = .ok (.iconst 1, 1) := by decide +kernel
theorem dL_isConeGood_145 : decode cL_isConeGood 145 = .ok (.isub, 1) := by decide +kernel
theorem dL_isConeGood_146 : decode cL_isConeGood 146 = .ok (.invokevirtual 56, 3) := by decide +kernel
theorem dL_isConeGood_149 : decode cL_isConeGood 149 = .ok (.bipush 10, 2) := by decide +kernel
theorem dL_isConeGood_151 : decode cL_isConeGood 151 = .ok (.idiv, 1) := by decide +kernel
theorem dL_isConeGood_152 : decode cL_isConeGood 152 = .ok (.if_icmp .le 7, 3) := by decide +kernel
theorem dL_isConeGood_155 : decode cL_isConeGood 155 = .ok (.iconst 1, 1) := by decide +kernel
theorem dL_isConeGood_156 : decode cL_isConeGood 156 = .ok (.goto 4, 3) := by decide +kernel
theorem dL_isConeGood_159 : decode cL_isConeGood 159 = .ok (.iconst 0, 1) := by decide +kernel
theorem dL_isConeGood_160 : decode cL_isConeGood 160 = .ok (.istore 4, 2) := by decide +kernel
theorem dL_isConeGood_162 : decode cL_isConeGood 162 = .ok (.iinc 5 1, 3) := by decide +kernel
theorem dL_isConeGood_165 : decode cL_isConeGood 165 = .ok (.goto (-61), 3) := by decide +kernel
theorem dL_isConeGood_168 : decode cL_isConeGood 168 = .ok (.iload 4, 2) := by decide +kernel
theorem dL_isConeGood_170 : decode cL_isConeGood 170 = .ok (.ireturn, 1) := by decide +kernel
theorem dL_isWallGood_0 : decode cL_isWallGood 0 = .ok (.aload_n 0, 1) := by decide +kernel
theorem dL_isWallGood_1 : decode cL_isWallGood 1 = .ok (.iload_n 1, 1) := by decide +kernel
theorem dL_isWallGood_2 : decode cL_isWallGood 2 = .ok (.invokevirtual 83, 3) := by decide +kernel
theorem dL_isWallGood_5 : decode cL_isWallGood 5 = .ok (.istore_n 2, 1) := by decide +kernel
theorem dL_isWallGood_6 : decode cL_isWallGood 6 = .ok (.aload_n 0, 1) := by decide +kernel
theorem dL_isWallGood_7 : decode cL_isWallGood 7 = .ok (.iload_n 1, 1) := by decide +kernel
theorem dL_isWallGood_8 : decode cL_isWallGood 8 = .ok (.invokevirtual 86, 3) := by decide +kernel
theorem dL_isWallGood_11 : decode cL_isWallGood 11 = .ok (.istore_n 3, 1) := by decide +kernel
theorem dL_isWallGood_12 : decode cL_isWallGood 12 = .ok (.iload_n 2, 1) := by decide +kernel
theorem dL_isWallGood_13 : decode cL_isWallGood 13 = .ok (.ifCond .le 31, 3) := by decide +kernel
theorem dL_isWallGood_16 : decode cL_isWallGood 16 = .ok (.iload_n 3, 1) := by decide +kernel
theorem dL_isWallGood_17 : decode cL_isWallGood 17 = .ok (.ifCond .le 27, 3) := by decide +kernel
theorem dL_isWallGood_20 : decode cL_isWallGood 20 = .ok (.aload_n 0, 1) := by decide +kernel
theorem dL_isWallGood_21 : decode cL_isWallGood 21 = .ok (.iload_n 2, 1) := by decide +kernel
theorem dL_isWallGood_22 : decode cL_isWallGood 22 = .ok (.iload_n 3, 1) := by decide +kernel
theorem dL_isWallGood_23 : decode cL_isWallGood 23 = .ok (.invokevirtual 89, 3) := by decide +kernel
theorem dL_isWallGood_26 : decode cL_isWallGood 26 = .ok (.iconst 2, 1) := by decide +kernel
theorem dL_isWallGood_27 : decode cL_isWallGood 27 = .ok (.if_icmp .ne 17, 3) := by decide +kernel
theorem dL_isWallGood_30 : decode cL_isWallGood 30 = .ok (.aload_n 0, 1) := by decide +kernel
theorem dL_isWallGood_31 : decode cL_isWallGood 31 = .ok (.iload_n 2, 1) := by decide +kernel
theorem dL_isWallGood_32 : decode cL_isWallGood 32 = .ok (.iload_n 3, 1) := by decide +kernel
theorem dL_isWallGood_33 : decode cL_isWallGood 33 = .ok (.invokevirtual 92, 3) := by decide +kernel
theorem dL_isWallGood_36 : decode cL_isWallGood 36 = .ok (.iload_n 1, 1) := by decide +kernel
theorem dL_isWallGood_37 : decode cL_isWallGood 37 = .ok (.if_icmp .ne 7, 3) := by decide +kernel
theorem dL_isWallGood_40 : decode cL_isWallGood 40 = .ok (.iconst 1, 1) := by decide +kernel
theorem dL_isWallGood_41 : decode cL_isWallGood 41 = .ok (.goto 4, 3) := by decide +kernel
theorem dL_isWallGood_44 : decode cL_isWallGood 44 = .ok (.iconst 0, 1) := by decide +kernel
theorem dL_isWallGood_45 : decode cL_isWallGood 45 = .ok (.istore 4, 2) := by decide +kernel
theorem dL_isWallGood_47 : decode cL_isWallGood 47 = .ok (.iload 4, 2) := by decide +kernel
theorem dL_isWallGood_49 : decode cL_isWallGood 49 = .ok (.ifCond .eq 39, 3) := by decide +kernel
theorem dL_isWallGood_52 : decode cL_isWallGood 52 = .ok (.aload_n 0, 1) := by decide +kernel
theorem dL_isWallGood_53 : decode cL_isWallGood 53 = .ok (.iload_n 2, 1) := by decide +kernel
theorem dL_isWallGood_54 : decode cL_isWallGood 54 = .ok (.iload_n 3, 1) := by decide +kernel
theorem dL_isWallGood_55 : decode cL_isWallGood 55 = .ok (.iconst 0, 1) := by decide +kernel
theorem dL_isWallGood_56 : decode cL_isWallGood 56 = .ok (.invokevirtual 95, 3) := by decide +kernel
theorem dL_isWallGood_59 : decode cL_isWallGood 59 = .ok (.aload_n 0, 1) := by decide +kernel
theorem dL_isWallGood_60 : decode cL_isWallGood 60 = .ok (.iload_n 1, 1) := by decide +kernel
theorem dL_isWallGood_61 : decode cL_isWallGood 61 = .ok (.invokevirtual 76, 3) := by decide +kernel
theorem dL_isWallGood_64 : decode cL_isWallGood 64 = .ok (.if_icmp .ne 24, 3) := by decide +kernel
theorem dL_isWallGood_67 : decode cL_isWallGood 67 = .ok (.aload_n 0, 1) := by decide +kernel
theorem dL_isWallGood_68 : decode cL_isWallGood 68 = .ok (.iload_n 2, 1) := by decide +kernel
theorem dL_isWallGood_69 : decode cL_isWallGood 69 = .ok (.iload_n 3, 1) := by decide +kernel
theorem dL_isWallGood_70 : decode cL_isWallGood 70 = .ok (.iconst 1, 1) := by decide +kernel
theorem dL_isWallGood_71 : decode cL_isWallGood 71 = .ok (.invokevirtual 95, 3) := by decide +kernel
theorem dL_isWallGood_74 : decode cL_isWallGood 74 = .ok (.aload_n 0, 1) := by decide +kernel
theorem dL_isWallGood_75 : decode cL_isWallGood 75 = .ok (.iload_n 1, 1) := by decide +kernel
theorem dL_isWallGood_76 : decode cL_isWallGood 76 = .ok (.iconst 1, 1) := by decide +kernel
theorem dL_isWallGood_77 : decode cL_isWallGood 77 = .ok (.iadd, 1) := by decide +kernel
theorem dL_isWallGood_78 : decode cL_isWallGood 78 = .ok (.invokevirtual 76, 3) := by decide +kernel
theorem dL_isWallGood_81 : decode cL_isWallGood 81 = .ok (.if_icmp .ne 7, 3) := by decide +kernel
theorem dL_isWallGood_84 : decode cL_isWallGood 84 = .ok (.iconst 1, 1) := by decide +kernel
theorem dL_isWallGood_85 : decode cL_isWallGood 85 = .ok (.goto 4, 3) := by decide +kernel
theorem dL_isWallGood_88 : decode cL_isWallGood 88 = .ok (.iconst 0, 1) := by decide +kernel
theorem dL_isWallGood_89 : decode cL_isWallGood 89 = .ok (.istore 4, 2) := by decide +kernel
theorem dL_isWallGood_91 : decode cL_isWallGood 91 = .ok (.iconst 0, 1) := by decide +kernel
theorem dL_isWallGood_92 : decode cL_isWallGood 92 = .ok (.istore 5, 2) := by decide +kernel
theorem dL_isWallGood_94 : decode cL_isWallGood 94 = .ok (.iload 5, 2) := by decide +kernel
theorem dL_isWallGood_96 : decode cL_isWallGood 96 = .ok (.aload_n 0, 1) := by decide +kernel
theorem dL_isWallGood_97 : decode cL_isWallGood 97 = .ok (.iload_n 1, 1) := by decide +kernel
theorem dL_isWallGood_98 : decode cL_isWallGood 98 = .ok (.invokevirtual 76, 3) := by decide +kernel
theorem dL_isWallGood_101 : decode cL_isWallGood 101 = .ok (.if_icmp .ge 40, 3) := by decide +kernel
theorem dL_isWallGood_104 : decode cL_isWallGood 104 = .ok (.iload 4, 2) := by decide +kernel
theorem dL_isWallGood_106 : decode cL_isWallGood 106 = .ok (.ifCond .eq 26, 3) := by decide +kernel
theorem dL_isWallGood_109 : decode cL_isWallGood 109 = .ok (.aload_n 0, 1) := by decide +kernel
theorem dL_isWallGood_110 : decode cL_isWallGood 110 = .ok (.iload_n 2, 1) := by decide +kernel
theorem dL_isWallGood_111 : decode cL_isWallGood 111 = .ok (.iload_n 3, 1) := by decide +kernel
theorem dL_isWallGood_112 : decode cL_isWallGood 112 = .ok (.iconst 0, 1) := by decide +kernel
theorem dL_isWallGood_113 : decode cL_isWallGood 113 = .ok (.iload 5, 2) := by decide +kernel
theorem dL_isWallGood_115 : decode cL_isWallGood 115 = .ok (.invokevirtual 98, 3) := by decide +kernel
theorem dL_isWallGood_118 : decode cL_isWallGood 118 = .ok (.aload_n 0, 1) := by decide +kernel
theorem dL_isWallGood_119 : decode cL_isWallGood 119 = .ok (.iload_n 1, 1) := by decide +kernel
theorem dL_isWallGood_120 : decode cL_isWallGood 120 = .ok (.iload 5, 2) := by decide +kernel
theorem dL_isWallGood_122 : decode cL_isWallGood 122 = .ok (.invokevirtual 56, 3) := by decide +kernel
theorem dL_isWallGood_125 : decode cL_isWallGood 125 = .ok (.if_icmp .ne 7, 3) := by decide +kernel
theorem dL_isWallGood_128 : decode cL_isWallGood 128 = .ok (.iconst 1, 1) := by decide +kernel
theorem dL_isWallGood_129 : decode cL_isWallGood 129 = .ok (.goto 4, 3) := by decide +kernel
theorem dL_isWallGood_132 : decode cL_isWallGood 132 = .ok (.iconst 0, 1) := by decide +kernel
theorem dL_isWallGood_133 : decode cL_isWallGood 133 = .ok (.istore 4, 2) := by decide +kernel
theorem dL_isWallGood_135 : decode cL_isWallGood 135 = .ok (.iinc 5 1, 3) := by decide +kernel
theorem dL_isWallGood_138 : decode cL_isWallGood 138 = .ok (.goto (-44), 3) := by decide +kernel
theorem dL_isWallGood_141 : decode cL_isWallGood 141 = .ok (.iconst 0, 1) := by decide +kernel
theorem dL_isWallGood_142 : decode cL_isWallGood 142 = .ok (.istore 5, 2) := by decide +kernel
theorem dL_isWallGood_144 : decode cL_isWallGood 144 = .ok (.iload 5, 2) := by decide +kernel
theorem dL_isWallGood_146 : decode cL_isWallGood 146 = .ok (.aload_n 0, 1) := by decide +kernel
theorem dL_isWallGood_147 : decode cL_isWallGood 147 = .ok (.iload_n 1, 1) := by decide +kernel
theorem dL_isWallGood_148 : decode cL_isWallGood 148 = .ok (.iconst 1, 1) := by decide +kernel
theorem dL_isWallGood_149 : decode cL_isWallGood 149 = .ok (.iadd, 1) := by decide +kernel
theorem dL_isWallGood_150 : decode cL_isWallGood 150 = .ok (.invokevirtual 76, 3) := by decide +kernel
theorem dL_isWallGood_153 : decode cL_isWallGood 153 = .ok (.if_icmp .ge 42, 3) := by decide +kernel
theorem dL_isWallGood_156 : decode cL_isWallGood 156 = .ok (.iload 4, 2) := by decide +kernel
theorem dL_isWallGood_158 : decode cL_isWallGood 158 = .ok (.ifCond .eq 28, 3) := by decide +kernel
theorem dL_isWallGood_161 : decode cL_isWallGood 161 = .ok (.aload_n 0, 1) := by decide +kernel
theorem dL_isWallGood_162 : decode cL_isWallGood 162 = .ok (.iload_n 2, 1) := by decide +kernel
theorem dL_isWallGood_163 : decode cL_isWallGood 163 = .ok (.iload_n 3, 1) := by decide +kernel
theorem dL_isWallGood_164 : decode cL_isWallGood 164 = .ok (.iconst 1, 1) := by decide +kernel
theorem dL_isWallGood_165 : decode cL_isWallGood 165 = .ok (.iload 5, 2) := by decide +kernel
theorem dL_isWallGood_167 : decode cL_isWallGood 167 = .ok (.invokevirtual 98, 3) := by decide +kernel
theorem dL_isWallGood_170 : decode cL_isWallGood 170 = .ok (.aload_n 0, 1) := by decide +kernel
theorem dL_isWallGood_171 : decode cL_isWallGood 171 = .ok (.iload_n 1, 1) := by decide +kernel
theorem dL_isWallGood_172 : decode cL_isWallGood 172 = .ok (.iconst 1, 1) := by decide +kernel
theorem dL_isWallGood_173 : decode cL_isWallGood 173 = .ok (.iadd, 1) := by decide +kernel
theorem dL_isWallGood_174 : decode cL_isWallGood 174 = .ok (.iload 5, 2) := by decide +kernel
theorem dL_isWallGood_176 : decode cL_isWallGood 176 = .ok (.invokevirtual 56, 3) := by decide +kernel
theorem dL_isWallGood_179 : decode cL_isWallGood 179 = .ok (.if_icmp .ne 7, 3) := by decide +kernel
theorem dL_isWallGood_182 : decode cL_isWallGood 182 = .ok (.iconst 1, 1) := by decide +kernel
theorem dL_isWallGood_183 : decode cL_isWallGood 183 = .ok (.goto 4, 3) := by decide +kernel
theorem dL_isWallGood_186 : decode cL_isWallGood 186 = .ok (.iconst 0, 1) := by decide +kernel
theorem dL_isWallGood_187 : decode cL_isWallGood 187 = .ok (.istore 4, 2) := by decide +kernel
theorem dL_isWallGood_189 : decode cL_isWallGood 189 = .ok (.iinc 5 1, 3) := by decide +kernel
theorem dL_isWallGood_192 : decode cL_isWallGood 192 = .ok (.goto (-48), 3) := by decide +kernel
theorem dL_isWallGood_195 : decode cL_isWallGood 195 = .ok (.iconst 0, 1) := by decide +kernel
theorem dL_isWallGood_196 : decode cL_isWallGood 196 = .ok (.istore 5, 2) := by decide +kernel
theorem dL_isWallGood_198 : decode cL_isWallGood 198 = .ok (.iload 5, 2) := by decide +kernel
theorem dL_isWallGood_200 : decode cL_isWallGood 200 = .ok (.bipush 9, 2) := by decide +kernel
theorem dL_isWallGood_202 : decode cL_isWallGood 202 = .ok (.if_icmp .ge 61, 3) := by decide +kernel
theorem dL_isWallGood_205 : decode cL_isWallGood 205 = .ok (.iload 4, 2) := by decide +kernel
theorem dL_isWallGood_207 : decode cL_isWallGood 207 = .ok (.ifCond .eq 47, 3) := by decide +kernel
theorem dL_isWallGood_210 : decode cL_isWallGood 210 = .ok (.aload_n 0, 1) := by decide +kernel
theorem dL_isWallGood_211 : decode cL_isWallGood 211 = .ok (.iload_n 2, 1) := by decide +kernel
theorem dL_isWallGood_212 : decode cL_isWallGood 212 = .ok (.iload_n 3, 1) := by decide +kernel
theorem dL_isWallGood_213 : decode cL_isWallGood 213 = .ok (.iconst 0, 1) := by decide +kernel
theorem dL_isWallGood_214 : decode cL_isWallGood 214 = .ok (.iload 5, 2) := by decide +kernel
theorem dL_isWallGood_216 : decode cL_isWallGood 216 = .ok (.invokevirtual 101, 3) := by decide +kernel
theorem dL_isWallGood_219 : decode cL_isWallGood 219 = .ok (.aload_n 0, 1) := by decide +kernel
theorem dL_isWallGood_220 : decode cL_isWallGood 220 = .ok (.iload_n 1, 1) := by decide +kernel
theorem dL_isWallGood_221 : decode cL_isWallGood 221 = .ok (.iload 5, 2) := by decide +kernel
theorem dL_isWallGood_223 : decode cL_isWallGood 223 = .ok (.invokevirtual 53, 3) := by decide +kernel
theorem dL_isWallGood_226 : decode cL_isWallGood 226 = .ok (.if_icmp .ne 28, 3) := by decide +kernel
theorem dL_isWallGood_229 : decode cL_isWallGood 229 = .ok (.aload_n 0, 1) := by decide +kernel
theorem dL_isWallGood_230 : decode cL_isWallGood 230 = .ok (.iload_n 2, 1) := by decide +kernel
theorem dL_isWallGood_231 : decode cL_isWallGood 231 = .ok (.iload_n 3, 1) := by decide +kernel
theorem dL_isWallGood_232 : decode cL_isWallGood 232 = .ok (.iconst 1, 1) := by decide +kernel
theorem dL_isWallGood_233 : decode cL_isWallGood 233 = .ok (.iload 5, 2) := by decide +kernel
theorem dL_isWallGood_235 : decode cL_isWallGood 235 = .ok (.invokevirtual 101, 3) := by decide +kernel
theorem dL_isWallGood_238 : decode cL_isWallGood 238 = .ok (.aload_n 0, 1) := by decide +kernel
theorem dL_isWallGood_239 : decode cL_isWallGood 239 = .ok (.iload_n 1, 1) := by decide +kernel
theorem dL_isWallGood_240 : decode cL_isWallGood 240 = .ok (.iconst 1, 1) := by decide +kernel
theorem dL_isWallGood_241 : decode cL_isWallGood 241 = .ok (.iadd, 1) := by decide +kernel
theorem dL_isWallGood_242 : decode cL_isWallGood 242 = .ok (.iload 5, 2) := by decide +kernel
theorem dL_isWallGood_244 : decode cL_isWallGood 244 = .ok (.invokevirtual 53, 3) := by decide +kernel
theorem dL_isWallGood_247 : decode cL_isWallGood 247 = .ok (.if_icmp .ne 7, 3) := by decide +kernel
theorem dL_isWallGood_250 : decode cL_isWallGood 250 = .ok (.iconst 1, 1) := by decide +kernel
theorem dL_isWallGood_251 : decode cL_isWallGood 251 = .ok (.goto 4, 3) := by decide +kernel
theorem dL_isWallGood_254 : decode cL_isWallGood 254 = .ok (.iconst 0, 1) := by decide +kernel
theorem dL_isWallGood_255 : decode cL_isWallGood 255 = .ok (.istore 4, 2) := by decide +kernel
theorem dL_isWallGood_257 : decode cL_isWallGood 257 = .ok (.iinc 5 1, 3) := by decide +kernel
theorem dL_isWallGood_260 : decode cL_isWallGood 260 = .ok (.goto (-62), 3) := by decide +kernel
theorem dL_isWallGood_263 : decode cL_isWallGood 263 = .ok (.iload_n 1, 1) := by decide +kernel
theorem dL_isWallGood_264 : decode cL_isWallGood 264 = .ok (.ifCond .le 36, 3) := by decide +kernel
theorem dL_isWallGood_267 : decode cL_isWallGood 267 = .ok (.iload 4, 2) := by decide +kernel
theorem dL_isWallGood_269 : decode cL_isWallGood 269 = .ok (.ifCond .eq 28, 3) := by decide +kernel
theorem dL_isWallGood_272 : decode cL_isWallGood 272 = .ok (.aload_n 0, 1) := by decide +kernel
theorem dL_isWallGood_273 : decode cL_isWallGood 273 = .ok (.iload_n 1, 1) := by decide +kernel
theorem dL_isWallGood_274 : decode cL_isWallGood 274 = .ok (.iconst 1, 1) := by decide +kernel
theorem dL_isWallGood_275 : decode cL_isWallGood 275 = .ok (.isub, 1) := by decide +kernel
theorem dL_isWallGood_276 : decode cL_isWallGood 276 = .ok (.invokevirtual 86, 3) := by decide +kernel
theorem dL_isWallGood_279 : decode cL_isWallGood 279 = .ok (.iload_n 2, 1) := by decide +kernel
theorem dL_isWallGood_280 : decode cL_isWallGood 280 = .ok (.imul, 1) := by decide +kernel
theorem dL_isWallGood_281 : decode cL_isWallGood 281 = .ok (.iload_n 3, 1) := by decide +kernel
theorem dL_isWallGood_282 : decode cL_isWallGood 282 = .ok (.aload_n 0, 1) := by decide +kernel
theorem dL_isWallGood_283 : decode cL_isWallGood 283 = .ok (.iload_n 1, 1) := by decide +kernel
theorem dL_isWallGood_284 : decode cL_isWallGood 284 = .ok (.iconst 1, 1) := by decide +kernel
theorem dL_isWallGood_285 : decode cL_isWallGood 285 = .ok (.isub, 1) := by decide +kernel
theorem dL_isWallGood_286 : decode cL_isWallGood 286 = .ok (.invokevirtual 83, 3) := by decide +kernel
theorem dL_isWallGood_289 : decode cL_isWallGood 289 = .ok (.imul, 1) := by decide +kernel
theorem dL_isWallGood_290 : decode cL_isWallGood 290 = .ok (.if_icmp .ge 7, 3) := by decide +kernel
theorem dL_isWallGood_293 : decode cL_isWallGood 293 = .ok (.iconst 1, 1) := by decide +kernel
theorem dL_isWallGood_294 : decode cL_isWallGood 294 = .ok (.goto 4, 3) := by decide +kernel
theorem dL_isWallGood_297 : decode cL_isWallGood 297 = .ok (.iconst 0, 1) := by decide +kernel
theorem dL_isWallGood_298 : decode cL_isWallGood 298 = .ok (.istore 4, 2) := by decide +kernel
theorem dL_isWallGood_300 : decode cL_isWallGood 300 = .ok (.iload 4, 2) := by decide +kernel
theorem dL_isWallGood_302 : decode cL_isWallGood 302 = .ok (.ifCond .eq 29, 3) := by decide +kernel
theorem dL_isWallGood_305 : decode cL_isWallGood 305 = .ok (.aload_n 0, 1) := by decide +kernel
theorem dL_isWallGood_306 : decode cL_isWallGood 306 = .ok (.iload_n 1, 1) := by decide +kernel
theorem dL_isWallGood_307 : decode cL_isWallGood 307 = .ok (.invokevirtual 104, 3) := by decide +kernel
theorem dL_isWallGood_310 : decode cL_isWallGood 310 = .ok (.iconst 1, 1) := by decide +kernel
theorem dL_isWallGood_311 : decode cL_isWallGood 311 = .ok (.if_icmp .lt 20, 3) := by decide +kernel
theorem dL_isWallGood_314 : decode cL_isWallGood 314 = .ok (.aload_n 0, 1) := by decide +kernel
theorem dL_isWallGood_315 : decode cL_isWallGood 315 = .ok (.iload_n 1, 1) := by decide +kernel
theorem dL_isWallGood_316 : decode cL_isWallGood 316 = .ok (.invokevirtual 104, 3) := by decide +kernel
theorem dL_isWallGood_319 : decode cL_isWallGood 319 = .ok (.aload_n 0, 1) := by decide +kernel
theorem dL_isWallGood_320 : decode cL_isWallGood 320 = .ok (.iload_n 1, 1) := by decide +kernel
theorem dL_isWallGood_321 : decode cL_isWallGood 321 = .ok (.invokevirtual 76, 3) := by decide +kernel
theorem dL_isWallGood_324 : decode cL_isWallGood 324 = .ok (.if_icmp .gt 7, 3) := by decide +kernel
theorem dL_isWallGood_327 : decode cL_isWallGood 327 = .ok (.iconst 1, 1) := by decide +kernel
theorem dL_isWallGood_328 : decode cL_isWallGood 328 = .ok (.goto 4, 3) := by decide +kernel
theorem dL_isWallGood_331 : decode cL_isWallGood 331 = .ok (.iconst 0, 1) := by decide +kernel
theorem dL_isWallGood_332 : decode cL_isWallGood 332 = .ok (.ireturn, 1) := by decide +kernel
theorem dL_isContained_0 : decode cL_isContained 0 = .ok (.aload_n 0, 1) := by decide +kernel
theorem dL_isContained_1 : decode cL_isContained 1 = .ok (.iload_n 1, 1) := by decide +kernel
theorem dL_isContained_2 : decode cL_isContained 2 = .ok (.iload_n 2, 1) := by decide +kernel
theorem dL_isContained_3 : decode cL_isContained 3 = .ok (.invokevirtual 92, 3) := by decide +kernel
theorem dL_isContained_6 : decode cL_isContained 6 = .ok (.istore_n 3, 1) := by decide +kernel
theorem dL_isContained_7 : decode cL_isContained 7 = .ok (.aload_n 0, 1) := by decide +kernel
theorem dL_isContained_8 : decode cL_isContained 8 = .ok (.iload_n 1, 1) := by decide +kernel
theorem dL_isContained_9 : decode cL_isContained 9 = .ok (.iload_n 2, 1) := by decide +kernel
theorem dL_isContained_10 : decode cL_isContained 10 = .ok (.invokevirtual 89, 3) := by decide +kernel
theorem dL_isContained_13 : decode cL_isContained 13 = .ok (.istore 4, 2) := by decide +kernel
theorem dL_isContained_15 : decode cL_isContained 15 = .ok (.iconst 0, 1) := by decide +kernel
theorem dL_isContained_16 : decode cL_isContained 16 = .ok (.istore 5, 2) := by decide +kernel
theorem dL_isContained_18 : decode cL_isContained 18 = .ok (.iconst 0, 1) := by decide +kernel
theorem dL_isContained_19 : decode cL_isContained 19 = .ok (.istore 6, 2) := by decide +kernel
theorem dL_isContained_21 : decode cL_isContained 21 = .ok (.iload 6, 2) := by decide +kernel
theorem dL_isContained_23 : decode cL_isContained 23 = .ok (.iconst 1, 1) := by decide +kernel
theorem dL_isContained_24 : decode cL_isContained 24 = .ok (.iadd, 1) := by decide +kernel
theorem dL_isContained_25 : decode cL_isContained 25 = .ok (.aload_n 0, 1) := by decide +kernel
theorem dL_isContained_26 : decode cL_isContained 26 = .ok (.invokevirtual 107, 3) := by decide +kernel
theorem dL_isContained_29 : decode cL_isContained 29 = .ok (.if_icmp .ge 40, 3) := by decide +kernel
theorem dL_isContained_32 : decode cL_isContained 32 = .ok (.iload 5, 2) := by decide +kernel
theorem dL_isContained_34 : decode cL_isContained 34 = .ok (.ifCond .ne 22, 3) := by decide +kernel
theorem dL_isContained_37 : decode cL_isContained 37 = .ok (.iload_n 1, 1) := by decide +kernel
theorem dL_isContained_38 : decode cL_isContained 38 = .ok (.aload_n 0, 1) := by decide +kernel
theorem dL_isContained_39 : decode cL_isContained 39 = .ok (.iload 6, 2) := by decide +kernel
theorem dL_isContained_41 : decode cL_isContained 41 = .ok (.invokevirtual 86, 3) := by decide +kernel
theorem dL_isContained_44 : decode cL_isContained 44 = .ok (.imul, 1) := by decide +kernel
theorem dL_isContained_45 : decode cL_isContained 45 = .ok (.iload_n 2, 1) := by decide +kernel
theorem dL_isContained_46 : decode cL_isContained 46 = .ok (.aload_n 0, 1) := by decide +kernel
theorem dL_isContained_47 : decode cL_isContained 47 = .ok (.iload 6, 2) := by decide +kernel
theorem dL_isContained_49 : decode cL_isContained 49 = .ok (.invokevirtual 83, 3) := by decide +kernel
theorem dL_isContained_52 : decode cL_isContained 52 = .ok (.imul, 1) := by decide +kernel
theorem dL_isContained_53 : decode cL_isContained 53 = .ok (.if_icmp .ne 7, 3) := by decide +kernel
theorem dL_isContained_56 : decode cL_isContained 56 = .ok (.iconst 1, 1) := by decide +kernel
theorem dL_isContained_57 : decode cL_isContained 57 = .ok (.goto 4, 3) := by decide +kernel
theorem dL_isContained_60 : decode cL_isContained 60 = .ok (.iconst 0, 1) := by decide +kernel
theorem dL_isContained_61 : decode cL_isContained 61 = .ok (.istore 5, 2) := by decide +kernel
theorem dL_isContained_63 : decode cL_isContained 63 = .ok (.iinc 6 1, 3) := by decide +kernel
theorem dL_isContained_66 : decode cL_isContained 66 = .ok (.goto (-45), 3) := by decide +kernel
theorem dL_isContained_69 : decode cL_isContained 69 = .ok (.iload 4, 2) := by decide +kernel
theorem dL_isContained_71 : decode cL_isContained 71 = .ok (.iload 5, 2) := by decide +kernel
theorem dL_isContained_73 : decode cL_isContained 73 = .ok (.ifCond .eq 7, 3) := by decide +kernel
theorem dL_isContained_76 : decode cL_isContained 76 = .ok (.iconst 2, 1) := by decide +kernel
theorem dL_isContained_77 : decode cL_isContained 77 = .ok (.goto 4, 3) := by decide +kernel
theorem dL_isContained_80 : decode cL_isContained 80 = .ok (.iconst 1, 1) := by decide +kernel
theorem dL_isContained_81 : decode cL_isContained 81 = .ok (.if_icmp .ne 36, 3) := by decide +kernel
theorem dL_isContained_84 : decode cL_isContained 84 = .ok (.iload_n 3, 1) := by decide +kernel
theorem dL_isContained_85 : decode cL_isContained 85 = .ok (.ifCond .lt 32, 3) := by decide +kernel
theorem dL_isContained_88 : decode cL_isContained 88 = .ok (.iload_n 3, 1) := by decide +kernel
theorem dL_isContained_89 : decode cL_isContained 89 = .ok (.iload 4, 2) := by decide +kernel
theorem dL_isContained_91 : decode cL_isContained 91 = .ok (.iadd, 1) := by decide +kernel
theorem dL_isContained_92 : decode cL_isContained 92 = .ok (.aload_n 0, 1) := by decide +kernel
theorem dL_isContained_93 : decode cL_isContained 93 = .ok (.invokevirtual 107, 3) := by decide +kernel
theorem dL_isContained_96 : decode cL_isContained 96 = .ok (.if_icmp .gt 21, 3) := by decide +kernel
theorem dL_isContained_99 : decode cL_isContained 99 = .ok (.iload_n 1, 1) := by decide +kernel
theorem dL_isContained_100 : decode cL_isContained 100 = .ok (.ifCond .gt 13, 3) := by decide +kernel
theorem dL_isContained_103 : decode cL_isContained 103 = .ok (.iload_n 3, 1) := by decide +kernel
theorem dL_isContained_104 : decode cL_isContained 104 = .ok (.aload_n 0, 1) := by decide +kernel
theorem dL_isContained_105 : decode cL_isContained 105 = .ok (.invokevirtual 107, 3) := by decide +kernel
theorem dL_isContained_108 : decode cL_isContained 108 = .ok (.iconst 1, 1) := by decide +kernel
theorem dL_isContained_109 : decode cL_isContained 109 = .ok (.isub, 1) := by decide +kernel
theorem dL_isContained_110 : decode cL_isContained 110 = .ok (.if_icmp .ne 7, 3) := by decide +kernel
theorem dL_isContained_113 : decode cL_isContained 113 = .ok (.iconst 1, 1) := by decide +kernel
theorem dL_isContained_114 : decode cL_isContained 114 = .ok (.goto 4, 3) := by decide +kernel
theorem dL_isContained_117 : decode cL_isContained 117 = .ok (.iconst 0, 1) := by decide +kernel
theorem dL_isContained_118 : decode cL_isContained 118 = .ok (.istore 6, 2) := by decide +kernel
theorem dL_isContained_120 : decode cL_isContained 120 = .ok (.iload 5, 2) := by decide +kernel
theorem dL_isContained_122 : decode cL_isContained 122 = .ok (.ifCond .ne 50, 3) := by decide +kernel
theorem dL_isContained_125 : decode cL_isContained 125 = .ok (.iconst 0, 1) := by decide +kernel
theorem dL_isContained_126 : decode cL_isContained 126 = .ok (.istore 7, 2) := by decide +kernel
theorem dL_isContained_128 : decode cL_isContained 128 = .ok (.iload 7, 2) := by decide +kernel
theorem dL_isContained_130 : decode cL_isContained 130 = .ok (.bipush 9, 2) := by decide +kernel
theorem dL_isContained_132 : decode cL_isContained 132 = .ok (.if_icmp .ge 40, 3) := by decide +kernel
theorem dL_isContained_135 : decode cL_isContained 135 = .ok (.iload 6, 2) := by decide +kernel
theorem dL_isContained_137 : decode cL_isContained 137 = .ok (.ifCond .eq 26, 3) := by decide +kernel
theorem dL_isContained_140 : decode cL_isContained 140 = .ok (.aload_n 0, 1) := by decide +kernel
theorem dL_isContained_141 : decode cL_isContained 141 = .ok (.iload_n 1, 1) := by decide +kernel
theorem dL_isContained_142 : decode cL_isContained 142 = .ok (.iload_n 2, 1) := by decide +kernel
theorem dL_isContained_143 : decode cL_isContained 143 = .ok (.iconst 1, 1) := by decide +kernel
theorem dL_isContained_144 : decode cL_isContained 144 = .ok (.iload 7, 2) := by decide +kernel
theorem dL_isContained_146 : decode cL_isContained 146 = .ok (.invokevirtual 101, 3) := by decide +kernel
theorem dL_isContained_149 : decode cL_isContained 149 = .ok (.aload_n 0, 1) := by decide +kernel
theorem dL_isContained_150 : decode cL_isContained 150 = .ok (.iload_n 3, 1) := by decide +kernel
theorem dL_isContained_151 : decode cL_isContained 151 = .ok (.iload 7, 2) := by decide +kernel
theorem dL_isContained_153 : decode cL_isContained 153 = .ok (.invokevirtual 53, 3) := by decide +kernel
theorem dL_isContained_156 : decode cL_isContained 156 = .ok (.if_icmp .ne 7, 3) := by decide +kernel
theorem dL_isContained_159 : decode cL_isContained 159 = .ok (.iconst 1, 1) := by decide +kernel
theorem dL_isContained_160 : decode cL_isContained 160 = .ok (.goto 4, 3) := by decide +kernel
theorem dL_isContained_163 : decode cL_isContained 163 = .ok (.iconst 0, 1) := by decide +kernel
theorem dL_isContained_164 : decode cL_isContained 164 = .ok (.istore 6, 2) := by decide +kernel
theorem dL_isContained_166 : decode cL_isContained 166 = .ok (.iinc 7 1, 3) := by decide +kernel
theorem dL_isContained_169 : decode cL_isContained 169 = .ok (.goto (-41), 3) := by decide +kernel
theorem dL_isContained_172 : decode cL_isContained 172 = .ok (.iload 6, 2) := by decide +kernel
theorem dL_isContained_174 : decode cL_isContained 174 = .ok (.ireturn, 1) := by decide +kernel
theorem dL_isUniversal_0 : decode cL_isUniversal 0 = .ok (.iconst 0, 1) := by decide +kernel
theorem dL_isUniversal_1 : decode cL_isUniversal 1 = .ok (.istore_n 1, 1) := by decide +kernel
theorem dL_isUniversal_2 : decode cL_isUniversal 2 = .ok (.iconst 0, 1) := by decide +kernel
theorem dL_isUniversal_3 : decode cL_isUniversal 3 = .ok (.istore_n 2, 1) := by decide +kernel
theorem dL_isUniversal_4 : decode cL_isUniversal 4 = .ok (.iconst 0, 1) := by decide +kernel
theorem dL_isUniversal_5 : decode cL_isUniversal 5 = .ok (.istore_n 3, 1) := by decide +kernel
theorem dL_isUniversal_6 : decode cL_isUniversal 6 = .ok (.iconst 0, 1) := by decide +kernel
theorem dL_isUniversal_7 : decode cL_isUniversal 7 = .ok (.istore 4, 2) := by decide +kernel
theorem dL_isUniversal_9 : decode cL_isUniversal 9 = .ok (.iload 4, 2) := by decide +kernel
theorem dL_isUniversal_11 : decode cL_isUniversal 11 = .ok (.aload_n 0, 1) := by decide +kernel
theorem dL_isUniversal_12 : decode cL_isUniversal 12 = .ok (.invokevirtual 107, 3) := by decide +kernel
theorem dL_isUniversal_15 : decode cL_isUniversal 15 = .ok (.if_icmp .ge 106, 3) := by decide +kernel
theorem dL_isUniversal_18 : decode cL_isUniversal 18 = .ok (.iload_n 1, 1) := by decide +kernel
theorem dL_isUniversal_19 : decode cL_isUniversal 19 = .ok (.aload_n 0, 1) := by decide +kernel
theorem dL_isUniversal_20 : decode cL_isUniversal 20 = .ok (.iload 4, 2) := by decide +kernel
theorem dL_isUniversal_22 : decode cL_isUniversal 22 = .ok (.invokevirtual 76, 3) := by decide +kernel
theorem dL_isUniversal_25 : decode cL_isUniversal 25 = .ok (.iadd, 1) := by decide +kernel
theorem dL_isUniversal_26 : decode cL_isUniversal 26 = .ok (.istore_n 1, 1) := by decide +kernel
theorem dL_isUniversal_27 : decode cL_isUniversal 27 = .ok (.iload_n 3, 1) := by decide +kernel
theorem dL_isUniversal_28 : decode cL_isUniversal 28 = .ok (.aload_n 0, 1) := by decide +kernel
theorem dL_isUniversal_29 : decode cL_isUniversal 29 = .ok (.iload 4, 2) := by decide +kernel
theorem dL_isUniversal_31 : decode cL_isUniversal 31 = .ok (.invokevirtual 76, 3) := by decide +kernel
theorem dL_isUniversal_34 : decode cL_isUniversal 34 = .ok (.invokestatic 110, 3) := by decide +kernel
theorem dL_isUniversal_37 : decode cL_isUniversal 37 = .ok (.istore_n 3, 1) := by decide +kernel
theorem dL_isUniversal_38 : decode cL_isUniversal 38 = .ok (.iconst 0, 1) := by decide +kernel
theorem dL_isUniversal_39 : decode cL_isUniversal 39 = .ok (.istore 5, 2) := by decide +kernel
theorem dL_isUniversal_41 : decode cL_isUniversal 41 = .ok (.iload 5, 2) := by decide +kernel
theorem dL_isUniversal_43 : decode cL_isUniversal 43 = .ok (.aload_n 0, 1) := by decide +kernel
theorem dL_isUniversal_44 : decode cL_isUniversal 44 = .ok (.iload 4, 2) := by decide +kernel
theorem dL_isUniversal_46 : decode cL_isUniversal 46 = .ok (.invokevirtual 76, 3) := by decide +kernel
theorem dL_isUniversal_49 : decode cL_isUniversal 49 = .ok (.if_icmp .ge 66, 3) := by decide +kernel
theorem dL_isUniversal_52 : decode cL_isUniversal 52 = .ok (.iconst 0, 1) := by decide +kernel
theorem dL_isUniversal_53 : decode cL_isUniversal 53 = .ok (.istore 6, 2) := by decide +kernel
theorem dL_isUniversal_55 : decode cL_isUniversal 55 = .ok (.iload 6, 2) := by decide +kernel
theorem dL_isUniversal_57 : decode cL_isUniversal 57 = .ok (.bipush 81, 2) := by decide +kernel
theorem dL_isUniversal_59 : decode cL_isUniversal 59 = .ok (.if_icmp .ge 50, 3) := by decide +kernel
theorem dL_isUniversal_62 : decode cL_isUniversal 62 = .ok (.aload_n 0, 1) := by decide +kernel
theorem dL_isUniversal_63 : decode cL_isUniversal 63 = .ok (.iload 4, 2) := by decide +kernel
theorem dL_isUniversal_65 : decode cL_isUniversal 65 = .ok (.iload 5, 2) := by decide +kernel
theorem dL_isUniversal_67 : decode cL_isUniversal 67 = .ok (.iload 6, 2) := by decide +kernel
theorem dL_isUniversal_69 : decode cL_isUniversal 69 = .ok (.bipush 9, 2) := by decide +kernel
theorem dL_isUniversal_71 : decode cL_isUniversal 71 = .ok (.idiv, 1) := by decide +kernel
theorem dL_isUniversal_72 : decode cL_isUniversal 72 = .ok (.iload 6, 2) := by decide +kernel
theorem dL_isUniversal_74 : decode cL_isUniversal 74 = .ok (.bipush 9, 2) := by decide +kernel
theorem dL_isUniversal_76 : decode cL_isUniversal 76 = .ok (.irem, 1) := by decide +kernel
theorem dL_isUniversal_77 : decode cL_isUniversal 77 = .ok (.invokevirtual 59, 3) := by decide +kernel
theorem dL_isUniversal_80 : decode cL_isUniversal 80 = .ok (.ifCond .eq 21, 3) := by decide +kernel
theorem dL_isUniversal_83 : decode cL_isUniversal 83 = .ok (.iload_n 2, 1) := by decide +kernel
theorem dL_isUniversal_84 : decode cL_isUniversal 84 = .ok (.iload 6, 2) := by decide +kernel
theorem dL_isUniversal_86 : decode cL_isUniversal 86 = .ok (.bipush 9, 2) := by decide +kernel
theorem dL_isUniversal_88 : decode cL_isUniversal 88 = .ok (.idiv, 1) := by decide +kernel
theorem dL_isUniversal_89 : decode cL_isUniversal 89 = .ok (.iload 6, 2) := by decide +kernel
theorem dL_isUniversal_91 : decode cL_isUniversal 91 = .ok (.bipush 9, 2) := by decide +kernel
theorem dL_isUniversal_93 : decode cL_isUniversal 93 = .ok (.irem, 1) := by decide +kernel
theorem dL_isUniversal_94 : decode cL_isUniversal 94 = .ok (.iadd, 1) := by decide +kernel
theorem dL_isUniversal_95 : decode cL_isUniversal 95 = .ok (.invokestatic 110, 3) := by decide +kernel
theorem dL_isUniversal_98 : decode cL_isUniversal 98 = .ok (.goto 4, 3) := by decide +kernel
theorem dL_isUniversal_101 : decode cL_isUniversal 101 = .ok (.iload_n 2, 1) := by decide +kernel
theorem dL_isUniversal_102 : decode cL_isUniversal 102 = .ok (.istore_n 2, 1) := by decide +kernel
theorem dL_isUniversal_103 : decode cL_isUniversal 103 = .ok (.iinc 6 1, 3) := by decide +kernel
theorem dL_isUniversal_106 : decode cL_isUniversal 106 = .ok (.goto (-51), 3) := by decide +kernel
theorem dL_isUniversal_109 : decode cL_isUniversal 109 = .ok (.iinc 5 1, 3) := by decide +kernel
theorem dL_isUniversal_112 : decode cL_isUniversal 112 = .ok (.goto (-71), 3) := by decide +kernel
theorem dL_isUniversal_115 : decode cL_isUniversal 115 = .ok (.iinc 4 1, 3) := by decide +kernel
theorem dL_isUniversal_118 : decode cL_isUniversal 118 = .ok (.goto (-109), 3) := by decide +kernel
theorem dL_isUniversal_121 : decode cL_isUniversal 121 = .ok (.aload_n 0, 1) := by decide +kernel
theorem dL_isUniversal_122 : decode cL_isUniversal 122 = .ok (.invokevirtual 115, 3) := by decide +kernel
theorem dL_isUniversal_125 : decode cL_isUniversal 125 = .ok (.iload_n 2, 1) := by decide +kernel
theorem dL_isUniversal_126 : decode cL_isUniversal 126 = .ok (.if_icmp .ne 23, 3) := by decide +kernel
theorem dL_isUniversal_129 : decode cL_isUniversal 129 = .ok (.aload_n 0, 1) := by decide +kernel
theorem dL_isUniversal_130 : decode cL_isUniversal 130 = .ok (.invokevirtual 118, 3) := by decide +kernel
theorem dL_isUniversal_133 : decode cL_isUniversal 133 = .ok (.iload_n 1, 1) := by decide +kernel
theorem dL_isUniversal_134 : decode cL_isUniversal 134 = .ok (.if_icmp .gt 15, 3) := by decide +kernel
theorem dL_isUniversal_137 : decode cL_isUniversal 137 = .ok (.aload_n 0, 1) := by decide +kernel
theorem dL_isUniversal_138 : decode cL_isUniversal 138 = .ok (.invokevirtual 118, 3) := by decide +kernel
theorem dL_isUniversal_141 : decode cL_isUniversal 141 = .ok (.iload_n 3, 1) := by decide +kernel
theorem dL_isUniversal_142 : decode cL_isUniversal 142 = .ok (.if_icmp .lt 7, 3) := by decide +kernel
theorem dL_isUniversal_145 : decode cL_isUniversal 145 = .ok (.iconst 1, 1) := by decide +kernel
theorem dL_isUniversal_146 : decode cL_isUniversal 146 = .ok (.goto 4, 3) := by decide +kernel
theorem dL_isUniversal_149 : decode cL_isUniversal 149 = .ok (.iconst 0, 1) := by decide +kernel
theorem dL_isUniversal_150 : decode cL_isUniversal 150 = .ok (.ireturn, 1) := by decide +kernel
theorem dL_law_0 : decode cL_law 0 = .ok (.new 24, 3) := by decide +kernel
theorem dL_law_3 : decode cL_law 3 = .ok (.dup, 1) := by decide +kernel
theorem dL_law_4 : decode cL_law 4 = .ok (.invokespecial 121, 3) := by decide +kernel
theorem dL_law_7 : decode cL_law 7 = .ok (.astore_n 1, 1) := by decide +kernel
theorem dL_law_8 : decode cL_law 8 = .ok (.aload_n 1, 1) := by decide +kernel
theorem dL_law_9 : decode cL_law 9 = .ok (.invokevirtual 28, 3) := by decide +kernel
theorem dL_law_12 : decode cL_law 12 = .ok (.bipush 7, 2) := by decide +kernel
theorem dL_law_14 : decode cL_law 14 = .ok (.if_icmp .ne 81, 3) := by decide +kernel
theorem dL_law_17 : decode cL_law 17 = .ok (.aload_n 1, 1) := by decide +kernel
theorem dL_law_18 : decode cL_law 18 = .ok (.invokevirtual 107, 3) := by decide +kernel
theorem dL_law_21 : decode cL_law 21 = .ok (.iconst 1, 1) := by decide +kernel
theorem dL_law_22 : decode cL_law 22 = .ok (.if_icmp .ne 73, 3) := by decide +kernel
theorem dL_law_25 : decode cL_law 25 = .ok (.aload_n 1, 1) := by decide +kernel
theorem dL_law_26 : decode cL_law 26 = .ok (.iconst 0, 1) := by decide +kernel
theorem dL_law_27 : decode cL_law 27 = .ok (.invokevirtual 76, 3) := by decide +kernel
theorem dL_law_30 : decode cL_law 30 = .ok (.iconst 1, 1) := by decide +kernel
theorem dL_law_31 : decode cL_law 31 = .ok (.if_icmp .ne 64, 3) := by decide +kernel
theorem dL_law_34 : decode cL_law 34 = .ok (.aload_n 1, 1) := by decide +kernel
theorem dL_law_35 : decode cL_law 35 = .ok (.iconst 0, 1) := by decide +kernel
theorem dL_law_36 : decode cL_law 36 = .ok (.iconst 0, 1) := by decide +kernel
theorem dL_law_37 : decode cL_law 37 = .ok (.invokevirtual 56, 3) := by decide +kernel
theorem dL_law_40 : decode cL_law 40 = .ok (.ifCond .ne 55, 3) := by decide +kernel
theorem dL_law_43 : decode cL_law 43 = .ok (.aload_n 1, 1) := by decide +kernel
theorem dL_law_44 : decode cL_law 44 = .ok (.iconst 0, 1) := by decide +kernel
theorem dL_law_45 : decode cL_law 45 = .ok (.iconst 0, 1) := by decide +kernel
theorem dL_law_46 : decode cL_law 46 = .ok (.iconst 0, 1) := by decide +kernel
theorem dL_law_47 : decode cL_law 47 = .ok (.iconst 0, 1) := by decide +kernel
theorem dL_law_48 : decode cL_law 48 = .ok (.invokevirtual 59, 3) := by decide +kernel
theorem dL_law_51 : decode cL_law 51 = .ok (.iconst 1, 1) := by decide +kernel
theorem dL_law_52 : decode cL_law 52 = .ok (.if_icmp .ne 43, 3) := by decide +kernel
theorem dL_law_55 : decode cL_law 55 = .ok (.aload_n 1, 1) := by decide +kernel
theorem dL_law_56 : decode cL_law 56 = .ok (.iconst 0, 1) := by decide +kernel
theorem dL_law_57 : decode cL_law 57 = .ok (.invokevirtual 86, 3) := by decide +kernel
theorem dL_law_60 : decode cL_law 60 = .ok (.bipush (-5), 2) := by decide +kernel
theorem dL_law_62 : decode cL_law 62 = .ok (.if_icmp .ne 33, 3) := by decide +kernel
theorem dL_law_65 : decode cL_law 65 = .ok (.aload_n 1, 1) := by decide +kernel
theorem dL_law_66 : decode cL_law 66 = .ok (.iconst 1, 1) := by decide +kernel
theorem dL_law_67 : decode cL_law 67 = .ok (.invokevirtual 83, 3) := by decide +kernel
theorem dL_law_70 : decode cL_law 70 = .ok (.iconst (-1), 1) := by decide +kernel
theorem dL_law_71 : decode cL_law 71 = .ok (.if_icmp .ne 24, 3) := by decide +kernel
theorem dL_law_74 : decode cL_law 74 = .ok (.aload_n 1, 1) := by decide +kernel
theorem dL_law_75 : decode cL_law 75 = .ok (.iconst 0, 1) := by decide +kernel
theorem dL_law_76 : decode cL_law 76 = .ok (.invokevirtual 104, 3) := by decide +kernel
theorem dL_law_79 : decode cL_law 79 = .ok (.bipush (-5), 2) := by decide +kernel
theorem dL_law_81 : decode cL_law 81 = .ok (.if_icmp .ne 14, 3) := by decide +kernel
theorem dL_law_84 : decode cL_law 84 = .ok (.aload_n 1, 1) := by decide +kernel
theorem dL_law_85 : decode cL_law 85 = .ok (.iconst 0, 1) := by decide +kernel
theorem dL_law_86 : decode cL_law 86 = .ok (.iconst 0, 1) := by decide +kernel
theorem dL_law_87 : decode cL_law 87 = .ok (.invokevirtual 89, 3) := by decide +kernel
theorem dL_law_90 : decode cL_law 90 = .ok (.bipush (-2), 2) := by decide +kernel
theorem dL_law_92 : decode cL_law 92 = .ok (.if_icmp .eq 5, 3) := by decide +kernel
theorem dL_law_95 : decode cL_law 95 = .ok (.iconst 0, 1) := by decide +kernel
theorem dL_law_96 : decode cL_law 96 = .ok (.ireturn, 1) := by decide +kernel
theorem dL_law_97 : decode cL_law 97 = .ok (.iconst 0, 1) := by decide +kernel
theorem dL_law_98 : decode cL_law 98 = .ok (.istore_n 2, 1) := by decide +kernel
theorem dL_law_99 : decode cL_law 99 = .ok (.iload_n 2, 1) := by decide +kernel
theorem dL_law_100 : decode cL_law 100 = .ok (.iconst 3, 1) := by decide +kernel
theorem dL_law_101 : decode cL_law 101 = .ok (.if_icmp .ge 190, 3) := by decide +kernel
theorem dL_law_104 : decode cL_law 104 = .ok (.bipush 10, 2) := by decide +kernel
theorem dL_law_106 : decode cL_law 106 = .ok (.bipush 60, 2) := by decide +kernel
theorem dL_law_108 : decode cL_law 108 = .ok (.iload_n 2, 1) := by decide +kernel
theorem dL_law_109 : decode cL_law 109 = .ok (.imul, 1) := by decide +kernel
theorem dL_law_110 : decode cL_law 110 = .ok (.iadd, 1) := by decide +kernel
theorem dL_law_111 : decode cL_law 111 = .ok (.istore_n 3, 1) := by decide +kernel
theorem dL_law_112 : decode cL_law 112 = .ok (.aload_n 1, 1) := by decide +kernel
theorem dL_law_113 : decode cL_law 113 = .ok (.aload_n 0, 1) := by decide +kernel
theorem dL_law_114 : decode cL_law 114 = .ok (.iload_n 3, 1) := by decide +kernel
theorem dL_law_115 : decode cL_law 115 = .ok (.invokestatic 122, 3) := by decide +kernel
theorem dL_law_118 : decode cL_law 118 = .ok (.aload_n 1, 1) := by decide +kernel
theorem dL_law_119 : decode cL_law 119 = .ok (.invokevirtual 107, 3) := by decide +kernel
theorem dL_law_122 : decode cL_law 122 = .ok (.istore 4, 2) := by decide +kernel
theorem dL_law_124 : decode cL_law 124 = .ok (.iconst 0, 1) := by decide +kernel
theorem dL_law_125 : decode cL_law 125 = .ok (.istore 5, 2) := by decide +kernel
theorem dL_law_127 : decode cL_law 127 = .ok (.iload 5, 2) := by decide +kernel
theorem dL_law_129 : decode cL_law 129 = .ok (.iload 4, 2) := by decide +kernel
theorem dL_law_131 : decode cL_law 131 = .ok (.if_icmp .ge 71, 3) := by decide +kernel
theorem dL_law_134 : decode cL_law 134 = .ok (.iload 5, 2) := by decide +kernel
theorem dL_law_136 : decode cL_law 136 = .ok (.iload 4, 2) := by decide +kernel
theorem dL_law_138 : decode cL_law 138 = .ok (.iconst 1, 1) := by decide +kernel
theorem dL_law_139 : decode cL_law 139 = .ok (.isub, 1) := by decide +kernel
theorem dL_law_140 : decode cL_law 140 = .ok (.if_icmp .ne 7, 3) := by decide +kernel
theorem dL_law_143 : decode cL_law 143 = .ok (.iconst 1, 1) := by decide +kernel
theorem dL_law_144 : decode cL_law 144 = .ok (.goto 4, 3) := by decide +kernel
theorem dL_law_147 : decode cL_law 147 = .ok (.iconst 0, 1) := by decide +kernel
theorem dL_law_148 : decode cL_law 148 = .ok (.istore 6, 2) := by decide +kernel
theorem dL_law_150 : decode cL_law 150 = .ok (.aload_n 1, 1) := by decide +kernel
theorem dL_law_151 : decode cL_law 151 = .ok (.iload 5, 2) := by decide +kernel
theorem dL_law_153 : decode cL_law 153 = .ok (.invokestatic 126, 3) := by decide +kernel
theorem dL_law_156 : decode cL_law 156 = .ok (.ifCond .eq 38, 3) := by decide +kernel
theorem dL_law_159 : decode cL_law 159 = .ok (.iload 6, 2) := by decide +kernel
theorem dL_law_161 : decode cL_law 161 = .ok (.aload_n 1, 1) := by decide +kernel
theorem dL_law_162 : decode cL_law 162 = .ok (.iload 5, 2) := by decide +kernel
theorem dL_law_164 : decode cL_law 164 = .ok (.invokevirtual 86, 3) := by decide +kernel
theorem dL_law_167 : decode cL_law 167 = .ok (.bipush (-5), 2) := by decide +kernel
theorem dL_law_169 : decode cL_law 169 = .ok (.if_icmp .ne 7, 3) := by decide +kernel
theorem dL_law_172 : decode cL_law 172 = .ok (.iconst 1, 1) := by decide +kernel
theorem dL_law_173 : decode cL_law 173 = .ok (.goto 4, 3) := by decide +kernel
theorem dL_law_176 : decode cL_law 176 = .ok (.iconst 0, 1) := by decide +kernel
theorem dL_law_177 : decode cL_law 177 = .ok (.if_icmp .ne 17, 3) := by decide +kernel
theorem dL_law_180 : decode cL_law 180 = .ok (.iload 6, 2) := by decide +kernel
theorem dL_law_182 : decode cL_law 182 = .ok (.ifCond .ne 14, 3) := by decide +kernel
theorem dL_law_185 : decode cL_law 185 = .ok (.aload_n 1, 1) := by decide +kernel
theorem dL_law_186 : decode cL_law 186 = .ok (.iload 5, 2) := by decide +kernel
theorem dL_law_188 : decode cL_law 188 = .ok (.invokestatic 130, 3) := by decide +kernel
theorem dL_law_191 : decode cL_law 191 = .ok (.ifCond .ne 5, 3) := by decide +kernel
theorem dL_law_194 : decode cL_law 194 = .ok (.iconst 0, 1) := by decide +kernel
theorem dL_law_195 : decode cL_law 195 = .ok (.ireturn, 1) := by decide +kernel
theorem dL_law_196 : decode cL_law 196 = .ok (.iinc 5 1, 3) := by decide +kernel
theorem dL_law_199 : decode cL_law 199 = .ok (.goto (-72), 3) := by decide +kernel
theorem dL_law_202 : decode cL_law 202 = .ok (.aload_n 1, 1) := by decide +kernel
theorem dL_law_203 : decode cL_law 203 = .ok (.invokestatic 133, 3) := by decide +kernel
theorem dL_law_206 : decode cL_law 206 = .ok (.ifCond .eq 77, 3) := by decide +kernel
theorem dL_law_209 : decode cL_law 209 = .ok (.aload_n 1, 1) := by decide +kernel
theorem dL_law_210 : decode cL_law 210 = .ok (.iconst 1, 1) := by decide +kernel
theorem dL_law_211 : decode cL_law 211 = .ok (.aload_n 0, 1) := by decide +kernel
theorem dL_law_212 : decode cL_law 212 = .ok (.iload_n 3, 1) := by decide +kernel
theorem dL_law_213 : decode cL_law 213 = .ok (.bipush 30, 2) := by decide +kernel
theorem dL_law_215 : decode cL_law 215 = .ok (.iadd, 1) := by decide +kernel
theorem dL_law_216 : decode cL_law 216 = .ok (.bipush 99, 2) := by decide +kernel
theorem dL_law_218 : decode cL_law 218 = .ok (.invokestatic 15, 3) := by decide +kernel
theorem dL_law_221 : decode cL_law 221 = .ok (.iadd, 1) := by decide +kernel
theorem dL_law_222 : decode cL_law 222 = .ok (.aload_n 0, 1) := by decide +kernel
theorem dL_law_223 : decode cL_law 223 = .ok (.iload_n 3, 1) := by decide +kernel
theorem dL_law_224 : decode cL_law 224 = .ok (.bipush 31, 2) := by decide +kernel
theorem dL_law_226 : decode cL_law 226 = .ok (.iadd, 1) := by decide +kernel
theorem dL_law_227 : decode cL_law 227 = .ok (.bipush 100, 2) := by decide +kernel
theorem dL_law_229 : decode cL_law 229 = .ok (.invokestatic 15, 3) := by decide +kernel
theorem dL_law_232 : decode cL_law 232 = .ok (.invokestatic 137, 3) := by decide +kernel
theorem dL_law_235 : decode cL_law 235 = .ok (.ifCond .eq 48, 3) := by decide +kernel
theorem dL_law_238 : decode cL_law 238 = .ok (.aload_n 1, 1) := by decide +kernel
theorem dL_law_239 : decode cL_law 239 = .ok (.aload_n 0, 1) := by decide +kernel
theorem dL_law_240 : decode cL_law 240 = .ok (.iload_n 3, 1) := by decide +kernel
theorem dL_law_241 : decode cL_law 241 = .ok (.bipush 32, 2) := by decide +kernel
theorem dL_law_243 : decode cL_law 243 = .ok (.iadd, 1) := by decide +kernel
theorem dL_law_244 : decode cL_law 244 = .ok (.iconst 5, 1) := by decide +kernel
theorem dL_law_245 : decode cL_law 245 = .ok (.invokestatic 15, 3) := by decide +kernel
theorem dL_law_248 : decode cL_law 248 = .ok (.iconst 1, 1) := by decide +kernel
theorem dL_law_249 : decode cL_law 249 = .ok (.aload_n 0, 1) := by decide +kernel
theorem dL_law_250 : decode cL_law 250 = .ok (.iload_n 3, 1) := by decide +kernel
theorem dL_law_251 : decode cL_law 251 = .ok (.bipush 33, 2) := by decide +kernel
theorem dL_law_253 : decode cL_law 253 = .ok (.iadd, 1) := by decide +kernel
theorem dL_law_254 : decode cL_law 254 = .ok (.iconst 5, 1) := by decide +kernel
theorem dL_law_255 : decode cL_law 255 = .ok (.invokestatic 15, 3) := by decide +kernel
theorem dL_law_258 : decode cL_law 258 = .ok (.iadd, 1) := by decide +kernel
theorem dL_law_259 : decode cL_law 259 = .ok (.invokestatic 137, 3) := by decide +kernel
theorem dL_law_262 : decode cL_law 262 = .ok (.ifCond .eq 21, 3) := by decide +kernel
theorem dL_law_265 : decode cL_law 265 = .ok (.aload_n 1, 1) := by decide +kernel
theorem dL_law_266 : decode cL_law 266 = .ok (.iconst 0, 1) := by decide +kernel
theorem dL_law_267 : decode cL_law 267 = .ok (.iconst 1, 1) := by decide +kernel
theorem dL_law_268 : decode cL_law 268 = .ok (.invokestatic 137, 3) := by decide +kernel
theorem dL_law_271 : decode cL_law 271 = .ok (.ifCond .eq 12, 3) := by decide +kernel
theorem dL_law_274 : decode cL_law 274 = .ok (.aload_n 1, 1) := by decide +kernel
theorem dL_law_275 : decode cL_law 275 = .ok (.iconst 1, 1) := by decide +kernel
theorem dL_law_276 : decode cL_law 276 = .ok (.iconst 0, 1) := by decide +kernel
theorem dL_law_277 : decode cL_law 277 = .ok (.invokestatic 137, 3) := by decide +kernel
theorem dL_law_280 : decode cL_law 280 = .ok (.ifCond .ne 5, 3) := by decide +kernel
theorem dL_law_283 : decode cL_law 283 = .ok (.iconst 0, 1) := by decide +kernel
theorem dL_law_284 : decode cL_law 284 = .ok (.ireturn, 1) := by decide +kernel
theorem dL_law_285 : decode cL_law 285 = .ok (.iinc 2 1, 3) := by decide +kernel
theorem dL_law_288 : decode cL_law 288 = .ok (.goto (-189), 3) := by decide +kernel
theorem dL_law_291 : decode cL_law 291 = .ok (.iconst 1, 1) := by decide +kernel
theorem dL_law_292 : decode cL_law 292 = .ok (.ireturn, 1) := by decide +kernel
