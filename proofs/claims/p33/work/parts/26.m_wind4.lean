/-! ===== the reference: a slice wound ===== -/
theorem dX12_wind_0 : decode cX12_wind 0 = .ok (.aload_n 0, 1) := dk_42 (by decide +kernel)
theorem dX12_wind_1 : decode cX12_wind 1 = .ok (.iload_n 1, 1) := dk_27 (by decide +kernel)
theorem dX12_wind_2 : decode cX12_wind 2 = .ok (.invokevirtual 131, 3) := dk_182 0 131 (by decide +kernel)
theorem dX12_wind_5 : decode cX12_wind 5 = .ok (.istore_n 2, 1) := dk_61 (by decide +kernel)
theorem dX12_wind_6 : decode cX12_wind 6 = .ok (.iconst 0, 1) := dk_3 (by decide +kernel)
theorem dX12_wind_7 : decode cX12_wind 7 = .ok (.istore_n 3, 1) := dk_62 (by decide +kernel)
theorem dX12_wind_8 : decode cX12_wind 8 = .ok (.iload_n 3, 1) := dk_29 (by decide +kernel)
theorem dX12_wind_9 : decode cX12_wind 9 = .ok (.bipush 24, 2) := dk_16 24 (by decide +kernel)
theorem dX12_wind_11 : decode cX12_wind 11 = .ok (.if_icmp .ge 16, 3) := dk_162 0 16 (by decide +kernel)
theorem dX12_wind_14 : decode cX12_wind 14 = .ok (.aload_n 0, 1) := dk_42 (by decide +kernel)
theorem dX12_wind_15 : decode cX12_wind 15 = .ok (.getfield 42, 3) := dk_180 0 42 (by decide +kernel)
theorem dX12_wind_18 : decode cX12_wind 18 = .ok (.iload_n 3, 1) := dk_29 (by decide +kernel)
theorem dX12_wind_19 : decode cX12_wind 19 = .ok (.iconst (-1), 1) := dk_2 (by decide +kernel)
theorem dX12_wind_20 : decode cX12_wind 20 = .ok (.iastore, 1) := dk_79 (by decide +kernel)
theorem dX12_wind_21 : decode cX12_wind 21 = .ok (.iinc 3 1, 3) := dk_132 1 (by decide +kernel)
theorem dX12_wind_24 : decode cX12_wind 24 = .ok (.goto (-16), 3) := dk_167 255 240 (by decide +kernel)
theorem dX12_wind_27 : decode cX12_wind 27 = .ok (.iconst 0, 1) := dk_3 (by decide +kernel)
theorem dX12_wind_28 : decode cX12_wind 28 = .ok (.istore_n 3, 1) := dk_62 (by decide +kernel)
theorem dX12_wind_29 : decode cX12_wind 29 = .ok (.iload_n 3, 1) := dk_29 (by decide +kernel)
theorem dX12_wind_30 : decode cX12_wind 30 = .ok (.aload_n 0, 1) := dk_42 (by decide +kernel)
theorem dX12_wind_31 : decode cX12_wind 31 = .ok (.getfield 7, 3) := dk_180 0 7 (by decide +kernel)
theorem dX12_wind_34 : decode cX12_wind 34 = .ok (.iconst 1, 1) := dk_4 (by decide +kernel)
theorem dX12_wind_35 : decode cX12_wind 35 = .ok (.iaload, 1) := dk_46 (by decide +kernel)
theorem dX12_wind_36 : decode cX12_wind 36 = .ok (.if_icmp .ge 76, 3) := dk_162 0 76 (by decide +kernel)
theorem dX12_wind_39 : decode cX12_wind 39 = .ok (.aload_n 0, 1) := dk_42 (by decide +kernel)
theorem dX12_wind_40 : decode cX12_wind 40 = .ok (.getfield 7, 3) := dk_180 0 7 (by decide +kernel)
theorem dX12_wind_43 : decode cX12_wind 43 = .ok (.sipush 900, 3) := dk_17 3 132 (by decide +kernel)
theorem dX12_wind_46 : decode cX12_wind 46 = .ok (.iconst 3, 1) := dk_6 (by decide +kernel)
theorem dX12_wind_47 : decode cX12_wind 47 = .ok (.iload_n 3, 1) := dk_29 (by decide +kernel)
theorem dX12_wind_48 : decode cX12_wind 48 = .ok (.imul, 1) := dk_104 (by decide +kernel)
theorem dX12_wind_49 : decode cX12_wind 49 = .ok (.iadd, 1) := dk_96 (by decide +kernel)
theorem dX12_wind_50 : decode cX12_wind 50 = .ok (.iaload, 1) := dk_46 (by decide +kernel)
theorem dX12_wind_51 : decode cX12_wind 51 = .ok (.iload_n 1, 1) := dk_27 (by decide +kernel)
theorem dX12_wind_52 : decode cX12_wind 52 = .ok (.if_icmp .ne 54, 3) := dk_160 0 54 (by decide +kernel)
theorem dX12_wind_55 : decode cX12_wind 55 = .ok (.aload_n 0, 1) := dk_42 (by decide +kernel)
theorem dX12_wind_56 : decode cX12_wind 56 = .ok (.getfield 7, 3) := dk_180 0 7 (by decide +kernel)
theorem dX12_wind_59 : decode cX12_wind 59 = .ok (.sipush 900, 3) := dk_17 3 132 (by decide +kernel)
theorem dX12_wind_62 : decode cX12_wind 62 = .ok (.iconst 3, 1) := dk_6 (by decide +kernel)
theorem dX12_wind_63 : decode cX12_wind 63 = .ok (.iload_n 3, 1) := dk_29 (by decide +kernel)
theorem dX12_wind_64 : decode cX12_wind 64 = .ok (.imul, 1) := dk_104 (by decide +kernel)
theorem dX12_wind_65 : decode cX12_wind 65 = .ok (.iadd, 1) := dk_96 (by decide +kernel)
theorem dX12_wind_66 : decode cX12_wind 66 = .ok (.iconst 1, 1) := dk_4 (by decide +kernel)
theorem dX12_wind_67 : decode cX12_wind 67 = .ok (.iadd, 1) := dk_96 (by decide +kernel)
theorem dX12_wind_68 : decode cX12_wind 68 = .ok (.iaload, 1) := dk_46 (by decide +kernel)
theorem dX12_wind_69 : decode cX12_wind 69 = .ok (.iload_n 2, 1) := dk_28 (by decide +kernel)
theorem dX12_wind_70 : decode cX12_wind 70 = .ok (.if_icmp .ge 36, 3) := dk_162 0 36 (by decide +kernel)
theorem dX12_wind_73 : decode cX12_wind 73 = .ok (.aload_n 0, 1) := dk_42 (by decide +kernel)
theorem dX12_wind_74 : decode cX12_wind 74 = .ok (.getfield 42, 3) := dk_180 0 42 (by decide +kernel)
theorem dX12_wind_77 : decode cX12_wind 77 = .ok (.aload_n 0, 1) := dk_42 (by decide +kernel)
theorem dX12_wind_78 : decode cX12_wind 78 = .ok (.getfield 7, 3) := dk_180 0 7 (by decide +kernel)
theorem dX12_wind_81 : decode cX12_wind 81 = .ok (.sipush 900, 3) := dk_17 3 132 (by decide +kernel)
theorem dX12_wind_84 : decode cX12_wind 84 = .ok (.iconst 3, 1) := dk_6 (by decide +kernel)
theorem dX12_wind_85 : decode cX12_wind 85 = .ok (.iload_n 3, 1) := dk_29 (by decide +kernel)
theorem dX12_wind_86 : decode cX12_wind 86 = .ok (.imul, 1) := dk_104 (by decide +kernel)
theorem dX12_wind_87 : decode cX12_wind 87 = .ok (.iadd, 1) := dk_96 (by decide +kernel)
theorem dX12_wind_88 : decode cX12_wind 88 = .ok (.iconst 1, 1) := dk_4 (by decide +kernel)
theorem dX12_wind_89 : decode cX12_wind 89 = .ok (.iadd, 1) := dk_96 (by decide +kernel)
theorem dX12_wind_90 : decode cX12_wind 90 = .ok (.iaload, 1) := dk_46 (by decide +kernel)
theorem dX12_wind_91 : decode cX12_wind 91 = .ok (.aload_n 0, 1) := dk_42 (by decide +kernel)
theorem dX12_wind_92 : decode cX12_wind 92 = .ok (.getfield 7, 3) := dk_180 0 7 (by decide +kernel)
theorem dX12_wind_95 : decode cX12_wind 95 = .ok (.sipush 900, 3) := dk_17 3 132 (by decide +kernel)
theorem dX12_wind_98 : decode cX12_wind 98 = .ok (.iconst 3, 1) := dk_6 (by decide +kernel)
theorem dX12_wind_99 : decode cX12_wind 99 = .ok (.iload_n 3, 1) := dk_29 (by decide +kernel)
theorem dX12_wind_100 : decode cX12_wind 100 = .ok (.imul, 1) := dk_104 (by decide +kernel)
theorem dX12_wind_101 : decode cX12_wind 101 = .ok (.iadd, 1) := dk_96 (by decide +kernel)
theorem dX12_wind_102 : decode cX12_wind 102 = .ok (.iconst 2, 1) := dk_5 (by decide +kernel)
theorem dX12_wind_103 : decode cX12_wind 103 = .ok (.iadd, 1) := dk_96 (by decide +kernel)
theorem dX12_wind_104 : decode cX12_wind 104 = .ok (.iaload, 1) := dk_46 (by decide +kernel)
theorem dX12_wind_105 : decode cX12_wind 105 = .ok (.iastore, 1) := dk_79 (by decide +kernel)
theorem dX12_wind_106 : decode cX12_wind 106 = .ok (.iinc 3 1, 3) := dk_132 1 (by decide +kernel)
theorem dX12_wind_109 : decode cX12_wind 109 = .ok (.goto (-80), 3) := dk_167 255 176 (by decide +kernel)
theorem dX12_wind_112 : decode cX12_wind 112 = .ok (.iload_n 2, 1) := dk_28 (by decide +kernel)
theorem dX12_wind_113 : decode cX12_wind 113 = .ok (.iconst 1, 1) := dk_4 (by decide +kernel)
theorem dX12_wind_114 : decode cX12_wind 114 = .ok (.isub, 1) := dk_100 (by decide +kernel)
theorem dX12_wind_115 : decode cX12_wind 115 = .ok (.istore_n 3, 1) := dk_62 (by decide +kernel)
theorem dX12_wind_116 : decode cX12_wind 116 = .ok (.iload_n 3, 1) := dk_29 (by decide +kernel)
theorem dX12_wind_117 : decode cX12_wind 117 = .ok (.ifCond .lt 56, 3) := dk_155 0 56 (by decide +kernel)
theorem dX12_wind_120 : decode cX12_wind 120 = .ok (.iconst 0, 1) := dk_3 (by decide +kernel)
theorem dX12_wind_121 : decode cX12_wind 121 = .ok (.istore 4, 2) := dk_54 (by decide +kernel)
theorem dX12_wind_123 : decode cX12_wind 123 = .ok (.iload 4, 2) := dk_21 (by decide +kernel)
theorem dX12_wind_125 : decode cX12_wind 125 = .ok (.aload_n 0, 1) := dk_42 (by decide +kernel)
theorem dX12_wind_126 : decode cX12_wind 126 = .ok (.getfield 83, 3) := dk_180 0 83 (by decide +kernel)
theorem dX12_wind_129 : decode cX12_wind 129 = .ok (.if_icmp .ge 38, 3) := dk_162 0 38 (by decide +kernel)
theorem dX12_wind_132 : decode cX12_wind 132 = .ok (.iconst 0, 1) := dk_3 (by decide +kernel)
theorem dX12_wind_133 : decode cX12_wind 133 = .ok (.istore 5, 2) := dk_54 (by decide +kernel)
theorem dX12_wind_135 : decode cX12_wind 135 = .ok (.iload 5, 2) := dk_21 (by decide +kernel)
theorem dX12_wind_137 : decode cX12_wind 137 = .ok (.aload_n 0, 1) := dk_42 (by decide +kernel)
theorem dX12_wind_138 : decode cX12_wind 138 = .ok (.getfield 86, 3) := dk_180 0 86 (by decide +kernel)
theorem dX12_wind_141 : decode cX12_wind 141 = .ok (.if_icmp .ge 20, 3) := dk_162 0 20 (by decide +kernel)
theorem dX12_wind_144 : decode cX12_wind 144 = .ok (.aload_n 0, 1) := dk_42 (by decide +kernel)
theorem dX12_wind_145 : decode cX12_wind 145 = .ok (.iload_n 1, 1) := dk_27 (by decide +kernel)
theorem dX12_wind_146 : decode cX12_wind 146 = .ok (.iload_n 2, 1) := dk_28 (by decide +kernel)
theorem dX12_wind_147 : decode cX12_wind 147 = .ok (.iload_n 3, 1) := dk_29 (by decide +kernel)
theorem dX12_wind_148 : decode cX12_wind 148 = .ok (.iload 4, 2) := dk_21 (by decide +kernel)
theorem dX12_wind_150 : decode cX12_wind 150 = .ok (.iload 5, 2) := dk_21 (by decide +kernel)
theorem dX12_wind_152 : decode cX12_wind 152 = .ok (.invokevirtual 135, 3) := dk_182 0 135 (by decide +kernel)
theorem dX12_wind_155 : decode cX12_wind 155 = .ok (.iinc 5 1, 3) := dk_132 1 (by decide +kernel)
theorem dX12_wind_158 : decode cX12_wind 158 = .ok (.goto (-23), 3) := dk_167 255 233 (by decide +kernel)
theorem dX12_wind_161 : decode cX12_wind 161 = .ok (.iinc 4 1, 3) := dk_132 1 (by decide +kernel)
theorem dX12_wind_164 : decode cX12_wind 164 = .ok (.goto (-41), 3) := dk_167 255 215 (by decide +kernel)
theorem dX12_wind_167 : decode cX12_wind 167 = .ok (.iinc 3 (-1), 3) := dk_132 255 (by decide +kernel)
theorem dX12_wind_170 : decode cX12_wind 170 = .ok (.goto (-54), 3) := dk_167 255 202 (by decide +kernel)
theorem dX12_wind_173 : decode cX12_wind 173 = .ok (.iconst (-1), 1) := dk_2 (by decide +kernel)
theorem dX12_wind_174 : decode cX12_wind 174 = .ok (.istore_n 3, 1) := dk_62 (by decide +kernel)
theorem dX12_wind_175 : decode cX12_wind 175 = .ok (.iconst 0, 1) := dk_3 (by decide +kernel)
theorem dX12_wind_176 : decode cX12_wind 176 = .ok (.istore 4, 2) := dk_54 (by decide +kernel)
theorem dX12_wind_178 : decode cX12_wind 178 = .ok (.iconst 0, 1) := dk_3 (by decide +kernel)
theorem dX12_wind_179 : decode cX12_wind 179 = .ok (.istore 5, 2) := dk_54 (by decide +kernel)
theorem dX12_wind_181 : decode cX12_wind 181 = .ok (.iload 5, 2) := dk_21 (by decide +kernel)
theorem dX12_wind_183 : decode cX12_wind 183 = .ok (.aload_n 0, 1) := dk_42 (by decide +kernel)
theorem dX12_wind_184 : decode cX12_wind 184 = .ok (.getfield 83, 3) := dk_180 0 83 (by decide +kernel)
theorem dX12_wind_187 : decode cX12_wind 187 = .ok (.if_icmp .ge 100, 3) := dk_162 0 100 (by decide +kernel)
theorem dX12_wind_190 : decode cX12_wind 190 = .ok (.iconst 0, 1) := dk_3 (by decide +kernel)
theorem dX12_wind_191 : decode cX12_wind 191 = .ok (.iload 5, 2) := dk_21 (by decide +kernel)
theorem dX12_wind_193 : decode cX12_wind 193 = .ok (.aload_n 0, 1) := dk_42 (by decide +kernel)
theorem dX12_wind_194 : decode cX12_wind 194 = .ok (.invokevirtual 139, 3) := dk_182 0 139 (by decide +kernel)
theorem dX12_wind_197 : decode cX12_wind 197 = .ok (.invokestatic 120, 3) := dk_184 0 120 (by decide +kernel)
theorem dX12_wind_200 : decode cX12_wind 200 = .ok (.istore 6, 2) := dk_54 (by decide +kernel)
theorem dX12_wind_202 : decode cX12_wind 202 = .ok (.aload_n 0, 1) := dk_42 (by decide +kernel)
theorem dX12_wind_203 : decode cX12_wind 203 = .ok (.getfield 42, 3) := dk_180 0 42 (by decide +kernel)
theorem dX12_wind_206 : decode cX12_wind 206 = .ok (.iconst 0, 1) := dk_3 (by decide +kernel)
theorem dX12_wind_207 : decode cX12_wind 207 = .ok (.iaload, 1) := dk_46 (by decide +kernel)
theorem dX12_wind_208 : decode cX12_wind 208 = .ok (.ifCond .lt 14, 3) := dk_155 0 14 (by decide +kernel)
theorem dX12_wind_211 : decode cX12_wind 211 = .ok (.aload_n 0, 1) := dk_42 (by decide +kernel)
theorem dX12_wind_212 : decode cX12_wind 212 = .ok (.getfield 42, 3) := dk_180 0 42 (by decide +kernel)
theorem dX12_wind_215 : decode cX12_wind 215 = .ok (.iconst 0, 1) := dk_3 (by decide +kernel)
theorem dX12_wind_216 : decode cX12_wind 216 = .ok (.iaload, 1) := dk_46 (by decide +kernel)
theorem dX12_wind_217 : decode cX12_wind 217 = .ok (.iload 5, 2) := dk_21 (by decide +kernel)
theorem dX12_wind_219 : decode cX12_wind 219 = .ok (.if_icmp .ne 62, 3) := dk_160 0 62 (by decide +kernel)
theorem dX12_wind_222 : decode cX12_wind 222 = .ok (.aload_n 0, 1) := dk_42 (by decide +kernel)
theorem dX12_wind_223 : decode cX12_wind 223 = .ok (.getfield 20, 3) := dk_180 0 20 (by decide +kernel)
theorem dX12_wind_226 : decode cX12_wind 226 = .ok (.iload 6, 2) := dk_21 (by decide +kernel)
theorem dX12_wind_228 : decode cX12_wind 228 = .ok (.iaload, 1) := dk_46 (by decide +kernel)
theorem dX12_wind_229 : decode cX12_wind 229 = .ok (.ifCond .lt 52, 3) := dk_155 0 52 (by decide +kernel)
theorem dX12_wind_232 : decode cX12_wind 232 = .ok (.aload_n 0, 1) := dk_42 (by decide +kernel)
theorem dX12_wind_233 : decode cX12_wind 233 = .ok (.getfield 20, 3) := dk_180 0 20 (by decide +kernel)
theorem dX12_wind_236 : decode cX12_wind 236 = .ok (.iload 6, 2) := dk_21 (by decide +kernel)
theorem dX12_wind_238 : decode cX12_wind 238 = .ok (.iaload, 1) := dk_46 (by decide +kernel)
theorem dX12_wind_239 : decode cX12_wind 239 = .ok (.iload_n 3, 1) := dk_29 (by decide +kernel)
theorem dX12_wind_240 : decode cX12_wind 240 = .ok (.if_icmp .ge 6, 3) := dk_162 0 6 (by decide +kernel)
theorem dX12_wind_243 : decode cX12_wind 243 = .ok (.goto 38, 3) := dk_167 0 38 (by decide +kernel)
theorem dX12_wind_246 : decode cX12_wind 246 = .ok (.aload_n 0, 1) := dk_42 (by decide +kernel)
theorem dX12_wind_247 : decode cX12_wind 247 = .ok (.getfield 20, 3) := dk_180 0 20 (by decide +kernel)
theorem dX12_wind_250 : decode cX12_wind 250 = .ok (.iload 6, 2) := dk_21 (by decide +kernel)
theorem dX12_wind_252 : decode cX12_wind 252 = .ok (.iaload, 1) := dk_46 (by decide +kernel)
theorem dX12_wind_253 : decode cX12_wind 253 = .ok (.iload_n 3, 1) := dk_29 (by decide +kernel)
theorem dX12_wind_254 : decode cX12_wind 254 = .ok (.if_icmp .ne 8, 3) := dk_160 0 8 (by decide +kernel)
theorem dX12_wind_257 : decode cX12_wind 257 = .ok (.iload 4, 2) := dk_21 (by decide +kernel)
theorem dX12_wind_259 : decode cX12_wind 259 = .ok (.goto 4, 3) := dk_167 0 4 (by decide +kernel)
theorem dX12_wind_262 : decode cX12_wind 262 = .ok (.iconst 0, 1) := dk_3 (by decide +kernel)
theorem dX12_wind_263 : decode cX12_wind 263 = .ok (.aload_n 0, 1) := dk_42 (by decide +kernel)
theorem dX12_wind_264 : decode cX12_wind 264 = .ok (.getfield 23, 3) := dk_180 0 23 (by decide +kernel)
theorem dX12_wind_267 : decode cX12_wind 267 = .ok (.iload 6, 2) := dk_21 (by decide +kernel)
theorem dX12_wind_269 : decode cX12_wind 269 = .ok (.iaload, 1) := dk_46 (by decide +kernel)
theorem dX12_wind_270 : decode cX12_wind 270 = .ok (.iadd, 1) := dk_96 (by decide +kernel)
theorem dX12_wind_271 : decode cX12_wind 271 = .ok (.istore 4, 2) := dk_54 (by decide +kernel)
theorem dX12_wind_273 : decode cX12_wind 273 = .ok (.aload_n 0, 1) := dk_42 (by decide +kernel)
theorem dX12_wind_274 : decode cX12_wind 274 = .ok (.getfield 20, 3) := dk_180 0 20 (by decide +kernel)
theorem dX12_wind_277 : decode cX12_wind 277 = .ok (.iload 6, 2) := dk_21 (by decide +kernel)
theorem dX12_wind_279 : decode cX12_wind 279 = .ok (.iaload, 1) := dk_46 (by decide +kernel)
theorem dX12_wind_280 : decode cX12_wind 280 = .ok (.istore_n 3, 1) := dk_62 (by decide +kernel)
theorem dX12_wind_281 : decode cX12_wind 281 = .ok (.iinc 5 1, 3) := dk_132 1 (by decide +kernel)
theorem dX12_wind_284 : decode cX12_wind 284 = .ok (.goto (-103), 3) := dk_167 255 153 (by decide +kernel)
theorem dX12_wind_287 : decode cX12_wind 287 = .ok (.aload_n 0, 1) := dk_42 (by decide +kernel)
theorem dX12_wind_288 : decode cX12_wind 288 = .ok (.getfield 30, 3) := dk_180 0 30 (by decide +kernel)
theorem dX12_wind_291 : decode cX12_wind 291 = .ok (.iload_n 1, 1) := dk_27 (by decide +kernel)
theorem dX12_wind_292 : decode cX12_wind 292 = .ok (.iload_n 3, 1) := dk_29 (by decide +kernel)
theorem dX12_wind_293 : decode cX12_wind 293 = .ok (.iastore, 1) := dk_79 (by decide +kernel)
theorem dX12_wind_294 : decode cX12_wind 294 = .ok (.aload_n 0, 1) := dk_42 (by decide +kernel)
theorem dX12_wind_295 : decode cX12_wind 295 = .ok (.getfield 33, 3) := dk_180 0 33 (by decide +kernel)
theorem dX12_wind_298 : decode cX12_wind 298 = .ok (.iload_n 1, 1) := dk_27 (by decide +kernel)
theorem dX12_wind_299 : decode cX12_wind 299 = .ok (.iload 4, 2) := dk_21 (by decide +kernel)
theorem dX12_wind_301 : decode cX12_wind 301 = .ok (.ldc 130, 2) := dk_18 (by decide +kernel)
theorem dX12_wind_303 : decode cX12_wind 303 = .ok (.if_icmp .le 8, 3) := dk_164 0 8 (by decide +kernel)
theorem dX12_wind_306 : decode cX12_wind 306 = .ok (.ldc 130, 2) := dk_18 (by decide +kernel)
theorem dX12_wind_308 : decode cX12_wind 308 = .ok (.goto 5, 3) := dk_167 0 5 (by decide +kernel)
theorem dX12_wind_311 : decode cX12_wind 311 = .ok (.iload 4, 2) := dk_21 (by decide +kernel)
theorem dX12_wind_313 : decode cX12_wind 313 = .ok (.iastore, 1) := dk_79 (by decide +kernel)
theorem dX12_wind_314 : decode cX12_wind 314 = .ok (.iconst 0, 1) := dk_3 (by decide +kernel)
theorem dX12_wind_315 : decode cX12_wind 315 = .ok (.istore 5, 2) := dk_54 (by decide +kernel)
theorem dX12_wind_317 : decode cX12_wind 317 = .ok (.iload 5, 2) := dk_21 (by decide +kernel)
theorem dX12_wind_319 : decode cX12_wind 319 = .ok (.bipush 24, 2) := dk_16 24 (by decide +kernel)
theorem dX12_wind_321 : decode cX12_wind 321 = .ok (.if_icmp .ge 22, 3) := dk_162 0 22 (by decide +kernel)
theorem dX12_wind_324 : decode cX12_wind 324 = .ok (.aload_n 0, 1) := dk_42 (by decide +kernel)
theorem dX12_wind_325 : decode cX12_wind 325 = .ok (.getfield 39, 3) := dk_180 0 39 (by decide +kernel)
theorem dX12_wind_328 : decode cX12_wind 328 = .ok (.bipush 24, 2) := dk_16 24 (by decide +kernel)
theorem dX12_wind_330 : decode cX12_wind 330 = .ok (.iload_n 1, 1) := dk_27 (by decide +kernel)
theorem dX12_wind_331 : decode cX12_wind 331 = .ok (.imul, 1) := dk_104 (by decide +kernel)
theorem dX12_wind_332 : decode cX12_wind 332 = .ok (.iload 5, 2) := dk_21 (by decide +kernel)
theorem dX12_wind_334 : decode cX12_wind 334 = .ok (.iadd, 1) := dk_96 (by decide +kernel)
theorem dX12_wind_335 : decode cX12_wind 335 = .ok (.iconst 0, 1) := dk_3 (by decide +kernel)
theorem dX12_wind_336 : decode cX12_wind 336 = .ok (.iastore, 1) := dk_79 (by decide +kernel)
theorem dX12_wind_337 : decode cX12_wind 337 = .ok (.iinc 5 1, 3) := dk_132 1 (by decide +kernel)
theorem dX12_wind_340 : decode cX12_wind 340 = .ok (.goto (-23), 3) := dk_167 255 233 (by decide +kernel)
theorem dX12_wind_343 : decode cX12_wind 343 = .ok (.iload_n 3, 1) := dk_29 (by decide +kernel)
theorem dX12_wind_344 : decode cX12_wind 344 = .ok (.ifCond .ge 4, 3) := dk_156 0 4 (by decide +kernel)
theorem dX12_wind_347 : decode cX12_wind 347 = .ok (.return_, 1) := dk_177 (by decide +kernel)
theorem dX12_wind_348 : decode cX12_wind 348 = .ok (.iconst 0, 1) := dk_3 (by decide +kernel)
theorem dX12_wind_349 : decode cX12_wind 349 = .ok (.istore 5, 2) := dk_54 (by decide +kernel)
theorem dX12_wind_351 : decode cX12_wind 351 = .ok (.iload 5, 2) := dk_21 (by decide +kernel)
theorem dX12_wind_353 : decode cX12_wind 353 = .ok (.aload_n 0, 1) := dk_42 (by decide +kernel)
theorem dX12_wind_354 : decode cX12_wind 354 = .ok (.getfield 83, 3) := dk_180 0 83 (by decide +kernel)
theorem dX12_wind_357 : decode cX12_wind 357 = .ok (.if_icmp .ge 64, 3) := dk_162 0 64 (by decide +kernel)
theorem dX12_wind_360 : decode cX12_wind 360 = .ok (.aload_n 0, 1) := dk_42 (by decide +kernel)
theorem dX12_wind_361 : decode cX12_wind 361 = .ok (.getfield 42, 3) := dk_180 0 42 (by decide +kernel)
theorem dX12_wind_364 : decode cX12_wind 364 = .ok (.iconst 0, 1) := dk_3 (by decide +kernel)
theorem dX12_wind_365 : decode cX12_wind 365 = .ok (.iaload, 1) := dk_46 (by decide +kernel)
theorem dX12_wind_366 : decode cX12_wind 366 = .ok (.ifCond .lt 14, 3) := dk_155 0 14 (by decide +kernel)
theorem dX12_wind_369 : decode cX12_wind 369 = .ok (.aload_n 0, 1) := dk_42 (by decide +kernel)
theorem dX12_wind_370 : decode cX12_wind 370 = .ok (.getfield 42, 3) := dk_180 0 42 (by decide +kernel)
theorem dX12_wind_373 : decode cX12_wind 373 = .ok (.iconst 0, 1) := dk_3 (by decide +kernel)
theorem dX12_wind_374 : decode cX12_wind 374 = .ok (.iaload, 1) := dk_46 (by decide +kernel)
theorem dX12_wind_375 : decode cX12_wind 375 = .ok (.iload 5, 2) := dk_21 (by decide +kernel)
theorem dX12_wind_377 : decode cX12_wind 377 = .ok (.if_icmp .ne 38, 3) := dk_160 0 38 (by decide +kernel)
theorem dX12_wind_380 : decode cX12_wind 380 = .ok (.aload_n 0, 1) := dk_42 (by decide +kernel)
theorem dX12_wind_381 : decode cX12_wind 381 = .ok (.getfield 20, 3) := dk_180 0 20 (by decide +kernel)
theorem dX12_wind_384 : decode cX12_wind 384 = .ok (.iconst 0, 1) := dk_3 (by decide +kernel)
theorem dX12_wind_385 : decode cX12_wind 385 = .ok (.iload 5, 2) := dk_21 (by decide +kernel)
theorem dX12_wind_387 : decode cX12_wind 387 = .ok (.aload_n 0, 1) := dk_42 (by decide +kernel)
theorem dX12_wind_388 : decode cX12_wind 388 = .ok (.invokevirtual 139, 3) := dk_182 0 139 (by decide +kernel)
theorem dX12_wind_391 : decode cX12_wind 391 = .ok (.invokestatic 120, 3) := dk_184 0 120 (by decide +kernel)
theorem dX12_wind_394 : decode cX12_wind 394 = .ok (.iaload, 1) := dk_46 (by decide +kernel)
theorem dX12_wind_395 : decode cX12_wind 395 = .ok (.iload_n 3, 1) := dk_29 (by decide +kernel)
theorem dX12_wind_396 : decode cX12_wind 396 = .ok (.if_icmp .ne 19, 3) := dk_160 0 19 (by decide +kernel)
theorem dX12_wind_399 : decode cX12_wind 399 = .ok (.aload_n 0, 1) := dk_42 (by decide +kernel)
theorem dX12_wind_400 : decode cX12_wind 400 = .ok (.getfield 26, 3) := dk_180 0 26 (by decide +kernel)
theorem dX12_wind_403 : decode cX12_wind 403 = .ok (.iconst 0, 1) := dk_3 (by decide +kernel)
theorem dX12_wind_404 : decode cX12_wind 404 = .ok (.iload 5, 2) := dk_21 (by decide +kernel)
theorem dX12_wind_406 : decode cX12_wind 406 = .ok (.aload_n 0, 1) := dk_42 (by decide +kernel)
theorem dX12_wind_407 : decode cX12_wind 407 = .ok (.invokevirtual 139, 3) := dk_182 0 139 (by decide +kernel)
theorem dX12_wind_410 : decode cX12_wind 410 = .ok (.invokestatic 120, 3) := dk_184 0 120 (by decide +kernel)
theorem dX12_wind_413 : decode cX12_wind 413 = .ok (.iconst 1, 1) := dk_4 (by decide +kernel)
theorem dX12_wind_414 : decode cX12_wind 414 = .ok (.bastore, 1) := dk_84 (by decide +kernel)
theorem dX12_wind_415 : decode cX12_wind 415 = .ok (.iinc 5 1, 3) := dk_132 1 (by decide +kernel)
theorem dX12_wind_418 : decode cX12_wind 418 = .ok (.goto (-67), 3) := dk_167 255 189 (by decide +kernel)
theorem dX12_wind_421 : decode cX12_wind 421 = .ok (.aload_n 0, 1) := dk_42 (by decide +kernel)
theorem dX12_wind_422 : decode cX12_wind 422 = .ok (.iload_n 1, 1) := dk_27 (by decide +kernel)
theorem dX12_wind_423 : decode cX12_wind 423 = .ok (.iload_n 2, 1) := dk_28 (by decide +kernel)
theorem dX12_wind_424 : decode cX12_wind 424 = .ok (.invokevirtual 143, 3) := dk_182 0 143 (by decide +kernel)
theorem dX12_wind_427 : decode cX12_wind 427 = .ok (.aload_n 0, 1) := dk_42 (by decide +kernel)
theorem dX12_wind_428 : decode cX12_wind 428 = .ok (.iload_n 1, 1) := dk_27 (by decide +kernel)
theorem dX12_wind_429 : decode cX12_wind 429 = .ok (.iload_n 2, 1) := dk_28 (by decide +kernel)
theorem dX12_wind_430 : decode cX12_wind 430 = .ok (.invokevirtual 147, 3) := dk_182 0 147 (by decide +kernel)
theorem dX12_wind_433 : decode cX12_wind 433 = .ok (.return_, 1) := dk_177 (by decide +kernel)
set_option maxRecDepth 8000 in
theorem e_X12_wind {g : ch_G} {A R : Nat} (hC : ck_Cx g A R) {d : Nat} {K : Option ck_V → ck_W → Prop} {w : ck_W} {a1 : Int} (h : (0 ≤ 10 + a1 ∧ 10 + a1 < 1430) ∧ ((ck_i ((w 77 (10 + a1)) * (w 76 0))) ∧ (∀ x4, x4 = (w 77 (10 + a1)) * (w 76 0) → ck_At (ch_C g A R) (d + 1) mX12_wind K 8 [some (.inr (.inr 76)), some (.inl a1), some (.inl x4), some (.inl 0), none, none, none] [] w))) : ck_Ex (ch_C g A R) (d + 1) mX12_wind [.inr (.inr 76), .inl a1] w K :=
  ck_entry hC.1 [some (.inr (.inr 76)), some (.inl a1), none, none, none, none, none] (by decide) (Nat.le_of_ble_eq_true rfl) rfl (fun q => q) (ck_in (fun hl => (ck_aload_n 1 rfl 0 dX12_wind_0 rfl rfl (ck_iload_n 2 rfl 1 dX12_wind_1 rfl rfl (have h7 := h; have o1 := h7.1; have h6 := h7.2; (have h9 := h6; have o2 := h9.1; have h8 := h9.2; (ck_callV 5 rfl [.inl a1] [] dX12_wind_2 cv_X12_131 sh_76 rfl rfl (Nat.le_of_ble_eq_true rfl) (And.intro hl.2.1 True.intro) (p_X12_places hC o1 o2 (fun q3 => (ck_nmi (fun x4 e5 => (ck_istore_n 6 rfl 2 [some (.inr (.inr 76)), some (.inl a1), some (.inl x4), none, none, none, none] dX12_wind_5 rfl (Nat.le_of_ble_eq_true rfl) rfl rfl (by rw [e5]; exact q3.1) (ck_iconst 7 rfl dX12_wind_6 rfl (ck_istore_n 8 rfl 3 [some (.inr (.inr 76)), some (.inl a1), some (.inl x4), some (.inl 0), none, none, none] dX12_wind_7 rfl (Nat.le_of_ble_eq_true rfl) rfl rfl (show ck_i 0 by decide) (h8 x4 e5)))))))))))))))
set_option maxRecDepth 8000 in
theorem r_X12_wind_8 {g : ch_G} {A R : Nat} (hC : ck_Cx g A R) {d : Nat} {K : Option ck_V → ck_W → Prop} {w : ck_W} {a1 a2 a3 : Int} (h : (24 ≤ a3 → ck_At (ch_C g A R) (d + 1) mX12_wind K 29 [some (.inr (.inr 76)), some (.inl a1), some (.inl a2), some (.inl 0), none, none, none] [] w) ∧ (¬ 24 ≤ a3 → (0 ≤ a3 ∧ a3 < 24) ∧ (ck_i (a3 + 1) ∧ (ck_At (ch_C g A R) (d + 1) mX12_wind K 8 [some (.inr (.inr 76)), some (.inl a1), some (.inl a2), some (.inl (a3 + 1)), none, none, none] [] (ck_up w 87 a3 (-1)))))) : ck_At (ch_C g A R) (d + 1) mX12_wind K 8 [some (.inr (.inr 76)), some (.inl a1), some (.inl a2), some (.inl a3), none, none, none] [] w :=
  ck_in (fun hl => (ck_iload_n 9 rfl 3 dX12_wind_8 rfl rfl (ck_bipush 11 rfl dX12_wind_9 rfl (ck_icmp_ge 14 rfl 27 dX12_wind_11 rfl hl.2.2.2.1 (show ck_i 24 by decide) (fun c3 => (ck_iconst 28 rfl dX12_wind_27 rfl (ck_istore_n 29 rfl 3 [some (.inr (.inr 76)), some (.inl a1), some (.inl a2), some (.inl 0), none, none, none] dX12_wind_28 rfl (Nat.le_of_ble_eq_true rfl) rfl rfl (show ck_i 0 by decide) (h.1 c3)))) (fun c4 => (ck_aload_n 15 rfl 0 dX12_wind_14 rfl rfl (ck_getr 18 rfl dX12_wind_15 fl_X12_42 sh_76 rfl (ck_iload_n 19 rfl 3 dX12_wind_18 rfl rfl (ck_iconst 20 rfl dX12_wind_19 rfl (have h6 := (h.2 c4); have o1 := h6.1; have h5 := h6.2; (ck_iast 21 rfl dX12_wind_20 sh_87 (shn_87 hC) o1 (show ck_i (-1) by decide) (have h8 := h5; have o2 := h8.1; have h7 := h8.2; (ck_iinc 24 rfl [some (.inr (.inr 76)), some (.inl a1), some (.inl a2), some (.inl (a3 + 1)), none, none, none] dX12_wind_21 rfl (Nat.le_of_ble_eq_true rfl) rfl rfl o2 (ck_goto 8 dX12_wind_24 rfl h7))))))))))))))
set_option maxRecDepth 8000 in
theorem r_X12_wind_29 {g : ch_G} {A R : Nat} (hC : ck_Cx g A R) {d : Nat} {K : Option ck_V → ck_W → Prop} {w : ck_W} {a1 a2 a3 : Int} (h : ((w 77 1) ≤ a3 → ck_i (a2 - 1) ∧ (ck_At (ch_C g A R) (d + 1) mX12_wind K 116 [some (.inr (.inr 76)), some (.inl a1), some (.inl a2), some (.inl (a2 - 1)), none, none, none] [] w)) ∧ (¬ (w 77 1) ≤ a3 → (0 ≤ (900 + (3 * a3)) ∧ (900 + (3 * a3)) < 1430) ∧ ((¬ (w 77 (900 + (3 * a3))) = a1 → ck_i (a3 + 1) ∧ (ck_At (ch_C g A R) (d + 1) mX12_wind K 29 [some (.inr (.inr 76)), some (.inl a1), some (.inl a2), some (.inl (a3 + 1)), none, none, none] [] w)) ∧ ((w 77 (900 + (3 * a3))) = a1 → (0 ≤ ((900 + (3 * a3)) + 1) ∧ ((900 + (3 * a3)) + 1) < 1430) ∧ ((a2 ≤ (w 77 ((900 + (3 * a3)) + 1)) → ck_i (a3 + 1) ∧ (ck_At (ch_C g A R) (d + 1) mX12_wind K 29 [some (.inr (.inr 76)), some (.inl a1), some (.inl a2), some (.inl (a3 + 1)), none, none, none] [] w)) ∧ (¬ a2 ≤ (w 77 ((900 + (3 * a3)) + 1)) → (0 ≤ ((900 + (3 * a3)) + 2) ∧ ((900 + (3 * a3)) + 2) < 1430) ∧ ((0 ≤ (w 77 ((900 + (3 * a3)) + 1)) ∧ (w 77 ((900 + (3 * a3)) + 1)) < 24) ∧ (ck_i (a3 + 1) ∧ (ck_At (ch_C g A R) (d + 1) mX12_wind K 29 [some (.inr (.inr 76)), some (.inl a1), some (.inl a2), some (.inl (a3 + 1)), none, none, none] [] (ck_up w 87 (w 77 ((900 + (3 * a3)) + 1)) (w 77 ((900 + (3 * a3)) + 2)))))))))))) : ck_At (ch_C g A R) (d + 1) mX12_wind K 29 [some (.inr (.inr 76)), some (.inl a1), some (.inl a2), some (.inl a3), none, none, none] [] w :=
  ck_in (fun hl => (ck_iload_n 30 rfl 3 dX12_wind_29 rfl rfl (ck_aload_n 31 rfl 0 dX12_wind_30 rfl rfl (ck_getr 34 rfl dX12_wind_31 fl_X12_7 sh_76 rfl (ck_iconst 35 rfl dX12_wind_34 rfl (ck_iald 36 rfl dX12_wind_35 sh_77 (shn_77 hC) (by decide) _ rfl (fun (q1 : ck_i (w 77 1)) => (ck_icmp_ge 39 rfl 112 dX12_wind_36 rfl hl.2.2.2.1 q1 (fun c18 => (ck_iload_n 113 rfl 2 dX12_wind_112 rfl rfl (ck_iconst 114 rfl dX12_wind_113 rfl (ck_isub 115 rfl dX12_wind_114 (have h21 := (h.1 c18); have o2 := h21.1; have h20 := h21.2; (ck_istore_n 116 rfl 3 [some (.inr (.inr 76)), some (.inl a1), some (.inl a2), some (.inl (a2 - 1)), none, none, none] dX12_wind_115 rfl (Nat.le_of_ble_eq_true rfl) rfl rfl o2 h20)))))) (fun c19 => (ck_aload_n 40 rfl 0 dX12_wind_39 rfl rfl (ck_getr 43 rfl dX12_wind_40 fl_X12_7 sh_76 rfl (ck_sipush 46 rfl dX12_wind_43 rfl (ck_iconst 47 rfl dX12_wind_46 rfl (ck_iload_n 48 rfl 3 dX12_wind_47 rfl rfl (ck_imul 49 rfl dX12_wind_48 (ck_iadd 50 rfl dX12_wind_49 (have h23 := (h.2 c19); have o3 := h23.1; have h22 := h23.2; (ck_iald 51 rfl dX12_wind_50 sh_77 (shn_77 hC) o3 _ rfl (fun (q4 : ck_i (w 77 (900 + (3 * a3)))) => (ck_iload_n 52 rfl 1 dX12_wind_51 rfl rfl (ck_icmp_ne 55 rfl 106 dX12_wind_52 rfl q4 hl.2.1 (fun c16 => (have h25 := (h22.1 c16); have o5 := h25.1; have h24 := h25.2; (ck_iinc 109 rfl [some (.inr (.inr 76)), some (.inl a1), some (.inl a2), some (.inl (a3 + 1)), none, none, none] dX12_wind_106 rfl (Nat.le_of_ble_eq_true rfl) rfl rfl o5 (ck_goto 29 dX12_wind_109 rfl h24)))) (fun c17 => (ck_aload_n 56 rfl 0 dX12_wind_55 rfl rfl (ck_getr 59 rfl dX12_wind_56 fl_X12_7 sh_76 rfl (ck_sipush 62 rfl dX12_wind_59 rfl (ck_iconst 63 rfl dX12_wind_62 rfl (ck_iload_n 64 rfl 3 dX12_wind_63 rfl rfl (ck_imul 65 rfl dX12_wind_64 (ck_iadd 66 rfl dX12_wind_65 (ck_iconst 67 rfl dX12_wind_66 rfl (ck_iadd 68 rfl dX12_wind_67 (have h27 := (h22.2 c17); have o6 := h27.1; have h26 := h27.2; (ck_iald 69 rfl dX12_wind_68 sh_77 (shn_77 hC) o6 _ rfl (fun (q7 : ck_i (w 77 ((900 + (3 * a3)) + 1))) => (ck_iload_n 70 rfl 2 dX12_wind_69 rfl rfl (ck_icmp_ge 73 rfl 106 dX12_wind_70 rfl q7 hl.2.2.1 (fun c14 => (have h29 := (h26.1 c14); have o8 := h29.1; have h28 := h29.2; (ck_iinc 109 rfl [some (.inr (.inr 76)), some (.inl a1), some (.inl a2), some (.inl (a3 + 1)), none, none, none] dX12_wind_106 rfl (Nat.le_of_ble_eq_true rfl) rfl rfl o8 (ck_goto 29 dX12_wind_109 rfl h28)))) (fun c15 => (ck_aload_n 74 rfl 0 dX12_wind_73 rfl rfl (ck_getr 77 rfl dX12_wind_74 fl_X12_42 sh_76 rfl (ck_aload_n 78 rfl 0 dX12_wind_77 rfl rfl (ck_getr 81 rfl dX12_wind_78 fl_X12_7 sh_76 rfl (ck_sipush 84 rfl dX12_wind_81 rfl (ck_iconst 85 rfl dX12_wind_84 rfl (ck_iload_n 86 rfl 3 dX12_wind_85 rfl rfl (ck_imul 87 rfl dX12_wind_86 (ck_iadd 88 rfl dX12_wind_87 (ck_iconst 89 rfl dX12_wind_88 rfl (ck_iadd 90 rfl dX12_wind_89 (ck_iald 91 rfl dX12_wind_90 sh_77 (shn_77 hC) o6 _ rfl (fun (q9 : ck_i (w 77 ((900 + (3 * a3)) + 1))) => (ck_aload_n 92 rfl 0 dX12_wind_91 rfl rfl (ck_getr 95 rfl dX12_wind_92 fl_X12_7 sh_76 rfl (ck_sipush 98 rfl dX12_wind_95 rfl (ck_iconst 99 rfl dX12_wind_98 rfl (ck_iload_n 100 rfl 3 dX12_wind_99 rfl rfl (ck_imul 101 rfl dX12_wind_100 (ck_iadd 102 rfl dX12_wind_101 (ck_iconst 103 rfl dX12_wind_102 rfl (ck_iadd 104 rfl dX12_wind_103 (have h31 := (h26.2 c15); have o10 := h31.1; have h30 := h31.2; (ck_iald 105 rfl dX12_wind_104 sh_77 (shn_77 hC) o10 _ rfl (fun (q11 : ck_i (w 77 ((900 + (3 * a3)) + 2))) => (have h33 := h30; have o12 := h33.1; have h32 := h33.2; (ck_iast 106 rfl dX12_wind_105 sh_87 (shn_87 hC) o12 q11 (have h35 := h32; have o13 := h35.1; have h34 := h35.2; (ck_iinc 109 rfl [some (.inr (.inr 76)), some (.inl a1), some (.inl a2), some (.inl (a3 + 1)), none, none, none] dX12_wind_106 rfl (Nat.le_of_ble_eq_true rfl) rfl rfl o13 (ck_goto 29 dX12_wind_109 rfl h34)))))))))))))))))))))))))))))))))))))))))))))))))))))))))))))))))))
set_option maxRecDepth 8000 in
theorem r_X12_wind_116 {g : ch_G} {A R : Nat} (hC : ck_Cx g A R) {d : Nat} {K : Option ck_V → ck_W → Prop} {w : ck_W} {a1 a2 a3 : Int} (h : (a3 < 0 → ck_At (ch_C g A R) (d + 1) mX12_wind K 181 [some (.inr (.inr 76)), some (.inl a1), some (.inl a2), some (.inl (-1)), some (.inl 0), some (.inl 0), none] [] w) ∧ (¬ a3 < 0 → ck_At (ch_C g A R) (d + 1) mX12_wind K 123 [some (.inr (.inr 76)), some (.inl a1), some (.inl a2), some (.inl a3), some (.inl 0), none, none] [] w)) : ck_At (ch_C g A R) (d + 1) mX12_wind K 116 [some (.inr (.inr 76)), some (.inl a1), some (.inl a2), some (.inl a3), none, none, none] [] w :=
  ck_in (fun hl => (ck_iload_n 117 rfl 3 dX12_wind_116 rfl rfl (ck_if_lt 120 rfl 173 dX12_wind_117 rfl hl.2.2.2.1 (fun c1 => (ck_iconst 174 rfl dX12_wind_173 rfl (ck_istore_n 175 rfl 3 [some (.inr (.inr 76)), some (.inl a1), some (.inl a2), some (.inl (-1)), none, none, none] dX12_wind_174 rfl (Nat.le_of_ble_eq_true rfl) rfl rfl (show ck_i (-1) by decide) (ck_iconst 176 rfl dX12_wind_175 rfl (ck_istore 178 rfl [some (.inr (.inr 76)), some (.inl a1), some (.inl a2), some (.inl (-1)), some (.inl 0), none, none] dX12_wind_176 (Nat.le_of_ble_eq_true rfl) rfl rfl (show ck_i 0 by decide) (ck_iconst 179 rfl dX12_wind_178 rfl (ck_istore 181 rfl [some (.inr (.inr 76)), some (.inl a1), some (.inl a2), some (.inl (-1)), some (.inl 0), some (.inl 0), none] dX12_wind_179 (Nat.le_of_ble_eq_true rfl) rfl rfl (show ck_i 0 by decide) (h.1 c1)))))))) (fun c2 => (ck_iconst 121 rfl dX12_wind_120 rfl (ck_istore 123 rfl [some (.inr (.inr 76)), some (.inl a1), some (.inl a2), some (.inl a3), some (.inl 0), none, none] dX12_wind_121 (Nat.le_of_ble_eq_true rfl) rfl rfl (show ck_i 0 by decide) (h.2 c2)))))))
set_option maxRecDepth 8000 in
theorem r_X12_wind_123 {g : ch_G} {A R : Nat} (hC : ck_Cx g A R) {d : Nat} {K : Option ck_V → ck_W → Prop} {w : ck_W} {a1 a2 a3 a4 : Int} (h : ((w 76 1) ≤ a4 → ck_i (a3 + (-1)) ∧ (ck_At (ch_C g A R) (d + 1) mX12_wind K 116 [some (.inr (.inr 76)), some (.inl a1), some (.inl a2), some (.inl (a3 + (-1))), none, none, none] [] w)) ∧ (¬ (w 76 1) ≤ a4 → ck_At (ch_C g A R) (d + 1) mX12_wind K 135 [some (.inr (.inr 76)), some (.inl a1), some (.inl a2), some (.inl a3), some (.inl a4), some (.inl 0), none] [] w)) : ck_At (ch_C g A R) (d + 1) mX12_wind K 123 [some (.inr (.inr 76)), some (.inl a1), some (.inl a2), some (.inl a3), some (.inl a4), none, none] [] w :=
  ck_in (fun hl => (ck_iload 125 rfl dX12_wind_123 rfl (ck_aload_n 126 rfl 0 dX12_wind_125 rfl rfl (ck_geti 129 rfl 1 dX12_wind_126 fl_X12_83 sh_76 rfl rfl _ rfl (fun (q1 : ck_i (w 76 1)) => (ck_icmp_ge 132 rfl 167 dX12_wind_129 rfl hl.2.2.2.2.1 q1 (fun c3 => (have h6 := (h.1 c3); have o2 := h6.1; have h5 := h6.2; (ck_iinc 170 rfl [some (.inr (.inr 76)), some (.inl a1), some (.inl a2), some (.inl (a3 + (-1))), some (.inl a4), none, none] dX12_wind_167 rfl (Nat.le_of_ble_eq_true rfl) rfl rfl o2 (ck_goto 116 dX12_wind_170 rfl (ck_drop [some (.inr (.inr 76)), some (.inl a1), some (.inl a2), some (.inl (a3 + (-1))), none, none, none] (And.intro rfl (And.intro rfl (And.intro rfl (And.intro rfl True.intro)))) h5))))) (fun c4 => (ck_iconst 133 rfl dX12_wind_132 rfl (ck_istore 135 rfl [some (.inr (.inr 76)), some (.inl a1), some (.inl a2), some (.inl a3), some (.inl a4), some (.inl 0), none] dX12_wind_133 (Nat.le_of_ble_eq_true rfl) rfl rfl (show ck_i 0 by decide) (h.2 c4))))))))))
set_option maxRecDepth 8000 in
theorem r_X12_wind_135 {g : ch_G} {A R : Nat} (hC : ck_Cx g A R) {d : Nat} {K : Option ck_V → ck_W → Prop} {w : ck_W} {a1 a2 a3 a4 a5 : Int} (h : ((w 76 2) ≤ a5 → ck_i (a4 + 1) ∧ (ck_At (ch_C g A R) (d + 1) mX12_wind K 123 [some (.inr (.inr 76)), some (.inl a1), some (.inl a2), some (.inl a3), some (.inl (a4 + 1)), none, none] [] w)) ∧ (¬ (w 76 2) ≤ a5 → ck_CN (ch_C g A R) d mX12_windState [.inr (.inr 76), .inl a1, .inl a2, .inl a3, .inl a4, .inl a5] w (fun w3 => ck_i (a5 + 1) ∧ (ck_At (ch_C g A R) (d + 1) mX12_wind K 135 [some (.inr (.inr 76)), some (.inl a1), some (.inl a2), some (.inl a3), some (.inl a4), some (.inl (a5 + 1)), none] [] w3)))) : ck_At (ch_C g A R) (d + 1) mX12_wind K 135 [some (.inr (.inr 76)), some (.inl a1), some (.inl a2), some (.inl a3), some (.inl a4), some (.inl a5), none] [] w :=
  ck_in (fun hl => (ck_iload 137 rfl dX12_wind_135 rfl (ck_aload_n 138 rfl 0 dX12_wind_137 rfl rfl (ck_geti 141 rfl 2 dX12_wind_138 fl_X12_86 sh_76 rfl rfl _ rfl (fun (q1 : ck_i (w 76 2)) => (ck_icmp_ge 144 rfl 161 dX12_wind_141 rfl hl.2.2.2.2.2.1 q1 (fun c6 => (have h9 := (h.1 c6); have o2 := h9.1; have h8 := h9.2; (ck_iinc 164 rfl [some (.inr (.inr 76)), some (.inl a1), some (.inl a2), some (.inl a3), some (.inl (a4 + 1)), some (.inl a5), none] dX12_wind_161 rfl (Nat.le_of_ble_eq_true rfl) rfl rfl o2 (ck_goto 123 dX12_wind_164 rfl (ck_drop [some (.inr (.inr 76)), some (.inl a1), some (.inl a2), some (.inl a3), some (.inl (a4 + 1)), none, none] (And.intro rfl (And.intro rfl (And.intro rfl (And.intro rfl (And.intro rfl True.intro))))) h8))))) (fun c7 => (ck_aload_n 145 rfl 0 dX12_wind_144 rfl rfl (ck_iload_n 146 rfl 1 dX12_wind_145 rfl rfl (ck_iload_n 147 rfl 2 dX12_wind_146 rfl rfl (ck_iload_n 148 rfl 3 dX12_wind_147 rfl rfl (ck_iload 150 rfl dX12_wind_148 rfl (ck_iload 152 rfl dX12_wind_150 rfl (ck_callV 155 rfl [.inl a1, .inl a2, .inl a3, .inl a4, .inl a5] [] dX12_wind_152 cv_X12_135 sh_76 rfl rfl (Nat.le_of_ble_eq_true rfl) (And.intro hl.2.1 (And.intro hl.2.2.1 (And.intro hl.2.2.2.1 (And.intro hl.2.2.2.2.1 (And.intro hl.2.2.2.2.2.1 True.intro))))) (ck_mN (h.2 c7) (fun w3 h5 => (have h11 := h5; have o4 := h11.1; have h10 := h11.2; (ck_iinc 158 rfl [some (.inr (.inr 76)), some (.inl a1), some (.inl a2), some (.inl a3), some (.inl a4), some (.inl (a5 + 1)), none] dX12_wind_155 rfl (Nat.le_of_ble_eq_true rfl) rfl rfl o4 (ck_goto 135 dX12_wind_158 rfl h10)))))))))))))))))))
set_option maxRecDepth 8000 in
theorem r_X12_wind_181 {g : ch_G} {A R : Nat} (hC : ck_Cx g A R) {d : Nat} {K : Option ck_V → ck_W → Prop} {w : ck_W} {a1 a2 a3 a4 a5 : Int} (h : ((w 76 1) ≤ a5 → (0 ≤ a1 ∧ a1 < 6) ∧ ((a4 ≤ 1000000 → ck_At (ch_C g A R) (d + 1) mX12_wind K 317 [some (.inr (.inr 76)), some (.inl a1), some (.inl a2), some (.inl a3), none, some (.inl 0), none] [] (ck_up (ck_up w 83 a1 a3) 84 a1 a4)) ∧ (¬ a4 ≤ 1000000 → ck_At (ch_C g A R) (d + 1) mX12_wind K 317 [some (.inr (.inr 76)), some (.inl a1), some (.inl a2), some (.inl a3), none, some (.inl 0), none] [] (ck_up (ck_up w 83 a1 a3) 84 a1 1000000)))) ∧ (¬ (w 76 1) ≤ a5 → (1 ≤ (w 76 2) ∧ (w 76 2) ≤ 1000 ∧ ck_i (((w 76 2) - 1).tdiv 2)) ∧ ((ck_i ((12 * 0 + a5) * 243 + (((w 76 2) - 1).tdiv 2))) ∧ (∀ x9, x9 = (12 * 0 + a5) * 243 + (((w 76 2) - 1).tdiv 2) → ((w 87 0) < 0 → (0 ≤ x9 ∧ x9 < 70000) ∧ (((w 80 x9) < 0 → ck_i (a5 + 1) ∧ (ck_At (ch_C g A R) (d + 1) mX12_wind K 181 [some (.inr (.inr 76)), some (.inl a1), some (.inl a2), some (.inl a3), some (.inl a4), some (.inl (a5 + 1)), none] [] w)) ∧ (¬ (w 80 x9) < 0 → (a3 ≤ (w 80 x9) → (¬ (w 80 x9) = a3 → ck_i (0 + (w 81 x9)) ∧ (ck_i (a5 + 1) ∧ (ck_At (ch_C g A R) (d + 1) mX12_wind K 181 [some (.inr (.inr 76)), some (.inl a1), some (.inl a2), some (.inl (w 80 x9)), some (.inl (0 + (w 81 x9))), some (.inl (a5 + 1)), none] [] w))) ∧ ((w 80 x9) = a3 → ck_i (a4 + (w 81 x9)) ∧ (ck_i (a5 + 1) ∧ (ck_At (ch_C g A R) (d + 1) mX12_wind K 181 [some (.inr (.inr 76)), some (.inl a1), some (.inl a2), some (.inl (w 80 x9)), some (.inl (a4 + (w 81 x9))), some (.inl (a5 + 1)), none] [] w)))) ∧ (¬ a3 ≤ (w 80 x9) → ck_i (a5 + 1) ∧ (ck_At (ch_C g A R) (d + 1) mX12_wind K 181 [some (.inr (.inr 76)), some (.inl a1), some (.inl a2), some (.inl a3), some (.inl a4), some (.inl (a5 + 1)), none] [] w))))) ∧ (¬ (w 87 0) < 0 → (¬ (w 87 0) = a5 → ck_i (a5 + 1) ∧ (ck_At (ch_C g A R) (d + 1) mX12_wind K 181 [some (.inr (.inr 76)), some (.inl a1), some (.inl a2), some (.inl a3), some (.inl a4), some (.inl (a5 + 1)), none] [] w)) ∧ ((w 87 0) = a5 → (0 ≤ x9 ∧ x9 < 70000) ∧ (((w 80 x9) < 0 → ck_i (a5 + 1) ∧ (ck_At (ch_C g A R) (d + 1) mX12_wind K 181 [some (.inr (.inr 76)), some (.inl a1), some (.inl a2), some (.inl a3), some (.inl a4), some (.inl (a5 + 1)), none] [] w)) ∧ (¬ (w 80 x9) < 0 → (a3 ≤ (w 80 x9) → (¬ (w 80 x9) = a3 → ck_i (0 + (w 81 x9)) ∧ (ck_i (a5 + 1) ∧ (ck_At (ch_C g A R) (d + 1) mX12_wind K 181 [some (.inr (.inr 76)), some (.inl a1), some (.inl a2), some (.inl (w 80 x9)), some (.inl (0 + (w 81 x9))), some (.inl (a5 + 1)), none] [] w))) ∧ ((w 80 x9) = a3 → ck_i (a4 + (w 81 x9)) ∧ (ck_i (a5 + 1) ∧ (ck_At (ch_C g A R) (d + 1) mX12_wind K 181 [some (.inr (.inr 76)), some (.inl a1), some (.inl a2), some (.inl (w 80 x9)), some (.inl (a4 + (w 81 x9))), some (.inl (a5 + 1)), none] [] w)))) ∧ (¬ a3 ≤ (w 80 x9) → ck_i (a5 + 1) ∧ (ck_At (ch_C g A R) (d + 1) mX12_wind K 181 [some (.inr (.inr 76)), some (.inl a1), some (.inl a2), some (.inl a3), some (.inl a4), some (.inl (a5 + 1)), none] [] w)))))))))) : ck_At (ch_C g A R) (d + 1) mX12_wind K 181 [some (.inr (.inr 76)), some (.inl a1), some (.inl a2), some (.inl a3), some (.inl a4), some (.inl a5), none] [] w :=
  ck_in (fun hl => (ck_iload 183 rfl dX12_wind_181 rfl (ck_aload_n 184 rfl 0 dX12_wind_183 rfl rfl (ck_geti 187 rfl 1 dX12_wind_184 fl_X12_83 sh_76 rfl rfl _ rfl (fun (q1 : ck_i (w 76 1)) => (ck_icmp_ge 190 rfl 287 dX12_wind_187 rfl hl.2.2.2.2.2.1 q1 (fun c58 => (ck_aload_n 288 rfl 0 dX12_wind_287 rfl rfl (ck_getr 291 rfl dX12_wind_288 fl_X12_30 sh_76 rfl (ck_iload_n 292 rfl 1 dX12_wind_291 rfl rfl (ck_iload_n 293 rfl 3 dX12_wind_292 rfl rfl (have h61 := (h.1 c58); have o2 := h61.1; have h60 := h61.2; (ck_iast 294 rfl dX12_wind_293 sh_83 (shn_83 hC) o2 hl.2.2.2.1 (ck_aload_n 295 rfl 0 dX12_wind_294 rfl rfl (ck_getr 298 rfl dX12_wind_295 fl_X12_33 sh_76 rfl (ck_iload_n 299 rfl 1 dX12_wind_298 rfl rfl (ck_iload 301 rfl dX12_wind_299 rfl (ck_ldc 303 rfl 1000000 kc_X12_130 dX12_wind_301 rfl (ck_icmp_le 306 rfl 311 dX12_wind_303 rfl hl.2.2.2.2.1 (show ck_i 1000000 by decide) (fun c3 => (ck_iload 313 rfl dX12_wind_311 rfl (ck_iast 314 rfl dX12_wind_313 sh_84 (shn_84 hC) o2 hl.2.2.2.2.1 (ck_iconst 315 rfl dX12_wind_314 rfl (ck_istore 317 rfl [some (.inr (.inr 76)), some (.inl a1), some (.inl a2), some (.inl a3), some (.inl a4), some (.inl 0), none] dX12_wind_315 (Nat.le_of_ble_eq_true rfl) rfl rfl (show ck_i 0 by decide) (ck_drop [some (.inr (.inr 76)), some (.inl a1), some (.inl a2), some (.inl a3), none, some (.inl 0), none] (And.intro rfl (And.intro rfl (And.intro rfl (And.intro rfl (And.intro rfl True.intro))))) (h60.1 c3))))))) (fun c4 => (ck_ldc 308 rfl 1000000 kc_X12_130 dX12_wind_306 rfl (ck_goto 313 dX12_wind_308 rfl (ck_iast 314 rfl dX12_wind_313 sh_84 (shn_84 hC) o2 (show ck_i 1000000 by decide) (ck_iconst 315 rfl dX12_wind_314 rfl (ck_istore 317 rfl [some (.inr (.inr 76)), some (.inl a1), some (.inl a2), some (.inl a3), some (.inl a4), some (.inl 0), none] dX12_wind_315 (Nat.le_of_ble_eq_true rfl) rfl rfl (show ck_i 0 by decide) (ck_drop [some (.inr (.inr 76)), some (.inl a1), some (.inl a2), some (.inl a3), none, some (.inl 0), none] (And.intro rfl (And.intro rfl (And.intro rfl (And.intro rfl (And.intro rfl True.intro))))) (h60.2 c4))))))))))))))))))))) (fun c59 => (ck_iconst 191 rfl dX12_wind_190 rfl (ck_iload 193 rfl dX12_wind_191 rfl (ck_aload_n 194 rfl 0 dX12_wind_193 rfl rfl (have h63 := (h.2 c59); have o5 := h63.1; have h62 := h63.2; (ck_callV 197 rfl [] [.inl a5, .inl 0] dX12_wind_194 cv_X12_139 sh_76 rfl rfl (Nat.le_of_ble_eq_true rfl) True.intro (p_X12_still hC o5 (fun q6 => (have h65 := h62; have o7 := h65.1; have h64 := h65.2; (ck_callS 200 rfl [.inl 0, .inl a5, .inl (((w 76 2) - 1).tdiv 2)] [] dX12_wind_197 cs_X12_120 rfl rfl (Nat.le_of_ble_eq_true rfl) (And.intro (show ck_i 0 by decide) (And.intro hl.2.2.2.2.2.1 (And.intro q6.1 True.intro))) (p_X12_state hC o7 (fun q8 => (ck_nmi (fun x9 e10 => (ck_istore 202 rfl [some (.inr (.inr 76)), some (.inl a1), some (.inl a2), some (.inl a3), some (.inl a4), some (.inl a5), some (.inl x9)] dX12_wind_200 (Nat.le_of_ble_eq_true rfl) rfl rfl (by rw [e10]; exact q8.1) (ck_aload_n 203 rfl 0 dX12_wind_202 rfl rfl (ck_getr 206 rfl dX12_wind_203 fl_X12_42 sh_76 rfl (ck_iconst 207 rfl dX12_wind_206 rfl (ck_iald 208 rfl dX12_wind_207 sh_87 (shn_87 hC) (by decide) _ rfl (fun (q11 : ck_i (w 87 0)) => (have h66 := (h64 x9 e10); (ck_if_lt 211 rfl 222 dX12_wind_208 rfl q11 (fun c56 => (ck_aload_n 223 rfl 0 dX12_wind_222 rfl rfl (ck_getr 226 rfl dX12_wind_223 fl_X12_20 sh_76 rfl (ck_iload 228 rfl dX12_wind_226 rfl (have h68 := (h66.1 c56); have o12 := h68.1; have h67 := h68.2; (ck_iald 229 rfl dX12_wind_228 sh_80 (shn_80 hC) o12 _ rfl (fun (q13 : ck_i (w 80 x9)) => (ck_if_lt 232 rfl 281 dX12_wind_229 rfl q13 (fun c30 => (have h70 := (h67.1 c30); have o14 := h70.1; have h69 := h70.2; (ck_iinc 284 rfl [some (.inr (.inr 76)), some (.inl a1), some (.inl a2), some (.inl a3), some (.inl a4), some (.inl (a5 + 1)), some (.inl x9)] dX12_wind_281 rfl (Nat.le_of_ble_eq_true rfl) rfl rfl o14 (ck_goto 181 dX12_wind_284 rfl (ck_drop [some (.inr (.inr 76)), some (.inl a1), some (.inl a2), some (.inl a3), some (.inl a4), some (.inl (a5 + 1)), none] (And.intro rfl (And.intro rfl (And.intro rfl (And.intro rfl (And.intro rfl (And.intro rfl True.intro)))))) h69))))) (fun c31 => (ck_aload_n 233 rfl 0 dX12_wind_232 rfl rfl (ck_getr 236 rfl dX12_wind_233 fl_X12_20 sh_76 rfl (ck_iload 238 rfl dX12_wind_236 rfl (ck_iald 239 rfl dX12_wind_238 sh_80 (shn_80 hC) o12 _ rfl (fun (q15 : ck_i (w 80 x9)) => (ck_iload_n 240 rfl 3 dX12_wind_239 rfl rfl (have h71 := (h67.2 c31); (ck_icmp_ge 243 rfl 246 dX12_wind_240 rfl q15 hl.2.2.2.1 (fun c28 => (ck_aload_n 247 rfl 0 dX12_wind_246 rfl rfl (ck_getr 250 rfl dX12_wind_247 fl_X12_20 sh_76 rfl (ck_iload 252 rfl dX12_wind_250 rfl (ck_iald 253 rfl dX12_wind_252 sh_80 (shn_80 hC) o12 _ rfl (fun (q16 : ck_i (w 80 x9)) => (ck_iload_n 254 rfl 3 dX12_wind_253 rfl rfl (have h72 := (h71.1 c28); (ck_icmp_ne 257 rfl 262 dX12_wind_254 rfl q16 hl.2.2.2.1 (fun c25 => (ck_iconst 263 rfl dX12_wind_262 rfl (ck_aload_n 264 rfl 0 dX12_wind_263 rfl rfl (ck_getr 267 rfl dX12_wind_264 fl_X12_23 sh_76 rfl (ck_iload 269 rfl dX12_wind_267 rfl (ck_iald 270 rfl dX12_wind_269 sh_81 (shn_81 hC) o12 _ rfl (fun (q17 : ck_i (w 81 x9)) => (ck_iadd 271 rfl dX12_wind_270 (have h74 := (h72.1 c25); have o18 := h74.1; have h73 := h74.2; (ck_istore 273 rfl [some (.inr (.inr 76)), some (.inl a1), some (.inl a2), some (.inl a3), some (.inl (0 + (w 81 x9))), some (.inl a5), some (.inl x9)] dX12_wind_271 (Nat.le_of_ble_eq_true rfl) rfl rfl o18 (ck_aload_n 274 rfl 0 dX12_wind_273 rfl rfl (ck_getr 277 rfl dX12_wind_274 fl_X12_20 sh_76 rfl (ck_iload 279 rfl dX12_wind_277 rfl (ck_iald 280 rfl dX12_wind_279 sh_80 (shn_80 hC) o12 _ rfl (fun (q19 : ck_i (w 80 x9)) => (ck_istore_n 281 rfl 3 [some (.inr (.inr 76)), some (.inl a1), some (.inl a2), some (.inl (w 80 x9)), some (.inl (0 + (w 81 x9))), some (.inl a5), some (.inl x9)] dX12_wind_280 rfl (Nat.le_of_ble_eq_true rfl) rfl rfl q19 (have h76 := h73; have o20 := h76.1; have h75 := h76.2; (ck_iinc 284 rfl [some (.inr (.inr 76)), some (.inl a1), some (.inl a2), some (.inl (w 80 x9)), some (.inl (0 + (w 81 x9))), some (.inl (a5 + 1)), some (.inl x9)] dX12_wind_281 rfl (Nat.le_of_ble_eq_true rfl) rfl rfl o20 (ck_goto 181 dX12_wind_284 rfl (ck_drop [some (.inr (.inr 76)), some (.inl a1), some (.inl a2), some (.inl (w 80 x9)), some (.inl (0 + (w 81 x9))), some (.inl (a5 + 1)), none] (And.intro rfl (And.intro rfl (And.intro rfl (And.intro rfl (And.intro rfl (And.intro rfl True.intro)))))) h75)))))))))))))))))))) (fun c26 => (ck_iload 259 rfl dX12_wind_257 rfl (ck_goto 263 dX12_wind_259 rfl (ck_aload_n 264 rfl 0 dX12_wind_263 rfl rfl (ck_getr 267 rfl dX12_wind_264 fl_X12_23 sh_76 rfl (ck_iload 269 rfl dX12_wind_267 rfl (ck_iald 270 rfl dX12_wind_269 sh_81 (shn_81 hC) o12 _ rfl (fun (q21 : ck_i (w 81 x9)) => (ck_iadd 271 rfl dX12_wind_270 (have h78 := (h72.2 c26); have o22 := h78.1; have h77 := h78.2; (ck_istore 273 rfl [some (.inr (.inr 76)), some (.inl a1), some (.inl a2), some (.inl a3), some (.inl (a4 + (w 81 x9))), some (.inl a5), some (.inl x9)] dX12_wind_271 (Nat.le_of_ble_eq_true rfl) rfl rfl o22 (ck_aload_n 274 rfl 0 dX12_wind_273 rfl rfl (ck_getr 277 rfl dX12_wind_274 fl_X12_20 sh_76 rfl (ck_iload 279 rfl dX12_wind_277 rfl (ck_iald 280 rfl dX12_wind_279 sh_80 (shn_80 hC) o12 _ rfl (fun (q23 : ck_i (w 80 x9)) => (ck_istore_n 281 rfl 3 [some (.inr (.inr 76)), some (.inl a1), some (.inl a2), some (.inl (w 80 x9)), some (.inl (a4 + (w 81 x9))), some (.inl a5), some (.inl x9)] dX12_wind_280 rfl (Nat.le_of_ble_eq_true rfl) rfl rfl q23 (have h80 := h77; have o24 := h80.1; have h79 := h80.2; (ck_iinc 284 rfl [some (.inr (.inr 76)), some (.inl a1), some (.inl a2), some (.inl (w 80 x9)), some (.inl (a4 + (w 81 x9))), some (.inl (a5 + 1)), some (.inl x9)] dX12_wind_281 rfl (Nat.le_of_ble_eq_true rfl) rfl rfl o24 (ck_goto 181 dX12_wind_284 rfl (ck_drop [some (.inr (.inr 76)), some (.inl a1), some (.inl a2), some (.inl (w 80 x9)), some (.inl (a4 + (w 81 x9))), some (.inl (a5 + 1)), none] (And.intro rfl (And.intro rfl (And.intro rfl (And.intro rfl (And.intro rfl (And.intro rfl True.intro)))))) h79)))))))))))))))))))))))))))))) (fun c29 => (ck_goto 281 dX12_wind_243 rfl (have h82 := (h71.2 c29); have o27 := h82.1; have h81 := h82.2; (ck_iinc 284 rfl [some (.inr (.inr 76)), some (.inl a1), some (.inl a2), some (.inl a3), some (.inl a4), some (.inl (a5 + 1)), some (.inl x9)] dX12_wind_281 rfl (Nat.le_of_ble_eq_true rfl) rfl rfl o27 (ck_goto 181 dX12_wind_284 rfl (ck_drop [some (.inr (.inr 76)), some (.inl a1), some (.inl a2), some (.inl a3), some (.inl a4), some (.inl (a5 + 1)), none] (And.intro rfl (And.intro rfl (And.intro rfl (And.intro rfl (And.intro rfl (And.intro rfl True.intro)))))) h81))))))))))))))))))))))) (fun c57 => (ck_aload_n 212 rfl 0 dX12_wind_211 rfl rfl (ck_getr 215 rfl dX12_wind_212 fl_X12_42 sh_76 rfl (ck_iconst 216 rfl dX12_wind_215 rfl (ck_iald 217 rfl dX12_wind_216 sh_87 (shn_87 hC) (by decide) _ rfl (fun (q32 : ck_i (w 87 0)) => (ck_iload 219 rfl dX12_wind_217 rfl (have h83 := (h66.2 c57); (ck_icmp_ne 222 rfl 281 dX12_wind_219 rfl q32 hl.2.2.2.2.2.1 (fun c54 => (have h85 := (h83.1 c54); have o33 := h85.1; have h84 := h85.2; (ck_iinc 284 rfl [some (.inr (.inr 76)), some (.inl a1), some (.inl a2), some (.inl a3), some (.inl a4), some (.inl (a5 + 1)), some (.inl x9)] dX12_wind_281 rfl (Nat.le_of_ble_eq_true rfl) rfl rfl o33 (ck_goto 181 dX12_wind_284 rfl (ck_drop [some (.inr (.inr 76)), some (.inl a1), some (.inl a2), some (.inl a3), some (.inl a4), some (.inl (a5 + 1)), none] (And.intro rfl (And.intro rfl (And.intro rfl (And.intro rfl (And.intro rfl (And.intro rfl True.intro)))))) h84))))) (fun c55 => (ck_aload_n 223 rfl 0 dX12_wind_222 rfl rfl (ck_getr 226 rfl dX12_wind_223 fl_X12_20 sh_76 rfl (ck_iload 228 rfl dX12_wind_226 rfl (have h87 := (h83.2 c55); have o34 := h87.1; have h86 := h87.2; (ck_iald 229 rfl dX12_wind_228 sh_80 (shn_80 hC) o34 _ rfl (fun (q35 : ck_i (w 80 x9)) => (ck_if_lt 232 rfl 281 dX12_wind_229 rfl q35 (fun c52 => (have h89 := (h86.1 c52); have o36 := h89.1; have h88 := h89.2; (ck_iinc 284 rfl [some (.inr (.inr 76)), some (.inl a1), some (.inl a2), some (.inl a3), some (.inl a4), some (.inl (a5 + 1)), some (.inl x9)] dX12_wind_281 rfl (Nat.le_of_ble_eq_true rfl) rfl rfl o36 (ck_goto 181 dX12_wind_284 rfl (ck_drop [some (.inr (.inr 76)), some (.inl a1), some (.inl a2), some (.inl a3), some (.inl a4), some (.inl (a5 + 1)), none] (And.intro rfl (And.intro rfl (And.intro rfl (And.intro rfl (And.intro rfl (And.intro rfl True.intro)))))) h88))))) (fun c53 => (ck_aload_n 233 rfl 0 dX12_wind_232 rfl rfl (ck_getr 236 rfl dX12_wind_233 fl_X12_20 sh_76 rfl (ck_iload 238 rfl dX12_wind_236 rfl (ck_iald 239 rfl dX12_wind_238 sh_80 (shn_80 hC) o34 _ rfl (fun (q37 : ck_i (w 80 x9)) => (ck_iload_n 240 rfl 3 dX12_wind_239 rfl rfl (have h90 := (h86.2 c53); (ck_icmp_ge 243 rfl 246 dX12_wind_240 rfl q37 hl.2.2.2.1 (fun c50 => (ck_aload_n 247 rfl 0 dX12_wind_246 rfl rfl (ck_getr 250 rfl dX12_wind_247 fl_X12_20 sh_76 rfl (ck_iload 252 rfl dX12_wind_250 rfl (ck_iald 253 rfl dX12_wind_252 sh_80 (shn_80 hC) o34 _ rfl (fun (q38 : ck_i (w 80 x9)) => (ck_iload_n 254 rfl 3 dX12_wind_253 rfl rfl (have h91 := (h90.1 c50); (ck_icmp_ne 257 rfl 262 dX12_wind_254 rfl q38 hl.2.2.2.1 (fun c47 => (ck_iconst 263 rfl dX12_wind_262 rfl (ck_aload_n 264 rfl 0 dX12_wind_263 rfl rfl (ck_getr 267 rfl dX12_wind_264 fl_X12_23 sh_76 rfl (ck_iload 269 rfl dX12_wind_267 rfl (ck_iald 270 rfl dX12_wind_269 sh_81 (shn_81 hC) o34 _ rfl (fun (q39 : ck_i (w 81 x9)) => (ck_iadd 271 rfl dX12_wind_270 (have h93 := (h91.1 c47); have o40 := h93.1; have h92 := h93.2; (ck_istore 273 rfl [some (.inr (.inr 76)), some (.inl a1), some (.inl a2), some (.inl a3), some (.inl (0 + (w 81 x9))), some (.inl a5), some (.inl x9)] dX12_wind_271 (Nat.le_of_ble_eq_true rfl) rfl rfl o40 (ck_aload_n 274 rfl 0 dX12_wind_273 rfl rfl (ck_getr 277 rfl dX12_wind_274 fl_X12_20 sh_76 rfl (ck_iload 279 rfl dX12_wind_277 rfl (ck_iald 280 rfl dX12_wind_279 sh_80 (shn_80 hC) o34 _ rfl (fun (q41 : ck_i (w 80 x9)) => (ck_istore_n 281 rfl 3 [some (.inr (.inr 76)), some (.inl a1), some (.inl a2), some (.inl (w 80 x9)), some (.inl (0 + (w 81 x9))), some (.inl a5), some (.inl x9)] dX12_wind_280 rfl (Nat.le_of_ble_eq_true rfl) rfl rfl q41 (have h95 := h92; have o42 := h95.1; have h94 := h95.2; (ck_iinc 284 rfl [some (.inr (.inr 76)), some (.inl a1), some (.inl a2), some (.inl (w 80 x9)), some (.inl (0 + (w 81 x9))), some (.inl (a5 + 1)), some (.inl x9)] dX12_wind_281 rfl (Nat.le_of_ble_eq_true rfl) rfl rfl o42 (ck_goto 181 dX12_wind_284 rfl (ck_drop [some (.inr (.inr 76)), some (.inl a1), some (.inl a2), some (.inl (w 80 x9)), some (.inl (0 + (w 81 x9))), some (.inl (a5 + 1)), none] (And.intro rfl (And.intro rfl (And.intro rfl (And.intro rfl (And.intro rfl (And.intro rfl True.intro)))))) h94)))))))))))))))))))) (fun c48 => (ck_iload 259 rfl dX12_wind_257 rfl (ck_goto 263 dX12_wind_259 rfl (ck_aload_n 264 rfl 0 dX12_wind_263 rfl rfl (ck_getr 267 rfl dX12_wind_264 fl_X12_23 sh_76 rfl (ck_iload 269 rfl dX12_wind_267 rfl (ck_iald 270 rfl dX12_wind_269 sh_81 (shn_81 hC) o34 _ rfl (fun (q43 : ck_i (w 81 x9)) => (ck_iadd 271 rfl dX12_wind_270 (have h97 := (h91.2 c48); have o44 := h97.1; have h96 := h97.2; (ck_istore 273 rfl [some (.inr (.inr 76)), some (.inl a1), some (.inl a2), some (.inl a3), some (.inl (a4 + (w 81 x9))), some (.inl a5), some (.inl x9)] dX12_wind_271 (Nat.le_of_ble_eq_true rfl) rfl rfl o44 (ck_aload_n 274 rfl 0 dX12_wind_273 rfl rfl (ck_getr 277 rfl dX12_wind_274 fl_X12_20 sh_76 rfl (ck_iload 279 rfl dX12_wind_277 rfl (ck_iald 280 rfl dX12_wind_279 sh_80 (shn_80 hC) o34 _ rfl (fun (q45 : ck_i (w 80 x9)) => (ck_istore_n 281 rfl 3 [some (.inr (.inr 76)), some (.inl a1), some (.inl a2), some (.inl (w 80 x9)), some (.inl (a4 + (w 81 x9))), some (.inl a5), some (.inl x9)] dX12_wind_280 rfl (Nat.le_of_ble_eq_true rfl) rfl rfl q45 (have h99 := h96; have o46 := h99.1; have h98 := h99.2; (ck_iinc 284 rfl [some (.inr (.inr 76)), some (.inl a1), some (.inl a2), some (.inl (w 80 x9)), some (.inl (a4 + (w 81 x9))), some (.inl (a5 + 1)), some (.inl x9)] dX12_wind_281 rfl (Nat.le_of_ble_eq_true rfl) rfl rfl o46 (ck_goto 181 dX12_wind_284 rfl (ck_drop [some (.inr (.inr 76)), some (.inl a1), some (.inl a2), some (.inl (w 80 x9)), some (.inl (a4 + (w 81 x9))), some (.inl (a5 + 1)), none] (And.intro rfl (And.intro rfl (And.intro rfl (And.intro rfl (And.intro rfl (And.intro rfl True.intro)))))) h98)))))))))))))))))))))))))))))) (fun c51 => (ck_goto 281 dX12_wind_243 rfl (have h101 := (h90.2 c51); have o49 := h101.1; have h100 := h101.2; (ck_iinc 284 rfl [some (.inr (.inr 76)), some (.inl a1), some (.inl a2), some (.inl a3), some (.inl a4), some (.inl (a5 + 1)), some (.inl x9)] dX12_wind_281 rfl (Nat.le_of_ble_eq_true rfl) rfl rfl o49 (ck_goto 181 dX12_wind_284 rfl (ck_drop [some (.inr (.inr 76)), some (.inl a1), some (.inl a2), some (.inl a3), some (.inl a4), some (.inl (a5 + 1)), none] (And.intro rfl (And.intro rfl (And.intro rfl (And.intro rfl (And.intro rfl (And.intro rfl True.intro)))))) h100))))))))))))))))))))))))))))))))))))))))))))))))))))))))))))
set_option maxRecDepth 8000 in
theorem r_X12_wind_317 {g : ch_G} {A R : Nat} (hC : ck_Cx g A R) {d : Nat} {K : Option ck_V → ck_W → Prop} {w : ck_W} {a1 a2 a3 a5 : Int} (h : (24 ≤ a5 → (0 ≤ a3 → ck_At (ch_C g A R) (d + 1) mX12_wind K 351 [some (.inr (.inr 76)), some (.inl a1), some (.inl a2), some (.inl a3), none, some (.inl 0), none] [] w) ∧ (¬ 0 ≤ a3 → K none w)) ∧ (¬ 24 ≤ a5 → (0 ≤ ((24 * a1) + a5) ∧ ((24 * a1) + a5) < 144) ∧ (ck_i (a5 + 1) ∧ (ck_At (ch_C g A R) (d + 1) mX12_wind K 317 [some (.inr (.inr 76)), some (.inl a1), some (.inl a2), some (.inl a3), none, some (.inl (a5 + 1)), none] [] (ck_up w 86 ((24 * a1) + a5) 0))))) : ck_At (ch_C g A R) (d + 1) mX12_wind K 317 [some (.inr (.inr 76)), some (.inl a1), some (.inl a2), some (.inl a3), none, some (.inl a5), none] [] w :=
  ck_in (fun hl => (ck_iload 319 rfl dX12_wind_317 rfl (ck_bipush 321 rfl dX12_wind_319 rfl (ck_icmp_ge 324 rfl 343 dX12_wind_321 rfl hl.2.2.2.2.1 (show ck_i 24 by decide) (fun c5 => (ck_iload_n 344 rfl 3 dX12_wind_343 rfl rfl (have h7 := (h.1 c5); (ck_if_ge 347 rfl 348 dX12_wind_344 rfl hl.2.2.2.1 (fun c1 => (ck_iconst 349 rfl dX12_wind_348 rfl (ck_istore 351 rfl [some (.inr (.inr 76)), some (.inl a1), some (.inl a2), some (.inl a3), none, some (.inl 0), none] dX12_wind_349 (Nat.le_of_ble_eq_true rfl) rfl rfl (show ck_i 0 by decide) (h7.1 c1)))) (fun c2 => (ck_vret dX12_wind_347 rfl (h7.2 c2))))))) (fun c6 => (ck_aload_n 325 rfl 0 dX12_wind_324 rfl rfl (ck_getr 328 rfl dX12_wind_325 fl_X12_39 sh_76 rfl (ck_bipush 330 rfl dX12_wind_328 rfl (ck_iload_n 331 rfl 1 dX12_wind_330 rfl rfl (ck_imul 332 rfl dX12_wind_331 (ck_iload 334 rfl dX12_wind_332 rfl (ck_iadd 335 rfl dX12_wind_334 (ck_iconst 336 rfl dX12_wind_335 rfl (have h9 := (h.2 c6); have o3 := h9.1; have h8 := h9.2; (ck_iast 337 rfl dX12_wind_336 sh_86 (shn_86 hC) o3 (show ck_i 0 by decide) (have h11 := h8; have o4 := h11.1; have h10 := h11.2; (ck_iinc 340 rfl [some (.inr (.inr 76)), some (.inl a1), some (.inl a2), some (.inl a3), none, some (.inl (a5 + 1)), none] dX12_wind_337 rfl (Nat.le_of_ble_eq_true rfl) rfl rfl o4 (ck_goto 317 dX12_wind_340 rfl h10))))))))))))))))))
set_option maxRecDepth 8000 in
theorem r_X12_wind_351 {g : ch_G} {A R : Nat} (hC : ck_Cx g A R) {d : Nat} {K : Option ck_V → ck_W → Prop} {w : ck_W} {a1 a2 a3 a5 : Int} (h : ((w 76 1) ≤ a5 → ck_CN (ch_C g A R) d mX12_markBest [.inr (.inr 76), .inl a1, .inl a2] w (fun w2 => ck_CN (ch_C g A R) d mX12_goBest [.inr (.inr 76), .inl a1, .inl a2] w2 (fun w3 => K none w3))) ∧ (¬ (w 76 1) ≤ a5 → ((w 87 0) < 0 → (1 ≤ (w 76 2) ∧ (w 76 2) ≤ 1000 ∧ ck_i (((w 76 2) - 1).tdiv 2)) ∧ ((ck_i ((12 * 0 + a5) * 243 + (((w 76 2) - 1).tdiv 2))) ∧ ((0 ≤ ((12 * 0 + a5) * 243 + (((w 76 2) - 1).tdiv 2)) ∧ ((12 * 0 + a5) * 243 + (((w 76 2) - 1).tdiv 2)) < 70000) ∧ ((¬ (w 80 ((12 * 0 + a5) * 243 + (((w 76 2) - 1).tdiv 2))) = a3 → ck_i (a5 + 1) ∧ (ck_At (ch_C g A R) (d + 1) mX12_wind K 351 [some (.inr (.inr 76)), some (.inl a1), some (.inl a2), some (.inl a3), none, some (.inl (a5 + 1)), none] [] w)) ∧ ((w 80 ((12 * 0 + a5) * 243 + (((w 76 2) - 1).tdiv 2))) = a3 → ck_i (a5 + 1) ∧ (ck_At (ch_C g A R) (d + 1) mX12_wind K 351 [some (.inr (.inr 76)), some (.inl a1), some (.inl a2), some (.inl a3), none, some (.inl (a5 + 1)), none] [] (ck_up w 82 ((12 * 0 + a5) * 243 + (((w 76 2) - 1).tdiv 2)) 1))))))) ∧ (¬ (w 87 0) < 0 → (¬ (w 87 0) = a5 → ck_i (a5 + 1) ∧ (ck_At (ch_C g A R) (d + 1) mX12_wind K 351 [some (.inr (.inr 76)), some (.inl a1), some (.inl a2), some (.inl a3), none, some (.inl (a5 + 1)), none] [] w)) ∧ ((w 87 0) = a5 → (1 ≤ (w 76 2) ∧ (w 76 2) ≤ 1000 ∧ ck_i (((w 76 2) - 1).tdiv 2)) ∧ ((ck_i ((12 * 0 + a5) * 243 + (((w 76 2) - 1).tdiv 2))) ∧ ((0 ≤ ((12 * 0 + a5) * 243 + (((w 76 2) - 1).tdiv 2)) ∧ ((12 * 0 + a5) * 243 + (((w 76 2) - 1).tdiv 2)) < 70000) ∧ ((¬ (w 80 ((12 * 0 + a5) * 243 + (((w 76 2) - 1).tdiv 2))) = a3 → ck_i (a5 + 1) ∧ (ck_At (ch_C g A R) (d + 1) mX12_wind K 351 [some (.inr (.inr 76)), some (.inl a1), some (.inl a2), some (.inl a3), none, some (.inl (a5 + 1)), none] [] w)) ∧ ((w 80 ((12 * 0 + a5) * 243 + (((w 76 2) - 1).tdiv 2))) = a3 → ck_i (a5 + 1) ∧ (ck_At (ch_C g A R) (d + 1) mX12_wind K 351 [some (.inr (.inr 76)), some (.inl a1), some (.inl a2), some (.inl a3), none, some (.inl (a5 + 1)), none] [] (ck_up w 82 ((12 * 0 + a5) * 243 + (((w 76 2) - 1).tdiv 2)) 1)))))))))) : ck_At (ch_C g A R) (d + 1) mX12_wind K 351 [some (.inr (.inr 76)), some (.inl a1), some (.inl a2), some (.inl a3), none, some (.inl a5), none] [] w :=
  ck_in (fun hl => (ck_iload 353 rfl dX12_wind_351 rfl (ck_aload_n 354 rfl 0 dX12_wind_353 rfl rfl (ck_geti 357 rfl 1 dX12_wind_354 fl_X12_83 sh_76 rfl rfl _ rfl (fun (q1 : ck_i (w 76 1)) => (ck_icmp_ge 360 rfl 421 dX12_wind_357 rfl hl.2.2.2.2.1 q1 (fun c37 => (ck_aload_n 422 rfl 0 dX12_wind_421 rfl rfl (ck_iload_n 423 rfl 1 dX12_wind_422 rfl rfl (ck_iload_n 424 rfl 2 dX12_wind_423 rfl rfl (ck_callV 427 rfl [.inl a1, .inl a2] [] dX12_wind_424 cv_X12_143 sh_76 rfl rfl (Nat.le_of_ble_eq_true rfl) (And.intro hl.2.1 (And.intro hl.2.2.1 True.intro)) (ck_mN (h.1 c37) (fun w2 h5 => (ck_aload_n 428 rfl 0 dX12_wind_427 rfl rfl (ck_iload_n 429 rfl 1 dX12_wind_428 rfl rfl (ck_iload_n 430 rfl 2 dX12_wind_429 rfl rfl (ck_callV 433 rfl [.inl a1, .inl a2] [] dX12_wind_430 cv_X12_147 sh_76 rfl rfl (Nat.le_of_ble_eq_true rfl) (And.intro hl.2.1 (And.intro hl.2.2.1 True.intro)) (ck_mN h5 (fun w3 h4 => (ck_vret dX12_wind_433 rfl h4)))))))))))))) (fun c38 => (ck_aload_n 361 rfl 0 dX12_wind_360 rfl rfl (ck_getr 364 rfl dX12_wind_361 fl_X12_42 sh_76 rfl (ck_iconst 365 rfl dX12_wind_364 rfl (ck_iald 366 rfl dX12_wind_365 sh_87 (shn_87 hC) (by decide) _ rfl (fun (q6 : ck_i (w 87 0)) => (have h39 := (h.2 c38); (ck_if_lt 369 rfl 380 dX12_wind_366 rfl q6 (fun c35 => (ck_aload_n 381 rfl 0 dX12_wind_380 rfl rfl (ck_getr 384 rfl dX12_wind_381 fl_X12_20 sh_76 rfl (ck_iconst 385 rfl dX12_wind_384 rfl (ck_iload 387 rfl dX12_wind_385 rfl (ck_aload_n 388 rfl 0 dX12_wind_387 rfl rfl (have h41 := (h39.1 c35); have o7 := h41.1; have h40 := h41.2; (ck_callV 391 rfl [] [.inl a5, .inl 0, .inr (.inr 80)] dX12_wind_388 cv_X12_139 sh_76 rfl rfl (Nat.le_of_ble_eq_true rfl) True.intro (p_X12_still hC o7 (fun q8 => (have h43 := h40; have o9 := h43.1; have h42 := h43.2; (ck_callS 394 rfl [.inl 0, .inl a5, .inl (((w 76 2) - 1).tdiv 2)] [.inr (.inr 80)] dX12_wind_391 cs_X12_120 rfl rfl (Nat.le_of_ble_eq_true rfl) (And.intro (show ck_i 0 by decide) (And.intro hl.2.2.2.2.1 (And.intro q8.1 True.intro))) (p_X12_state hC o9 (fun q10 => (have h45 := h42; have o11 := h45.1; have h44 := h45.2; (ck_iald 395 rfl dX12_wind_394 sh_80 (shn_80 hC) o11 _ rfl (fun (q12 : ck_i (w 80 ((12 * 0 + a5) * 243 + (((w 76 2) - 1).tdiv 2)))) => (ck_iload_n 396 rfl 3 dX12_wind_395 rfl rfl (ck_icmp_ne 399 rfl 415 dX12_wind_396 rfl q12 hl.2.2.2.1 (fun c17 => (have h47 := (h44.1 c17); have o13 := h47.1; have h46 := h47.2; (ck_iinc 418 rfl [some (.inr (.inr 76)), some (.inl a1), some (.inl a2), some (.inl a3), none, some (.inl (a5 + 1)), none] dX12_wind_415 rfl (Nat.le_of_ble_eq_true rfl) rfl rfl o13 (ck_goto 351 dX12_wind_418 rfl h46)))) (fun c18 => (ck_aload_n 400 rfl 0 dX12_wind_399 rfl rfl (ck_getr 403 rfl dX12_wind_400 fl_X12_26 sh_76 rfl (ck_iconst 404 rfl dX12_wind_403 rfl (ck_iload 406 rfl dX12_wind_404 rfl (ck_aload_n 407 rfl 0 dX12_wind_406 rfl rfl (ck_callV 410 rfl [] [.inl a5, .inl 0, .inr (.inr 82)] dX12_wind_407 cv_X12_139 sh_76 rfl rfl (Nat.le_of_ble_eq_true rfl) True.intro (p_X12_still hC o7 (fun q14 => (ck_callS 413 rfl [.inl 0, .inl a5, .inl (((w 76 2) - 1).tdiv 2)] [.inr (.inr 82)] dX12_wind_410 cs_X12_120 rfl rfl (Nat.le_of_ble_eq_true rfl) (And.intro (show ck_i 0 by decide) (And.intro hl.2.2.2.2.1 (And.intro q14.1 True.intro))) (p_X12_state hC o9 (fun q15 => (ck_iconst 414 rfl dX12_wind_413 rfl (ck_zast 415 rfl dX12_wind_414 sh_82 (shn_82 hC) o11 (by decide) (have h49 := (h44.2 c18); have o16 := h49.1; have h48 := h49.2; (ck_iinc 418 rfl [some (.inr (.inr 76)), some (.inl a1), some (.inl a2), some (.inl a3), none, some (.inl (a5 + 1)), none] dX12_wind_415 rfl (Nat.le_of_ble_eq_true rfl) rfl rfl o16 (ck_goto 351 dX12_wind_418 rfl h48)))))))))))))))))))))))))))))))))))) (fun c36 => (ck_aload_n 370 rfl 0 dX12_wind_369 rfl rfl (ck_getr 373 rfl dX12_wind_370 fl_X12_42 sh_76 rfl (ck_iconst 374 rfl dX12_wind_373 rfl (ck_iald 375 rfl dX12_wind_374 sh_87 (shn_87 hC) (by decide) _ rfl (fun (q19 : ck_i (w 87 0)) => (ck_iload 377 rfl dX12_wind_375 rfl (have h50 := (h39.2 c36); (ck_icmp_ne 380 rfl 415 dX12_wind_377 rfl q19 hl.2.2.2.2.1 (fun c33 => (have h52 := (h50.1 c33); have o20 := h52.1; have h51 := h52.2; (ck_iinc 418 rfl [some (.inr (.inr 76)), some (.inl a1), some (.inl a2), some (.inl a3), none, some (.inl (a5 + 1)), none] dX12_wind_415 rfl (Nat.le_of_ble_eq_true rfl) rfl rfl o20 (ck_goto 351 dX12_wind_418 rfl h51)))) (fun c34 => (ck_aload_n 381 rfl 0 dX12_wind_380 rfl rfl (ck_getr 384 rfl dX12_wind_381 fl_X12_20 sh_76 rfl (ck_iconst 385 rfl dX12_wind_384 rfl (ck_iload 387 rfl dX12_wind_385 rfl (ck_aload_n 388 rfl 0 dX12_wind_387 rfl rfl (have h54 := (h50.2 c34); have o21 := h54.1; have h53 := h54.2; (ck_callV 391 rfl [] [.inl a5, .inl 0, .inr (.inr 80)] dX12_wind_388 cv_X12_139 sh_76 rfl rfl (Nat.le_of_ble_eq_true rfl) True.intro (p_X12_still hC o21 (fun q22 => (have h56 := h53; have o23 := h56.1; have h55 := h56.2; (ck_callS 394 rfl [.inl 0, .inl a5, .inl (((w 76 2) - 1).tdiv 2)] [.inr (.inr 80)] dX12_wind_391 cs_X12_120 rfl rfl (Nat.le_of_ble_eq_true rfl) (And.intro (show ck_i 0 by decide) (And.intro hl.2.2.2.2.1 (And.intro q22.1 True.intro))) (p_X12_state hC o23 (fun q24 => (have h58 := h55; have o25 := h58.1; have h57 := h58.2; (ck_iald 395 rfl dX12_wind_394 sh_80 (shn_80 hC) o25 _ rfl (fun (q26 : ck_i (w 80 ((12 * 0 + a5) * 243 + (((w 76 2) - 1).tdiv 2)))) => (ck_iload_n 396 rfl 3 dX12_wind_395 rfl rfl (ck_icmp_ne 399 rfl 415 dX12_wind_396 rfl q26 hl.2.2.2.1 (fun c31 => (have h60 := (h57.1 c31); have o27 := h60.1; have h59 := h60.2; (ck_iinc 418 rfl [some (.inr (.inr 76)), some (.inl a1), some (.inl a2), some (.inl a3), none, some (.inl (a5 + 1)), none] dX12_wind_415 rfl (Nat.le_of_ble_eq_true rfl) rfl rfl o27 (ck_goto 351 dX12_wind_418 rfl h59)))) (fun c32 => (ck_aload_n 400 rfl 0 dX12_wind_399 rfl rfl (ck_getr 403 rfl dX12_wind_400 fl_X12_26 sh_76 rfl (ck_iconst 404 rfl dX12_wind_403 rfl (ck_iload 406 rfl dX12_wind_404 rfl (ck_aload_n 407 rfl 0 dX12_wind_406 rfl rfl (ck_callV 410 rfl [] [.inl a5, .inl 0, .inr (.inr 82)] dX12_wind_407 cv_X12_139 sh_76 rfl rfl (Nat.le_of_ble_eq_true rfl) True.intro (p_X12_still hC o21 (fun q28 => (ck_callS 413 rfl [.inl 0, .inl a5, .inl (((w 76 2) - 1).tdiv 2)] [.inr (.inr 82)] dX12_wind_410 cs_X12_120 rfl rfl (Nat.le_of_ble_eq_true rfl) (And.intro (show ck_i 0 by decide) (And.intro hl.2.2.2.2.1 (And.intro q28.1 True.intro))) (p_X12_state hC o23 (fun q29 => (ck_iconst 414 rfl dX12_wind_413 rfl (ck_zast 415 rfl dX12_wind_414 sh_82 (shn_82 hC) o25 (by decide) (have h62 := (h57.2 c32); have o30 := h62.1; have h61 := h62.2; (ck_iinc 418 rfl [some (.inr (.inr 76)), some (.inl a1), some (.inl a2), some (.inl a3), none, some (.inl (a5 + 1)), none] dX12_wind_415 rfl (Nat.le_of_ble_eq_true rfl) rfl rfl o30 (ck_goto 351 dX12_wind_418 rfl h61)))))))))))))))))))))))))))))))))))))))))))))))))))))))))))
/-- what winding leaves as it was -/
def rm_wf (w w' : ck_W) : Prop := ∀ k, k ≠ 80 → k ≠ 81 → k ≠ 82 → k ≠ 83 → k ≠ 84 → k ≠ 85 → k ≠ 86 → k ≠ 87 → w' k = w k
/-- a slice stands wound: its fit, and where it has spirals the best one's radii -/
def rm_wd (R : Nat) (n z : Int) (w : ck_W) : Prop := (-1 ≤ w 83 z ∧ w 83 z ≤ 1000) ∧ (0 ≤ w 84 z ∧ w 84 z ≤ 1000000) ∧ (0 ≤ w 83 z → ∀ p, 0 ≤ p → p < n → 0 ≤ w 85 (24 * z + p) ∧ w 85 (24 * z + p) < (R : Int))
theorem S_X12_wind {g : ch_G} {A R : Nat} (hC : ck_Cx g A R) {d : Nat} {K : Option ck_V → ck_W → Prop} {w : ck_W} {a1 : Int} (hI : rm_I A R w) (h1 : 0 ≤ a1 ∧ a1 ≤ 5)
    (h : ∀ w', rm_wf w w' → (∀ z, z ≠ a1 → w' 83 z = w 83 z ∧ w' 84 z = w 84 z) → (∀ j, j < 24 * a1 ∨ 24 * a1 + 24 ≤ j → w' 85 j = w 85 j ∧ w' 86 j = w 86 j) → rm_wd R (w 77 (10 + a1) * A) a1 w' → K none w') : ck_Ex (ch_C g A R) (d + 5) mX12_wind [.inr (.inr 76), .inl a1] w K := by
  have c := rm_cp hC hI
  have tb := rm_turn hI.2.2.2.1 h1.1 h1.2
  obtain ⟨n, en, n0, n1⟩ : ∃ n, n = w 77 (10 + a1) * (A : Int) ∧ 1 ≤ n ∧ n ≤ 24 := by
    refine ⟨_, rfl, ?_, ?_⟩
    · have := Int.mul_le_mul tb.1 (show (1 : Int) ≤ A by omega) (by decide) (by omega); omega
    · have := Int.mul_le_mul tb.2 (show (A : Int) ≤ 6 by omega) (by omega) (by decide); omega
  rw [← en] at h
  have f0 := rm_c0 hI.2.2.2.1
  -- the end: marks, then the best way
  have fin : ∀ (m : Nat) (a3 a5 : Int) (u : ck_W), (R : Int) - a5 = m → 0 ≤ a5 → (0 ≤ a3 ∧ a3 ≤ 1000) → rm_I A R u → rm_ft R a1 n u → rm_wf w u → (∀ z, z ≠ a1 → u 83 z = w 83 z ∧ u 84 z = w 84 z) → (u 83 a1 = a3 ∧ 0 ≤ u 84 a1 ∧ u 84 a1 ≤ 1000000) → (∀ j, j < 24 * a1 ∨ 24 * a1 + 24 ≤ j → u 85 j = w 85 j ∧ u 86 j = w 86 j) →
      (∀ r, 0 ≤ r → r < (R : Int) → u 82 (rm_x 0 r ((w 76 2 - 1).tdiv 2)) ≠ 0 → r < a5 ∧ u 80 (rm_x 0 r ((w 76 2 - 1).tdiv 2)) = a3) → ((∃ r, 0 ≤ r ∧ r < a5 ∧ u 82 (rm_x 0 r ((w 76 2 - 1).tdiv 2)) ≠ 0) ∨ ∃ r, a5 ≤ r ∧ r < (R : Int) ∧ (u 87 0 < 0 ∨ u 87 0 = r) ∧ u 80 (rm_x 0 r ((w 76 2 - 1).tdiv 2)) = a3) →
      ck_At (ch_C g A R) (d + 5) mX12_wind K 351 [some (.inr (.inr 76)), some (.inl a1), some (.inl n), some (.inl a3), none, some (.inl a5), none] [] u := by
    intro m
    have sb : 0 ≤ (w 76 2 - 1).tdiv 2 ∧ (w 76 2 - 1).tdiv 2 < w 76 2 := by
      rw [Int.tdiv_eq_ediv_of_nonneg (by omega)]; omega
    induction m with
    | zero =>
      intro a3 a5 u q1 q2 q3 q4 q5 q6 q7 q7b q8 q9 q10
      have u76 : u 76 = w 76 := q6 76 (by decide) (by decide) (by decide) (by decide) (by decide) (by decide) (by decide) (by decide)
      refine r_X12_wind_351 hC ⟨fun _ => ?_, fun z => absurd (by rw [u76]; omega) z⟩
      refine S_X12_markBest hC q4 h1 n1 q5 (fun w1 i1 i2 i3 => ⟨rfl, ?_⟩)
      have j76 := i1 76 (by decide) (by decide)
      have ro : ∀ r, 0 ≤ r → r < (R : Int) → w1 82 (rm_x 0 r ((w 76 2 - 1).tdiv 2)) = u 82 (rm_x 0 r ((w 76 2 - 1).tdiv 2)) := fun r a b => i2 _ (by unfold rm_x; omega)
      refine S_X12_goBest hC (rm_I_c q4 j76 (i1 77 (by decide) (by decide)) (i1 78 (by decide) (by decide)) (i1 79 (by decide) (by decide))) h1 ⟨n0, n1⟩ (rm_ft_c hC q4 q5 j76 (i1 77 (by decide) (by decide)) (i1 87 (by decide) (by decide)) (i1 80 (by decide) (by decide)) (i1 81 (by decide) (by decide))) ?_ ?_ (fun w2 k1 k2 k3 => ⟨rfl, ?_⟩)
      · intro r a b y
        rw [j76, u76] at y ⊢
        rw [ro r a b] at y
        rw [i1 80 (by decide) (by decide), (q9 r a b y).2]
        exact q3.1
      · rcases q10 with ⟨r, a, b, y⟩ | ⟨r, a, b, y⟩
        · exact ⟨r, a, by omega, by rw [j76, u76, ro r a (by omega)]; exact y⟩
        · omega
      · refine h w2 (fun k b1 b2 b3 b4 b5 b6 b7 b8 => by rw [k1 k b6, i1 k b3 b7, q6 k b1 b2 b3 b4 b5 b6 b7 b8]) (fun z hz => by rw [k1 83 (by decide), k1 84 (by decide), i1 83 (by decide) (by decide), i1 84 (by decide) (by decide)]; exact q7 z hz) (fun j hj => ⟨by rw [k2 j hj, i1 85 (by decide) (by decide)]; exact (q8 j hj).1, by rw [k1 86 (by decide), i3 j hj]; exact (q8 j hj).2⟩) ⟨?_, ?_, fun _ => k3⟩
        · rw [k1 83 (by decide), i1 83 (by decide) (by decide), q7b.1]; omega
        · rw [k1 84 (by decide), i1 84 (by decide) (by decide)]; exact q7b.2
    | succ m ih =>
      intro a3 a5 u q1 q2 q3 q4 q5 q6 q7 q7b q8 q9 q10
      have u76 : u 76 = w 76 := q6 76 (by decide) (by decide) (by decide) (by decide) (by decide) (by decide) (by decide) (by decide)
      -- not this one
      have no : ¬ ((u 87 0 < 0 ∨ u 87 0 = a5) ∧ u 80 (rm_x 0 a5 ((w 76 2 - 1).tdiv 2)) = a3) → ck_At (ch_C g A R) (d + 5) mX12_wind K 351 [some (.inr (.inr 76)), some (.inl a1), some (.inl n), some (.inl a3), none, some (.inl (a5 + 1)), none] [] u := fun y => by
        refine ih a3 (a5 + 1) u (by omega) (by omega) q3 q4 q5 q6 q7 q7b q8 (fun r a b e => ⟨by have := (q9 r a b e).1; omega, (q9 r a b e).2⟩) ?_
        rcases q10 with ⟨r, a, b, e⟩ | ⟨r, a, b, e, f⟩
        · exact Or.inl ⟨r, a, by omega, e⟩
        · by_cases x : r = a5
          · subst x; exact absurd ⟨e, f⟩ y
          · exact Or.inr ⟨r, by omega, b, e, f⟩
      -- this one
      have yes : u 80 (rm_x 0 a5 ((w 76 2 - 1).tdiv 2)) = a3 → ck_At (ch_C g A R) (d + 5) mX12_wind K 351 [some (.inr (.inr 76)), some (.inl a1), some (.inl n), some (.inl a3), none, some (.inl (a5 + 1)), none] [] (ck_up u 82 (rm_x 0 a5 ((w 76 2 - 1).tdiv 2)) 1) := fun y => by
        refine ih a3 (a5 + 1) _ (by omega) (by omega) q3 (rm_I_c q4 rfl rfl rfl rfl) (rm_ft_c hC q4 q5 rfl rfl rfl rfl rfl) (fun k b1 b2 b3 b4 b5 b6 b7 b8 => by rw [ck_up_ne b3]; exact q6 k b1 b2 b3 b4 b5 b6 b7 b8) q7 q7b q8 (fun r a b e => ?_) (Or.inl ⟨a5, q2, by omega, by rw [ck_up_eq]; decide⟩)
        by_cases x : r = a5
        · subst x; exact ⟨by omega, y⟩
        · rw [ck_up_nj (by unfold rm_x; omega)] at e
          have := q9 r a b e
          exact ⟨by omega, this.2⟩
      refine r_X12_wind_351 hC ⟨fun z => absurd z (by rw [u76]; omega), fun _ => ?_⟩
      rw [u76]
      refine ⟨fun z => ⟨⟨by omega, by omega, by constructor <;> omega⟩, by constructor <;> omega, by omega, fun y => ⟨by constructor <;> omega, no (fun e => y e.2)⟩, fun y => ⟨by constructor <;> omega, yes y⟩⟩, fun z => ⟨fun y => ⟨by constructor <;> omega, no (fun e => by omega)⟩, fun y => ⟨⟨by omega, by omega, by constructor <;> omega⟩, by constructor <;> omega, by omega, fun y2 => ⟨by constructor <;> omega, no (fun e => y2 e.2)⟩, fun y2 => ⟨by constructor <;> omega, yes y2⟩⟩⟩⟩
  -- the slice's marks of what is sure, emptied
  have l8 : ∀ (m : Nat) (a3 a5 : Int) (u : ck_W), 24 - a5 = m → 0 ≤ a5 → (-1 ≤ a3 ∧ a3 ≤ 1000) → rm_I A R u → rm_ft R a1 n u → rm_wf w u → (∀ z, z ≠ a1 → u 83 z = w 83 z ∧ u 84 z = w 84 z) → (u 83 a1 = a3 ∧ 0 ≤ u 84 a1 ∧ u 84 a1 ≤ 1000000) → (∀ j, j < 24 * a1 ∨ 24 * a1 + 24 ≤ j → u 85 j = w 85 j ∧ u 86 j = w 86 j) →
      (∀ r, 0 ≤ r → r < (R : Int) → u 82 (rm_x 0 r ((w 76 2 - 1).tdiv 2)) = 0) → (0 ≤ a3 → ∃ r, 0 ≤ r ∧ r < (R : Int) ∧ (u 87 0 < 0 ∨ u 87 0 = r) ∧ u 80 (rm_x 0 r ((w 76 2 - 1).tdiv 2)) = a3) →
      ck_At (ch_C g A R) (d + 5) mX12_wind K 317 [some (.inr (.inr 76)), some (.inl a1), some (.inl n), some (.inl a3), none, some (.inl a5), none] [] u := by
    intro m
    induction m with
    | zero =>
      intro a3 a5 u q1 q2 q3 q4 q5 q6 q7 q7b q8 q9 q10
      refine r_X12_wind_317 hC ⟨fun _ => ⟨fun z => ?_, fun z => ?_⟩, fun z => absurd (by omega) z⟩
      · exact fin R a3 0 u (by omega) (by omega) ⟨z, q3.2⟩ q4 q5 q6 q7 q7b q8 (fun r a b e => absurd (q9 r a b) e) (Or.inr (q10 z))
      · exact h u q6 q7 q8 ⟨by rw [q7b.1]; exact q3, q7b.2, fun e => by rw [q7b.1] at e; omega⟩
    | succ m ih =>
      intro a3 a5 u q1 q2 q3 q4 q5 q6 q7 q7b q8 q9 q10
      refine r_X12_wind_317 hC ⟨fun z => absurd z (by omega), fun _ => ⟨by omega, by constructor <;> omega, ih a3 (a5 + 1) _ (by omega) (by omega) q3 (rm_I_c q4 rfl rfl rfl rfl) (rm_ft_c hC q4 q5 rfl rfl rfl rfl rfl) (fun k b1 b2 b3 b4 b5 b6 b7 b8 => by rw [ck_up_ne b7]; exact q6 k b1 b2 b3 b4 b5 b6 b7 b8) q7 q7b (fun j hj => ⟨(q8 j hj).1, by rw [ck_up_nj (by omega)]; exact (q8 j hj).2⟩) q9 q10⟩⟩
  -- the best of all first radii
  have l7 : ∀ (m : Nat) (a3 a4 a5 : Int) (u : ck_W), (R : Int) - a5 = m → 0 ≤ a5 → (-1 ≤ a3 ∧ a3 ≤ 1000) → (0 ≤ a4 ∧ a4 ≤ 1000000 * a5) → rm_I A R u → rm_ft R a1 n u → (∀ p r c, 0 ≤ p → p < n → 0 ≤ r → r < (R : Int) → 0 ≤ c → c < w 76 2 → u 82 (rm_x p r c) = 0) → (∀ k, k ≠ 80 → k ≠ 81 → k ≠ 82 → k ≠ 87 → u k = w k) →
      (0 ≤ a3 → ∃ r, 0 ≤ r ∧ r < (R : Int) ∧ (u 87 0 < 0 ∨ u 87 0 = r) ∧ u 80 (rm_x 0 r ((w 76 2 - 1).tdiv 2)) = a3) →
      ck_At (ch_C g A R) (d + 5) mX12_wind K 181 [some (.inr (.inr 76)), some (.inl a1), some (.inl n), some (.inl a3), some (.inl a4), some (.inl a5), none] [] u := by
    intro m
    have sb : 0 ≤ (w 76 2 - 1).tdiv 2 ∧ (w 76 2 - 1).tdiv 2 < w 76 2 := by
      rw [Int.tdiv_eq_ediv_of_nonneg (by omega)]; omega
    induction m with
    | zero =>
      intro a3 a4 a5 u q1 q2 q3 q4 q5 q6 q7 q8 q9
      have u76 : u 76 = w 76 := q8 76 (by decide) (by decide) (by decide) (by decide)
      have nx : ∀ v, 0 ≤ v → v ≤ 1000000 → ck_At (ch_C g A R) (d + 5) mX12_wind K 317 [some (.inr (.inr 76)), some (.inl a1), some (.inl n), some (.inl a3), none, some (.inl 0), none] [] (ck_up (ck_up u 83 a1 a3) 84 a1 v) := fun v v0 v1 => by
        refine l8 24 a3 0 _ (by omega) (by omega) q3 (rm_I_c q5 rfl rfl rfl rfl) (rm_ft_c hC q5 q6 rfl rfl rfl rfl rfl) (fun k b1 b2 b3 b4 b5 b6 b7 b8 => by rw [ck_up_ne b5, ck_up_ne b4]; exact q8 k b1 b2 b3 b8) (fun z hz => ⟨by rw [ck_up_ne (by decide), ck_up_nj hz, q8 83 (by decide) (by decide) (by decide) (by decide)], by rw [ck_up_nj hz, ck_up_ne (by decide), q8 84 (by decide) (by decide) (by decide) (by decide)]⟩) ⟨by rw [ck_up_ne (by decide), ck_up_eq], by rw [ck_up_eq]; omega, by rw [ck_up_eq]; omega⟩ (fun j _ => ⟨by rw [ck_up_ne (by decide), ck_up_ne (by decide), q8 85 (by decide) (by decide) (by decide) (by decide)], by rw [ck_up_ne (by decide), ck_up_ne (by decide), q8 86 (by decide) (by decide) (by decide) (by decide)]⟩) (fun r a b => q7 0 r _ (by omega) (by omega) a b sb.1 sb.2) q9
      exact r_X12_wind_181 hC ⟨fun _ => ⟨by omega, fun z => nx a4 q4.1 z, fun z => nx 1000000 (by decide) (by decide)⟩, fun z => absurd (by rw [u76]; omega) z⟩
    | succ m ih =>
      intro a3 a4 a5 u q1 q2 q3 q4 q5 q6 q7 q8 q9
      have u76 : u 76 = w 76 := q8 76 (by decide) (by decide) (by decide) (by decide)
      have en0 := q6 0 a5 _ (by omega) (by omega) q2 (by omega) sb.1 (by rw [u76]; exact sb.2)
      have no : ck_i (a5 + 1) ∧ ck_At (ch_C g A R) (d + 5) mX12_wind K 181 [some (.inr (.inr 76)), some (.inl a1), some (.inl n), some (.inl a3), some (.inl a4), some (.inl (a5 + 1)), none] [] u := ⟨by constructor <;> omega, ih a3 a4 (a5 + 1) u (by omega) (by omega) q3 (by omega) q5 q6 q7 q8 q9⟩
      have yes : (u 87 0 < 0 ∨ u 87 0 = a5) → ¬ u 80 (rm_x 0 a5 ((w 76 2 - 1).tdiv 2)) < 0 → ∀ v, 0 ≤ v → v ≤ 1000000 * (a5 + 1) → ck_i (a5 + 1) ∧ ck_At (ch_C g A R) (d + 5) mX12_wind K 181 [some (.inr (.inr 76)), some (.inl a1), some (.inl n), some (.inl (u 80 (rm_x 0 a5 ((w 76 2 - 1).tdiv 2)))), some (.inl v), some (.inl (a5 + 1)), none] [] u := fun y1 y2 v v0 v1 => ⟨by constructor <;> omega, ih _ v (a5 + 1) u (by omega) (by omega) (by have := en0.2.1; omega) (by omega) q5 q6 q7 q8 (fun _ => ⟨a5, q2, by omega, y1, rfl⟩)⟩
      refine r_X12_wind_181 hC ⟨fun z => absurd z (by rw [u76]; omega), fun _ => ?_⟩
      rw [u76]
      refine ⟨⟨by omega, by omega, by constructor <;> omega⟩, by constructor <;> omega, fun x ex => ?_⟩
      obtain rfl : x = rm_x 0 a5 ((w 76 2 - 1).tdiv 2) := ex
      have xb : 0 ≤ rm_x 0 a5 ((w 76 2 - 1).tdiv 2) ∧ rm_x 0 a5 ((w 76 2 - 1).tdiv 2) < 70000 := by unfold rm_x; omega
      have e81 := en0.2.2
      have core : (u 87 0 < 0 ∨ u 87 0 = a5) → (0 ≤ rm_x 0 a5 ((w 76 2 - 1).tdiv 2) ∧ rm_x 0 a5 ((w 76 2 - 1).tdiv 2) < 70000) ∧ (((u 80 (rm_x 0 a5 ((w 76 2 - 1).tdiv 2))) < 0 → ck_i (a5 + 1) ∧ (ck_At (ch_C g A R) (d + 5) mX12_wind K 181 [some (.inr (.inr 76)), some (.inl a1), some (.inl n), some (.inl a3), some (.inl a4), some (.inl (a5 + 1)), none] [] u)) ∧ (¬ (u 80 (rm_x 0 a5 ((w 76 2 - 1).tdiv 2))) < 0 → (a3 ≤ (u 80 (rm_x 0 a5 ((w 76 2 - 1).tdiv 2))) → (¬ (u 80 (rm_x 0 a5 ((w 76 2 - 1).tdiv 2))) = a3 → ck_i (0 + (u 81 (rm_x 0 a5 ((w 76 2 - 1).tdiv 2)))) ∧ (ck_i (a5 + 1) ∧ (ck_At (ch_C g A R) (d + 5) mX12_wind K 181 [some (.inr (.inr 76)), some (.inl a1), some (.inl n), some (.inl (u 80 (rm_x 0 a5 ((w 76 2 - 1).tdiv 2)))), some (.inl (0 + (u 81 (rm_x 0 a5 ((w 76 2 - 1).tdiv 2))))), some (.inl (a5 + 1)), none] [] u))) ∧ ((u 80 (rm_x 0 a5 ((w 76 2 - 1).tdiv 2))) = a3 → ck_i (a4 + (u 81 (rm_x 0 a5 ((w 76 2 - 1).tdiv 2)))) ∧ (ck_i (a5 + 1) ∧ (ck_At (ch_C g A R) (d + 5) mX12_wind K 181 [some (.inr (.inr 76)), some (.inl a1), some (.inl n), some (.inl (u 80 (rm_x 0 a5 ((w 76 2 - 1).tdiv 2)))), some (.inl (a4 + (u 81 (rm_x 0 a5 ((w 76 2 - 1).tdiv 2))))), some (.inl (a5 + 1)), none] [] u)))) ∧ (¬ a3 ≤ (u 80 (rm_x 0 a5 ((w 76 2 - 1).tdiv 2))) → ck_i (a5 + 1) ∧ (ck_At (ch_C g A R) (d + 5) mX12_wind K 181 [some (.inr (.inr 76)), some (.inl a1), some (.inl n), some (.inl a3), some (.inl a4), some (.inl (a5 + 1)), none] [] u)))) := fun y1 =>
        ⟨xb, fun _ => no, fun y2 => ⟨fun _ => ⟨fun _ => ⟨by constructor <;> omega, yes y1 y2 _ (by omega) (by omega)⟩, fun _ => ⟨by constructor <;> omega, yes y1 y2 _ (by omega) (by omega)⟩⟩, fun _ => no⟩⟩
      exact ⟨fun z => core (Or.inl z), fun z => ⟨fun _ => no, fun y => core (Or.inr y)⟩⟩
  -- the tables; v: the world with the pins told
  have tab : ∀ v : ck_W, (∀ k, k ≠ 87 → v k = w k) → ck_At (ch_C g A R) (d + 5) mX12_wind K 116 [some (.inr (.inr 76)), some (.inl a1), some (.inl n), some (.inl (n - 1)), none, none, none] [] v := by
    intro v hv
    have hIv : rm_I A R v := rm_I_c hI (hv 76 (by decide)) (hv 77 (by decide)) (hv 78 (by decide)) (hv 79 (by decide))
    have v76 := hv 76 (by decide)
    have l6 : ∀ (m : Nat) (a3 a4 a5 : Int) (u : ck_W), w 76 2 - a5 = m → 0 ≤ a5 → (0 ≤ a3 ∧ a3 < n) → (0 ≤ a4 ∧ a4 < (R : Int)) → rm_dn R a1 n a3 a4 a5 v u → (∀ u', rm_dn R a1 n a3 a4 (w 76 2) v u' → ck_At (ch_C g A R) (d + 5) mX12_wind K 123 [some (.inr (.inr 76)), some (.inl a1), some (.inl n), some (.inl a3), some (.inl (a4 + 1)), none, none] [] u') → ck_At (ch_C g A R) (d + 5) mX12_wind K 135 [some (.inr (.inr 76)), some (.inl a1), some (.inl n), some (.inl a3), some (.inl a4), some (.inl a5), none] [] u := by
      intro m
      induction m with
      | zero =>
        intro a3 a4 a5 u q1 q2 q3 q4 q5 k
        have u76 := q5.1 76 (by decide) (by decide) (by decide)
        exact r_X12_wind_135 hC ⟨fun _ => ⟨by constructor <;> omega, k u (by rw [show w 76 2 = a5 by omega]; exact q5)⟩, fun z => absurd (by rw [u76, v76]; omega) z⟩
      | succ m ih =>
        intro a3 a4 a5 u q1 q2 q3 q4 q5 k
        have u76 := q5.1 76 (by decide) (by decide) (by decide)
        have hIu : rm_I A R u := rm_I_c hIv u76 (q5.1 77 (by decide) (by decide) (by decide)) (q5.1 78 (by decide) (by decide) (by decide)) (q5.1 79 (by decide) (by decide) (by decide))
        refine r_X12_wind_135 hC ⟨fun z => absurd z (by rw [u76, v76]; omega), fun _ => S_X12_windState hC hIu h1 (by omega) q4 (by rw [u76, v76]; omega) (fun e r c b1 b2 b3 b4 => ?_) (fun w' i1 i2 i3 i4 => ⟨rfl, by constructor <;> omega, ih _ _ _ _ (by omega) (by omega) q3 q4 (rm_dn_step hC hIv q5 h1 (by omega) q4 (by rw [v76]; omega) i1 i2 i3 i4) k⟩)⟩
        have := (q5.2 (a3 + 1) r c (by omega) (by omega) b1 b2 b3 (by rw [← u76]; exact b4) (by omega)).1.2
        omega
    have l5 : ∀ (m : Nat) (a3 a4 : Int) (u : ck_W), (R : Int) - a4 = m → 0 ≤ a4 → (0 ≤ a3 ∧ a3 < n) → rm_dn R a1 n a3 a4 0 v u → (∀ u', rm_dn R a1 n a3 (R : Int) 0 v u' → ck_At (ch_C g A R) (d + 5) mX12_wind K 116 [some (.inr (.inr 76)), some (.inl a1), some (.inl n), some (.inl (a3 + -1)), none, none, none] [] u') → ck_At (ch_C g A R) (d + 5) mX12_wind K 123 [some (.inr (.inr 76)), some (.inl a1), some (.inl n), some (.inl a3), some (.inl a4), none, none] [] u := by
      intro m
      induction m with
      | zero =>
        intro a3 a4 u q1 q2 q3 q5 k
        have u76 := q5.1 76 (by decide) (by decide) (by decide)
        exact r_X12_wind_123 hC ⟨fun _ => ⟨by constructor <;> omega, k u (by rw [show (R : Int) = a4 by omega]; exact q5)⟩, fun z => absurd (by rw [u76, v76]; omega) z⟩
      | succ m ih =>
        intro a3 a4 u q1 q2 q3 q5 k
        have u76 := q5.1 76 (by decide) (by decide) (by decide)
        exact r_X12_wind_123 hC ⟨fun z => absurd z (by rw [u76, v76]; omega), fun _ => l6 (w 76 2).toNat a3 a4 0 u (by omega) (by omega) q3 (by omega) q5 (fun u' hu => ih _ _ _ (by omega) (by omega) q3 ⟨hu.1, fun p' r' c' b1 b2 b3 b4 b5 b6 b7 => hu.2 p' r' c' b1 b2 b3 b4 b5 b6 (by rw [v76] at b6; omega)⟩ k)⟩
    have l4 : ∀ (m : Nat) (a3 : Int) (u : ck_W), a3 + 1 = m → a3 < n → rm_dn R a1 n a3 0 0 v u → ck_At (ch_C g A R) (d + 5) mX12_wind K 116 [some (.inr (.inr 76)), some (.inl a1), some (.inl n), some (.inl a3), none, none, none] [] u := by
      intro m
      induction m with
      | zero =>
        intro a3 u q1 q2 q5
        refine r_X12_wind_116 hC ⟨fun _ => ?_, fun z => absurd (by omega) z⟩
        have all : ∀ p r c, 0 ≤ p → p < n → 0 ≤ r → r < (R : Int) → 0 ≤ c → c < w 76 2 → rm_en u a1 n p r c ∧ u 82 (rm_x p r c) = 0 := fun p r c b1 b2 b3 b4 b5 b6 => q5.2 p r c b1 b2 b3 b4 b5 (by rw [v76]; exact b6) (by omega)
        have u76 := q5.1 76 (by decide) (by decide) (by decide)
        refine l7 R (-1) 0 0 u (by omega) (by omega) (by omega) (by omega) (rm_I_c hIv u76 (q5.1 77 (by decide) (by decide) (by decide)) (q5.1 78 (by decide) (by decide) (by decide)) (q5.1 79 (by decide) (by decide) (by decide))) (fun p r c b1 b2 b3 b4 b5 b6 => (all p r c b1 b2 b3 b4 b5 (by rw [u76, v76] at b6; exact b6)).1) (fun p r c b1 b2 b3 b4 b5 b6 => (all p r c b1 b2 b3 b4 b5 b6).2) (fun k b1 b2 b3 b4 => by rw [q5.1 k b1 b2 b3, hv k b4]) (fun e => by omega)
      | succ m ih =>
        intro a3 u q1 q2 q5
        refine r_X12_wind_116 hC ⟨fun z => absurd z (by omega), fun _ => l5 R a3 0 u (by omega) (by omega) (by omega) q5 (fun u' hu => ih _ _ (by omega) (by omega) ⟨hu.1, fun p' r' c' b1 b2 b3 b4 b5 b6 b7 => hu.2 p' r' c' b1 b2 b3 b4 b5 b6 (by omega)⟩)⟩
    exact l4 n.toNat (n - 1) v (by omega) (by omega) ⟨fun _ _ _ _ => rfl, fun p' r' c' b1 b2 b3 b4 b5 b6 b7 => by omega⟩
  -- the pins
  have l3 : ∀ (m : Nat) (a3 : Int) (u : ck_W), w 77 1 - a3 ≤ m → 0 ≤ a3 → (∀ k, k ≠ 87 → u k = w k) → ck_At (ch_C g A R) (d + 5) mX12_wind K 29 [some (.inr (.inr 76)), some (.inl a1), some (.inl n), some (.inl a3), none, none, none] [] u := by
    intro m
    induction m with
    | zero =>
      intro a3 u q1 q2 q3
      have u77 := q3 77 (by decide)
      exact r_X12_wind_29 hC ⟨fun _ => ⟨by constructor <;> omega, tab u q3⟩, fun z => absurd (by rw [u77]; omega) z⟩
    | succ m ih =>
      intro a3 u q1 q2 q3
      have u77 := q3 77 (by decide)
      refine r_X12_wind_29 hC ⟨fun _ => ⟨by constructor <;> omega, tab u q3⟩, fun z => ?_⟩
      rw [u77] at z ⊢
      have p1 := rm_pin1 hI.2.2.2.1 (k := a3) (by omega) (by omega)
      refine ⟨by omega, fun _ => ⟨by constructor <;> omega, ih _ _ (by omega) (by omega) q3⟩, fun _ => ⟨by omega, fun _ => ⟨by constructor <;> omega, ih _ _ (by omega) (by omega) q3⟩, fun _ => ⟨by omega, by omega, by constructor <;> omega, ih _ _ (by omega) (by omega) (fun k hk => by rw [ck_up_ne hk, q3 k hk])⟩⟩⟩
  have l2 : ∀ (m : Nat) (a3 : Int) (u : ck_W), 24 - a3 = m → 0 ≤ a3 → (∀ k, k ≠ 87 → u k = w k) → ck_At (ch_C g A R) (d + 5) mX12_wind K 8 [some (.inr (.inr 76)), some (.inl a1), some (.inl n), some (.inl a3), none, none, none] [] u := by
    intro m
    induction m with
    | zero =>
      intro a3 u q1 q2 q3
      exact r_X12_wind_8 hC ⟨fun _ => l3 20 0 u (by omega) (by omega) q3, fun z => absurd (by omega) z⟩
    | succ m ih =>
      intro a3 u q1 q2 q3
      exact r_X12_wind_8 hC ⟨fun z => absurd z (by omega), fun _ => ⟨by omega, by constructor <;> omega, ih _ _ (by omega) (by omega) (fun k hk => by rw [ck_up_ne hk, q3 k hk])⟩⟩
  refine e_X12_wind hC ⟨by omega, ?_, fun x ex => ?_⟩
  · rw [c.1, ← en]; constructor <;> omega
  · rw [c.1, ← en] at ex
    subst ex
    exact l2 24 0 w (by omega) (by omega) (fun _ _ => rfl)
