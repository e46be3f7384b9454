theorem dX0_init_0 : decode cX0_init 0 = .ok (.aload_n 0, 1) := by decide +kernel
theorem dX0_init_1 : decode cX0_init 1 = .ok (.invokespecial 3, 3) := by decide +kernel
theorem dX0_init_4 : decode cX0_init 4 = .ok (.aload_n 0, 1) := by decide +kernel
theorem dX0_init_5 : decode cX0_init 5 = .ok (.bipush 11, 2) := by decide +kernel
theorem dX0_init_7 : decode cX0_init 7 = .ok (.newarray .int, 2) := by decide +kernel
theorem dX0_init_9 : decode cX0_init 9 = .ok (.putfield 9, 3) := by decide +kernel
theorem dX0_init_12 : decode cX0_init 12 = .ok (.aload_n 0, 1) := by decide +kernel
theorem dX0_init_13 : decode cX0_init 13 = .ok (.bipush 10, 2) := by decide +kernel
theorem dX0_init_15 : decode cX0_init 15 = .ok (.newarray .int, 2) := by decide +kernel
theorem dX0_init_17 : decode cX0_init 17 = .ok (.putfield 15, 3) := by decide +kernel
theorem dX0_init_20 : decode cX0_init 20 = .ok (.aload_n 0, 1) := by decide +kernel
theorem dX0_init_21 : decode cX0_init 21 = .ok (.bipush 10, 2) := by decide +kernel
theorem dX0_init_23 : decode cX0_init 23 = .ok (.newarray .int, 2) := by decide +kernel
theorem dX0_init_25 : decode cX0_init 25 = .ok (.putfield 18, 3) := by decide +kernel
theorem dX0_init_28 : decode cX0_init 28 = .ok (.aload_n 0, 1) := by decide +kernel
theorem dX0_init_29 : decode cX0_init 29 = .ok (.bipush 10, 2) := by decide +kernel
theorem dX0_init_31 : decode cX0_init 31 = .ok (.bipush 10, 2) := by decide +kernel
theorem dX0_init_33 : decode cX0_init 33 = .ok (.multianewarray 21 2, 4) := by decide +kernel
theorem dX0_init_37 : decode cX0_init 37 = .ok (.putfield 23, 3) := by decide +kernel
theorem dX0_init_40 : decode cX0_init 40 = .ok (.aload_n 0, 1) := by decide +kernel
theorem dX0_init_41 : decode cX0_init 41 = .ok (.bipush 10, 2) := by decide +kernel
theorem dX0_init_43 : decode cX0_init 43 = .ok (.bipush 19, 2) := by decide +kernel
theorem dX0_init_45 : decode cX0_init 45 = .ok (.multianewarray 21 2, 4) := by decide +kernel
theorem dX0_init_49 : decode cX0_init 49 = .ok (.putfield 26, 3) := by decide +kernel
theorem dX0_init_52 : decode cX0_init 52 = .ok (.aload_n 0, 1) := by decide +kernel
theorem dX0_init_53 : decode cX0_init 53 = .ok (.bipush 10, 2) := by decide +kernel
theorem dX0_init_55 : decode cX0_init 55 = .ok (.newarray .int, 2) := by decide +kernel
theorem dX0_init_57 : decode cX0_init 57 = .ok (.putfield 29, 3) := by decide +kernel
theorem dX0_init_60 : decode cX0_init 60 = .ok (.aload_n 0, 1) := by decide +kernel
theorem dX0_init_61 : decode cX0_init 61 = .ok (.new 32, 3) := by decide +kernel
theorem dX0_init_64 : decode cX0_init 64 = .ok (.dup, 1) := by decide +kernel
theorem dX0_init_65 : decode cX0_init 65 = .ok (.invokespecial 34, 3) := by decide +kernel
theorem dX0_init_68 : decode cX0_init 68 = .ok (.putfield 35, 3) := by decide +kernel
theorem dX0_init_71 : decode cX0_init 71 = .ok (.aload_n 0, 1) := by decide +kernel
theorem dX0_init_72 : decode cX0_init 72 = .ok (.new 32, 3) := by decide +kernel
theorem dX0_init_75 : decode cX0_init 75 = .ok (.dup, 1) := by decide +kernel
theorem dX0_init_76 : decode cX0_init 76 = .ok (.invokespecial 34, 3) := by decide +kernel
theorem dX0_init_79 : decode cX0_init 79 = .ok (.putfield 39, 3) := by decide +kernel
theorem dX0_init_82 : decode cX0_init 82 = .ok (.aload_n 0, 1) := by decide +kernel
theorem dX0_init_83 : decode cX0_init 83 = .ok (.new 32, 3) := by decide +kernel
theorem dX0_init_86 : decode cX0_init 86 = .ok (.dup, 1) := by decide +kernel
theorem dX0_init_87 : decode cX0_init 87 = .ok (.invokespecial 34, 3) := by decide +kernel
theorem dX0_init_90 : decode cX0_init 90 = .ok (.putfield 42, 3) := by decide +kernel
theorem dX0_init_93 : decode cX0_init 93 = .ok (.aload_n 0, 1) := by decide +kernel
theorem dX0_init_94 : decode cX0_init 94 = .ok (.new 32, 3) := by decide +kernel
theorem dX0_init_97 : decode cX0_init 97 = .ok (.dup, 1) := by decide +kernel
theorem dX0_init_98 : decode cX0_init 98 = .ok (.invokespecial 34, 3) := by decide +kernel
theorem dX0_init_101 : decode cX0_init 101 = .ok (.putfield 45, 3) := by decide +kernel
theorem dX0_init_104 : decode cX0_init 104 = .ok (.aload_n 0, 1) := by decide +kernel
theorem dX0_init_105 : decode cX0_init 105 = .ok (.new 32, 3) := by decide +kernel
theorem dX0_init_108 : decode cX0_init 108 = .ok (.dup, 1) := by decide +kernel
theorem dX0_init_109 : decode cX0_init 109 = .ok (.invokespecial 34, 3) := by decide +kernel
theorem dX0_init_112 : decode cX0_init 112 = .ok (.putfield 48, 3) := by decide +kernel
theorem dX0_init_115 : decode cX0_init 115 = .ok (.aload_n 0, 1) := by decide +kernel
theorem dX0_init_116 : decode cX0_init 116 = .ok (.getfield 35, 3) := by decide +kernel
theorem dX0_init_119 : decode cX0_init 119 = .ok (.iconst 1, 1) := by decide +kernel
theorem dX0_init_120 : decode cX0_init 120 = .ok (.invokevirtual 51, 3) := by decide +kernel
theorem dX0_init_123 : decode cX0_init 123 = .ok (.iconst 1, 1) := by decide +kernel
theorem dX0_init_124 : decode cX0_init 124 = .ok (.istore_n 1, 1) := by decide +kernel
theorem dX0_init_125 : decode cX0_init 125 = .ok (.iload_n 1, 1) := by decide +kernel
theorem dX0_init_126 : decode cX0_init 126 = .ok (.bipush 10, 2) := by decide +kernel
theorem dX0_init_128 : decode cX0_init 128 = .ok (.if_icmp .gt 19, 3) := by decide +kernel
theorem dX0_init_131 : decode cX0_init 131 = .ok (.aload_n 0, 1) := by decide +kernel
theorem dX0_init_132 : decode cX0_init 132 = .ok (.getfield 9, 3) := by decide +kernel
theorem dX0_init_135 : decode cX0_init 135 = .ok (.iload_n 1, 1) := by decide +kernel
theorem dX0_init_136 : decode cX0_init 136 = .ok (.iload_n 1, 1) := by decide +kernel
theorem dX0_init_137 : decode cX0_init 137 = .ok (.invokestatic 55, 3) := by decide +kernel
theorem dX0_init_140 : decode cX0_init 140 = .ok (.iastore, 1) := by decide +kernel
theorem dX0_init_141 : decode cX0_init 141 = .ok (.iinc 1 1, 3) := by decide +kernel
theorem dX0_init_144 : decode cX0_init 144 = .ok (.goto (-19), 3) := by decide +kernel
theorem dX0_init_147 : decode cX0_init 147 = .ok (.aload_n 0, 1) := by decide +kernel
theorem dX0_init_148 : decode cX0_init 148 = .ok (.getfield 15, 3) := by decide +kernel
theorem dX0_init_151 : decode cX0_init 151 = .ok (.iconst 0, 1) := by decide +kernel
theorem dX0_init_152 : decode cX0_init 152 = .ok (.iconst 1, 1) := by decide +kernel
theorem dX0_init_153 : decode cX0_init 153 = .ok (.iastore, 1) := by decide +kernel
theorem dX0_init_154 : decode cX0_init 154 = .ok (.aload_n 0, 1) := by decide +kernel
theorem dX0_init_155 : decode cX0_init 155 = .ok (.getfield 18, 3) := by decide +kernel
theorem dX0_init_158 : decode cX0_init 158 = .ok (.iconst 0, 1) := by decide +kernel
theorem dX0_init_159 : decode cX0_init 159 = .ok (.iconst 1, 1) := by decide +kernel
theorem dX0_init_160 : decode cX0_init 160 = .ok (.iastore, 1) := by decide +kernel
theorem dX0_init_161 : decode cX0_init 161 = .ok (.iconst 1, 1) := by decide +kernel
theorem dX0_init_162 : decode cX0_init 162 = .ok (.istore_n 1, 1) := by decide +kernel
theorem dX0_init_163 : decode cX0_init 163 = .ok (.iload_n 1, 1) := by decide +kernel
theorem dX0_init_164 : decode cX0_init 164 = .ok (.bipush 10, 2) := by decide +kernel
theorem dX0_init_166 : decode cX0_init 166 = .ok (.if_icmp .ge 54, 3) := by decide +kernel
theorem dX0_init_169 : decode cX0_init 169 = .ok (.aload_n 0, 1) := by decide +kernel
theorem dX0_init_170 : decode cX0_init 170 = .ok (.getfield 15, 3) := by decide +kernel
theorem dX0_init_173 : decode cX0_init 173 = .ok (.iload_n 1, 1) := by decide +kernel
theorem dX0_init_174 : decode cX0_init 174 = .ok (.aload_n 0, 1) := by decide +kernel
theorem dX0_init_175 : decode cX0_init 175 = .ok (.getfield 15, 3) := by decide +kernel
theorem dX0_init_178 : decode cX0_init 178 = .ok (.iload_n 1, 1) := by decide +kernel
theorem dX0_init_179 : decode cX0_init 179 = .ok (.iconst 1, 1) := by decide +kernel
theorem dX0_init_180 : decode cX0_init 180 = .ok (.isub, 1) := by decide +kernel
theorem dX0_init_181 : decode cX0_init 181 = .ok (.iaload, 1) := by decide +kernel
theorem dX0_init_182 : decode cX0_init 182 = .ok (.iload_n 1, 1) := by decide +kernel
theorem dX0_init_183 : decode cX0_init 183 = .ok (.imul, 1) := by decide +kernel
theorem dX0_init_184 : decode cX0_init 184 = .ok (.sipush 10007, 3) := by decide +kernel
theorem dX0_init_187 : decode cX0_init 187 = .ok (.irem, 1) := by decide +kernel
theorem dX0_init_188 : decode cX0_init 188 = .ok (.iastore, 1) := by decide +kernel
theorem dX0_init_189 : decode cX0_init 189 = .ok (.aload_n 0, 1) := by decide +kernel
theorem dX0_init_190 : decode cX0_init 190 = .ok (.getfield 18, 3) := by decide +kernel
theorem dX0_init_193 : decode cX0_init 193 = .ok (.iload_n 1, 1) := by decide +kernel
theorem dX0_init_194 : decode cX0_init 194 = .ok (.aload_n 0, 1) := by decide +kernel
theorem dX0_init_195 : decode cX0_init 195 = .ok (.getfield 18, 3) := by decide +kernel
theorem dX0_init_198 : decode cX0_init 198 = .ok (.iload_n 1, 1) := by decide +kernel
theorem dX0_init_199 : decode cX0_init 199 = .ok (.iconst 1, 1) := by decide +kernel
theorem dX0_init_200 : decode cX0_init 200 = .ok (.isub, 1) := by decide +kernel
theorem dX0_init_201 : decode cX0_init 201 = .ok (.iaload, 1) := by decide +kernel
theorem dX0_init_202 : decode cX0_init 202 = .ok (.aload_n 0, 1) := by decide +kernel
theorem dX0_init_203 : decode cX0_init 203 = .ok (.getfield 9, 3) := by decide +kernel
theorem dX0_init_206 : decode cX0_init 206 = .ok (.iload_n 1, 1) := by decide +kernel
theorem dX0_init_207 : decode cX0_init 207 = .ok (.iaload, 1) := by decide +kernel
theorem dX0_init_208 : decode cX0_init 208 = .ok (.imul, 1) := by decide +kernel
theorem dX0_init_209 : decode cX0_init 209 = .ok (.sipush 10007, 3) := by decide +kernel
theorem dX0_init_212 : decode cX0_init 212 = .ok (.irem, 1) := by decide +kernel
theorem dX0_init_213 : decode cX0_init 213 = .ok (.iastore, 1) := by decide +kernel
theorem dX0_init_214 : decode cX0_init 214 = .ok (.iinc 1 1, 3) := by decide +kernel
theorem dX0_init_217 : decode cX0_init 217 = .ok (.goto (-54), 3) := by decide +kernel
theorem dX0_init_220 : decode cX0_init 220 = .ok (.iconst 0, 1) := by decide +kernel
theorem dX0_init_221 : decode cX0_init 221 = .ok (.istore_n 1, 1) := by decide +kernel
theorem dX0_init_222 : decode cX0_init 222 = .ok (.iload_n 1, 1) := by decide +kernel
theorem dX0_init_223 : decode cX0_init 223 = .ok (.bipush 10, 2) := by decide +kernel
theorem dX0_init_225 : decode cX0_init 225 = .ok (.if_icmp .ge 62, 3) := by decide +kernel
theorem dX0_init_228 : decode cX0_init 228 = .ok (.aload_n 0, 1) := by decide +kernel
theorem dX0_init_229 : decode cX0_init 229 = .ok (.getfield 23, 3) := by decide +kernel
theorem dX0_init_232 : decode cX0_init 232 = .ok (.iload_n 1, 1) := by decide +kernel
theorem dX0_init_233 : decode cX0_init 233 = .ok (.aaload, 1) := by decide +kernel
theorem dX0_init_234 : decode cX0_init 234 = .ok (.iconst 0, 1) := by decide +kernel
theorem dX0_init_235 : decode cX0_init 235 = .ok (.iconst 1, 1) := by decide +kernel
theorem dX0_init_236 : decode cX0_init 236 = .ok (.iastore, 1) := by decide +kernel
theorem dX0_init_237 : decode cX0_init 237 = .ok (.iconst 1, 1) := by decide +kernel
theorem dX0_init_238 : decode cX0_init 238 = .ok (.istore_n 2, 1) := by decide +kernel
theorem dX0_init_239 : decode cX0_init 239 = .ok (.iload_n 2, 1) := by decide +kernel
theorem dX0_init_240 : decode cX0_init 240 = .ok (.iload_n 1, 1) := by decide +kernel
theorem dX0_init_241 : decode cX0_init 241 = .ok (.if_icmp .gt 40, 3) := by decide +kernel
theorem dX0_init_244 : decode cX0_init 244 = .ok (.aload_n 0, 1) := by decide +kernel
theorem dX0_init_245 : decode cX0_init 245 = .ok (.getfield 23, 3) := by decide +kernel
theorem dX0_init_248 : decode cX0_init 248 = .ok (.iload_n 1, 1) := by decide +kernel
theorem dX0_init_249 : decode cX0_init 249 = .ok (.aaload, 1) := by decide +kernel
theorem dX0_init_250 : decode cX0_init 250 = .ok (.iload_n 2, 1) := by decide +kernel
theorem dX0_init_251 : decode cX0_init 251 = .ok (.aload_n 0, 1) := by decide +kernel
theorem dX0_init_252 : decode cX0_init 252 = .ok (.getfield 23, 3) := by decide +kernel
theorem dX0_init_255 : decode cX0_init 255 = .ok (.iload_n 1, 1) := by decide +kernel
theorem dX0_init_256 : decode cX0_init 256 = .ok (.iconst 1, 1) := by decide +kernel
theorem dX0_init_257 : decode cX0_init 257 = .ok (.isub, 1) := by decide +kernel
theorem dX0_init_258 : decode cX0_init 258 = .ok (.aaload, 1) := by decide +kernel
theorem dX0_init_259 : decode cX0_init 259 = .ok (.iload_n 2, 1) := by decide +kernel
theorem dX0_init_260 : decode cX0_init 260 = .ok (.iconst 1, 1) := by decide +kernel
theorem dX0_init_261 : decode cX0_init 261 = .ok (.isub, 1) := by decide +kernel
theorem dX0_init_262 : decode cX0_init 262 = .ok (.iaload, 1) := by decide +kernel
theorem dX0_init_263 : decode cX0_init 263 = .ok (.aload_n 0, 1) := by decide +kernel
theorem dX0_init_264 : decode cX0_init 264 = .ok (.getfield 23, 3) := by decide +kernel
theorem dX0_init_267 : decode cX0_init 267 = .ok (.iload_n 1, 1) := by decide +kernel
theorem dX0_init_268 : decode cX0_init 268 = .ok (.iconst 1, 1) := by decide +kernel
theorem dX0_init_269 : decode cX0_init 269 = .ok (.isub, 1) := by decide +kernel
theorem dX0_init_270 : decode cX0_init 270 = .ok (.aaload, 1) := by decide +kernel
theorem dX0_init_271 : decode cX0_init 271 = .ok (.iload_n 2, 1) := by decide +kernel
theorem dX0_init_272 : decode cX0_init 272 = .ok (.iaload, 1) := by decide +kernel
theorem dX0_init_273 : decode cX0_init 273 = .ok (.iadd, 1) := by decide +kernel
theorem dX0_init_274 : decode cX0_init 274 = .ok (.iastore, 1) := by decide +kernel
theorem dX0_init_275 : decode cX0_init 275 = .ok (.iinc 2 1, 3) := by decide +kernel
theorem dX0_init_278 : decode cX0_init 278 = .ok (.goto (-39), 3) := by decide +kernel
theorem dX0_init_281 : decode cX0_init 281 = .ok (.iinc 1 1, 3) := by decide +kernel
theorem dX0_init_284 : decode cX0_init 284 = .ok (.goto (-62), 3) := by decide +kernel
theorem dX0_init_287 : decode cX0_init 287 = .ok (.return_, 1) := by decide +kernel
theorem dX0_ofKind_0 : decode cX0_ofKind 0 = .ok (.iload_n 1, 1) := by decide +kernel
theorem dX0_ofKind_1 : decode cX0_ofKind 1 = .ok (.tableswitch 145 0 6 #[43, 58, 67, 83, 92, 112, 121], 43) := by decide +kernel
theorem dX0_ofKind_44 : decode cX0_ofKind 44 = .ok (.aload_n 3, 1) := by decide +kernel
theorem dX0_ofKind_45 : decode cX0_ofKind 45 = .ok (.iconst 0, 1) := by decide +kernel
theorem dX0_ofKind_46 : decode cX0_ofKind 46 = .ok (.invokevirtual 51, 3) := by decide +kernel
theorem dX0_ofKind_49 : decode cX0_ofKind 49 = .ok (.aload_n 3, 1) := by decide +kernel
theorem dX0_ofKind_50 : decode cX0_ofKind 50 = .ok (.getfield 61, 3) := by decide +kernel
theorem dX0_ofKind_53 : decode cX0_ofKind 53 = .ok (.iconst 1, 1) := by decide +kernel
theorem dX0_ofKind_54 : decode cX0_ofKind 54 = .ok (.iconst 1, 1) := by decide +kernel
theorem dX0_ofKind_55 : decode cX0_ofKind 55 = .ok (.iastore, 1) := by decide +kernel
theorem dX0_ofKind_56 : decode cX0_ofKind 56 = .ok (.goto 95, 3) := by decide +kernel
theorem dX0_ofKind_59 : decode cX0_ofKind 59 = .ok (.aload_n 0, 1) := by decide +kernel
theorem dX0_ofKind_60 : decode cX0_ofKind 60 = .ok (.iload_n 2, 1) := by decide +kernel
theorem dX0_ofKind_61 : decode cX0_ofKind 61 = .ok (.aload_n 3, 1) := by decide +kernel
theorem dX0_ofKind_62 : decode cX0_ofKind 62 = .ok (.invokevirtual 64, 3) := by decide +kernel
theorem dX0_ofKind_65 : decode cX0_ofKind 65 = .ok (.goto 86, 3) := by decide +kernel
theorem dX0_ofKind_68 : decode cX0_ofKind 68 = .ok (.aload_n 0, 1) := by decide +kernel
theorem dX0_ofKind_69 : decode cX0_ofKind 69 = .ok (.iload_n 2, 1) := by decide +kernel
theorem dX0_ofKind_70 : decode cX0_ofKind 70 = .ok (.aload_n 3, 1) := by decide +kernel
theorem dX0_ofKind_71 : decode cX0_ofKind 71 = .ok (.invokevirtual 64, 3) := by decide +kernel
theorem dX0_ofKind_74 : decode cX0_ofKind 74 = .ok (.aload_n 3, 1) := by decide +kernel
theorem dX0_ofKind_75 : decode cX0_ofKind 75 = .ok (.getfield 61, 3) := by decide +kernel
theorem dX0_ofKind_78 : decode cX0_ofKind 78 = .ok (.iconst 0, 1) := by decide +kernel
theorem dX0_ofKind_79 : decode cX0_ofKind 79 = .ok (.iconst 0, 1) := by decide +kernel
theorem dX0_ofKind_80 : decode cX0_ofKind 80 = .ok (.iastore, 1) := by decide +kernel
theorem dX0_ofKind_81 : decode cX0_ofKind 81 = .ok (.goto 70, 3) := by decide +kernel
theorem dX0_ofKind_84 : decode cX0_ofKind 84 = .ok (.aload_n 0, 1) := by decide +kernel
theorem dX0_ofKind_85 : decode cX0_ofKind 85 = .ok (.iload_n 2, 1) := by decide +kernel
theorem dX0_ofKind_86 : decode cX0_ofKind 86 = .ok (.aload_n 3, 1) := by decide +kernel
theorem dX0_ofKind_87 : decode cX0_ofKind 87 = .ok (.invokevirtual 68, 3) := by decide +kernel
theorem dX0_ofKind_90 : decode cX0_ofKind 90 = .ok (.goto 61, 3) := by decide +kernel
theorem dX0_ofKind_93 : decode cX0_ofKind 93 = .ok (.aload_n 0, 1) := by decide +kernel
theorem dX0_ofKind_94 : decode cX0_ofKind 94 = .ok (.iload_n 2, 1) := by decide +kernel
theorem dX0_ofKind_95 : decode cX0_ofKind 95 = .ok (.aload_n 0, 1) := by decide +kernel
theorem dX0_ofKind_96 : decode cX0_ofKind 96 = .ok (.getfield 45, 3) := by decide +kernel
theorem dX0_ofKind_99 : decode cX0_ofKind 99 = .ok (.invokevirtual 64, 3) := by decide +kernel
theorem dX0_ofKind_102 : decode cX0_ofKind 102 = .ok (.aload_n 3, 1) := by decide +kernel
theorem dX0_ofKind_103 : decode cX0_ofKind 103 = .ok (.aload_n 0, 1) := by decide +kernel
theorem dX0_ofKind_104 : decode cX0_ofKind 104 = .ok (.getfield 45, 3) := by decide +kernel
theorem dX0_ofKind_107 : decode cX0_ofKind 107 = .ok (.invokevirtual 71, 3) := by decide +kernel
theorem dX0_ofKind_110 : decode cX0_ofKind 110 = .ok (.goto 41, 3) := by decide +kernel
theorem dX0_ofKind_113 : decode cX0_ofKind 113 = .ok (.aload_n 0, 1) := by decide +kernel
theorem dX0_ofKind_114 : decode cX0_ofKind 114 = .ok (.iload_n 2, 1) := by decide +kernel
theorem dX0_ofKind_115 : decode cX0_ofKind 115 = .ok (.aload_n 3, 1) := by decide +kernel
theorem dX0_ofKind_116 : decode cX0_ofKind 116 = .ok (.invokevirtual 75, 3) := by decide +kernel
theorem dX0_ofKind_119 : decode cX0_ofKind 119 = .ok (.goto 32, 3) := by decide +kernel
theorem dX0_ofKind_122 : decode cX0_ofKind 122 = .ok (.aload_n 0, 1) := by decide +kernel
theorem dX0_ofKind_123 : decode cX0_ofKind 123 = .ok (.iload_n 2, 1) := by decide +kernel
theorem dX0_ofKind_124 : decode cX0_ofKind 124 = .ok (.ineg, 1) := by decide +kernel
theorem dX0_ofKind_125 : decode cX0_ofKind 125 = .ok (.invokestatic 78, 3) := by decide +kernel
theorem dX0_ofKind_128 : decode cX0_ofKind 128 = .ok (.aload_n 0, 1) := by decide +kernel
theorem dX0_ofKind_129 : decode cX0_ofKind 129 = .ok (.getfield 45, 3) := by decide +kernel
theorem dX0_ofKind_132 : decode cX0_ofKind 132 = .ok (.invokevirtual 68, 3) := by decide +kernel
theorem dX0_ofKind_135 : decode cX0_ofKind 135 = .ok (.aload_n 3, 1) := by decide +kernel
theorem dX0_ofKind_136 : decode cX0_ofKind 136 = .ok (.aload_n 0, 1) := by decide +kernel
theorem dX0_ofKind_137 : decode cX0_ofKind 137 = .ok (.getfield 45, 3) := by decide +kernel
theorem dX0_ofKind_140 : decode cX0_ofKind 140 = .ok (.invokevirtual 71, 3) := by decide +kernel
theorem dX0_ofKind_143 : decode cX0_ofKind 143 = .ok (.goto 8, 3) := by decide +kernel
theorem dX0_ofKind_146 : decode cX0_ofKind 146 = .ok (.aload_n 3, 1) := by decide +kernel
theorem dX0_ofKind_147 : decode cX0_ofKind 147 = .ok (.iload_n 2, 1) := by decide +kernel
theorem dX0_ofKind_148 : decode cX0_ofKind 148 = .ok (.invokevirtual 51, 3) := by decide +kernel
theorem dX0_ofKind_151 : decode cX0_ofKind 151 = .ok (.return_, 1) := by decide +kernel
theorem dX0_geometric_0 : decode cX0_geometric 0 = .ok (.aload_n 2, 1) := by decide +kernel
theorem dX0_geometric_1 : decode cX0_geometric 1 = .ok (.getfield 61, 3) := by decide +kernel
theorem dX0_geometric_4 : decode cX0_geometric 4 = .ok (.iconst 0, 1) := by decide +kernel
theorem dX0_geometric_5 : decode cX0_geometric 5 = .ok (.iconst 1, 1) := by decide +kernel
theorem dX0_geometric_6 : decode cX0_geometric 6 = .ok (.iastore, 1) := by decide +kernel
theorem dX0_geometric_7 : decode cX0_geometric 7 = .ok (.iconst 1, 1) := by decide +kernel
theorem dX0_geometric_8 : decode cX0_geometric 8 = .ok (.istore_n 3, 1) := by decide +kernel
theorem dX0_geometric_9 : decode cX0_geometric 9 = .ok (.iload_n 3, 1) := by decide +kernel
theorem dX0_geometric_10 : decode cX0_geometric 10 = .ok (.bipush 10, 2) := by decide +kernel
theorem dX0_geometric_12 : decode cX0_geometric 12 = .ok (.if_icmp .ge 29, 3) := by decide +kernel
theorem dX0_geometric_15 : decode cX0_geometric 15 = .ok (.aload_n 2, 1) := by decide +kernel
theorem dX0_geometric_16 : decode cX0_geometric 16 = .ok (.getfield 61, 3) := by decide +kernel
theorem dX0_geometric_19 : decode cX0_geometric 19 = .ok (.iload_n 3, 1) := by decide +kernel
theorem dX0_geometric_20 : decode cX0_geometric 20 = .ok (.aload_n 2, 1) := by decide +kernel
theorem dX0_geometric_21 : decode cX0_geometric 21 = .ok (.getfield 61, 3) := by decide +kernel
theorem dX0_geometric_24 : decode cX0_geometric 24 = .ok (.iload_n 3, 1) := by decide +kernel
theorem dX0_geometric_25 : decode cX0_geometric 25 = .ok (.iconst 1, 1) := by decide +kernel
theorem dX0_geometric_26 : decode cX0_geometric 26 = .ok (.isub, 1) := by decide +kernel
theorem dX0_geometric_27 : decode cX0_geometric 27 = .ok (.iaload, 1) := by decide +kernel
theorem dX0_geometric_28 : decode cX0_geometric 28 = .ok (.iload_n 1, 1) := by decide +kernel
theorem dX0_geometric_29 : decode cX0_geometric 29 = .ok (.imul, 1) := by decide +kernel
theorem dX0_geometric_30 : decode cX0_geometric 30 = .ok (.sipush 10007, 3) := by decide +kernel
theorem dX0_geometric_33 : decode cX0_geometric 33 = .ok (.irem, 1) := by decide +kernel
theorem dX0_geometric_34 : decode cX0_geometric 34 = .ok (.iastore, 1) := by decide +kernel
theorem dX0_geometric_35 : decode cX0_geometric 35 = .ok (.iinc 3 1, 3) := by decide +kernel
theorem dX0_geometric_38 : decode cX0_geometric 38 = .ok (.goto (-29), 3) := by decide +kernel
theorem dX0_geometric_41 : decode cX0_geometric 41 = .ok (.return_, 1) := by decide +kernel
theorem dX0_exponential_0 : decode cX0_exponential 0 = .ok (.aload_n 0, 1) := by decide +kernel
theorem dX0_exponential_1 : decode cX0_exponential 1 = .ok (.iload_n 1, 1) := by decide +kernel
theorem dX0_exponential_2 : decode cX0_exponential 2 = .ok (.aload_n 2, 1) := by decide +kernel
theorem dX0_exponential_3 : decode cX0_exponential 3 = .ok (.invokevirtual 68, 3) := by decide +kernel
theorem dX0_exponential_6 : decode cX0_exponential 6 = .ok (.iconst 0, 1) := by decide +kernel
theorem dX0_exponential_7 : decode cX0_exponential 7 = .ok (.istore_n 3, 1) := by decide +kernel
theorem dX0_exponential_8 : decode cX0_exponential 8 = .ok (.iload_n 3, 1) := by decide +kernel
theorem dX0_exponential_9 : decode cX0_exponential 9 = .ok (.bipush 10, 2) := by decide +kernel
theorem dX0_exponential_11 : decode cX0_exponential 11 = .ok (.if_icmp .ge 32, 3) := by decide +kernel
theorem dX0_exponential_14 : decode cX0_exponential 14 = .ok (.aload_n 2, 1) := by decide +kernel
theorem dX0_exponential_15 : decode cX0_exponential 15 = .ok (.getfield 61, 3) := by decide +kernel
theorem dX0_exponential_18 : decode cX0_exponential 18 = .ok (.iload_n 3, 1) := by decide +kernel
theorem dX0_exponential_19 : decode cX0_exponential 19 = .ok (.aload_n 2, 1) := by decide +kernel
theorem dX0_exponential_20 : decode cX0_exponential 20 = .ok (.getfield 61, 3) := by decide +kernel
theorem dX0_exponential_23 : decode cX0_exponential 23 = .ok (.iload_n 3, 1) := by decide +kernel
theorem dX0_exponential_24 : decode cX0_exponential 24 = .ok (.iaload, 1) := by decide +kernel
theorem dX0_exponential_25 : decode cX0_exponential 25 = .ok (.aload_n 0, 1) := by decide +kernel
theorem dX0_exponential_26 : decode cX0_exponential 26 = .ok (.getfield 18, 3) := by decide +kernel
theorem dX0_exponential_29 : decode cX0_exponential 29 = .ok (.iload_n 3, 1) := by decide +kernel
theorem dX0_exponential_30 : decode cX0_exponential 30 = .ok (.iaload, 1) := by decide +kernel
theorem dX0_exponential_31 : decode cX0_exponential 31 = .ok (.imul, 1) := by decide +kernel
theorem dX0_exponential_32 : decode cX0_exponential 32 = .ok (.sipush 10007, 3) := by decide +kernel
theorem dX0_exponential_35 : decode cX0_exponential 35 = .ok (.irem, 1) := by decide +kernel
theorem dX0_exponential_36 : decode cX0_exponential 36 = .ok (.iastore, 1) := by decide +kernel
theorem dX0_exponential_37 : decode cX0_exponential 37 = .ok (.iinc 3 1, 3) := by decide +kernel
theorem dX0_exponential_40 : decode cX0_exponential 40 = .ok (.goto (-32), 3) := by decide +kernel
theorem dX0_exponential_43 : decode cX0_exponential 43 = .ok (.return_, 1) := by decide +kernel
theorem dX0_logarithm_0 : decode cX0_logarithm 0 = .ok (.aload_n 0, 1) := by decide +kernel
theorem dX0_logarithm_1 : decode cX0_logarithm 1 = .ok (.iload_n 1, 1) := by decide +kernel
theorem dX0_logarithm_2 : decode cX0_logarithm 2 = .ok (.ineg, 1) := by decide +kernel
theorem dX0_logarithm_3 : decode cX0_logarithm 3 = .ok (.invokestatic 78, 3) := by decide +kernel
theorem dX0_logarithm_6 : decode cX0_logarithm 6 = .ok (.aload_n 2, 1) := by decide +kernel
theorem dX0_logarithm_7 : decode cX0_logarithm 7 = .ok (.invokevirtual 68, 3) := by decide +kernel
theorem dX0_logarithm_10 : decode cX0_logarithm 10 = .ok (.aload_n 2, 1) := by decide +kernel
theorem dX0_logarithm_11 : decode cX0_logarithm 11 = .ok (.getfield 61, 3) := by decide +kernel
theorem dX0_logarithm_14 : decode cX0_logarithm 14 = .ok (.iconst 0, 1) := by decide +kernel
theorem dX0_logarithm_15 : decode cX0_logarithm 15 = .ok (.iconst 0, 1) := by decide +kernel
theorem dX0_logarithm_16 : decode cX0_logarithm 16 = .ok (.iastore, 1) := by decide +kernel
theorem dX0_logarithm_17 : decode cX0_logarithm 17 = .ok (.iconst 1, 1) := by decide +kernel
theorem dX0_logarithm_18 : decode cX0_logarithm 18 = .ok (.istore_n 3, 1) := by decide +kernel
theorem dX0_logarithm_19 : decode cX0_logarithm 19 = .ok (.iload_n 3, 1) := by decide +kernel
theorem dX0_logarithm_20 : decode cX0_logarithm 20 = .ok (.bipush 10, 2) := by decide +kernel
theorem dX0_logarithm_22 : decode cX0_logarithm 22 = .ok (.if_icmp .ge 32, 3) := by decide +kernel
theorem dX0_logarithm_25 : decode cX0_logarithm 25 = .ok (.aload_n 2, 1) := by decide +kernel
theorem dX0_logarithm_26 : decode cX0_logarithm 26 = .ok (.getfield 61, 3) := by decide +kernel
theorem dX0_logarithm_29 : decode cX0_logarithm 29 = .ok (.iload_n 3, 1) := by decide +kernel
theorem dX0_logarithm_30 : decode cX0_logarithm 30 = .ok (.aload_n 2, 1) := by decide +kernel
theorem dX0_logarithm_31 : decode cX0_logarithm 31 = .ok (.getfield 61, 3) := by decide +kernel
theorem dX0_logarithm_34 : decode cX0_logarithm 34 = .ok (.iload_n 3, 1) := by decide +kernel
theorem dX0_logarithm_35 : decode cX0_logarithm 35 = .ok (.iaload, 1) := by decide +kernel
theorem dX0_logarithm_36 : decode cX0_logarithm 36 = .ok (.aload_n 0, 1) := by decide +kernel
theorem dX0_logarithm_37 : decode cX0_logarithm 37 = .ok (.getfield 9, 3) := by decide +kernel
theorem dX0_logarithm_40 : decode cX0_logarithm 40 = .ok (.iload_n 3, 1) := by decide +kernel
theorem dX0_logarithm_41 : decode cX0_logarithm 41 = .ok (.iaload, 1) := by decide +kernel
theorem dX0_logarithm_42 : decode cX0_logarithm 42 = .ok (.imul, 1) := by decide +kernel
theorem dX0_logarithm_43 : decode cX0_logarithm 43 = .ok (.ineg, 1) := by decide +kernel
theorem dX0_logarithm_44 : decode cX0_logarithm 44 = .ok (.invokestatic 78, 3) := by decide +kernel
theorem dX0_logarithm_47 : decode cX0_logarithm 47 = .ok (.iastore, 1) := by decide +kernel
theorem dX0_logarithm_48 : decode cX0_logarithm 48 = .ok (.iinc 3 1, 3) := by decide +kernel
theorem dX0_logarithm_51 : decode cX0_logarithm 51 = .ok (.goto (-32), 3) := by decide +kernel
theorem dX0_logarithm_54 : decode cX0_logarithm 54 = .ok (.return_, 1) := by decide +kernel
theorem dX0_turned_0 : decode cX0_turned 0 = .ok (.aload_n 0, 1) := by decide +kernel
theorem dX0_turned_1 : decode cX0_turned 1 = .ok (.aload_n 1, 1) := by decide +kernel
theorem dX0_turned_2 : decode cX0_turned 2 = .ok (.aload_n 0, 1) := by decide +kernel
theorem dX0_turned_3 : decode cX0_turned 3 = .ok (.getfield 42, 3) := by decide +kernel
theorem dX0_turned_6 : decode cX0_turned 6 = .ok (.invokevirtual 81, 3) := by decide +kernel
theorem dX0_turned_9 : decode cX0_turned 9 = .ok (.aload_n 0, 1) := by decide +kernel
theorem dX0_turned_10 : decode cX0_turned 10 = .ok (.getfield 45, 3) := by decide +kernel
theorem dX0_turned_13 : decode cX0_turned 13 = .ok (.iconst 1, 1) := by decide +kernel
theorem dX0_turned_14 : decode cX0_turned 14 = .ok (.invokevirtual 51, 3) := by decide +kernel
theorem dX0_turned_17 : decode cX0_turned 17 = .ok (.aload_n 2, 1) := by decide +kernel
theorem dX0_turned_18 : decode cX0_turned 18 = .ok (.getfield 61, 3) := by decide +kernel
theorem dX0_turned_21 : decode cX0_turned 21 = .ok (.iconst 0, 1) := by decide +kernel
theorem dX0_turned_22 : decode cX0_turned 22 = .ok (.iconst 0, 1) := by decide +kernel
theorem dX0_turned_23 : decode cX0_turned 23 = .ok (.iastore, 1) := by decide +kernel
theorem dX0_turned_24 : decode cX0_turned 24 = .ok (.iconst 1, 1) := by decide +kernel
theorem dX0_turned_25 : decode cX0_turned 25 = .ok (.istore_n 3, 1) := by decide +kernel
theorem dX0_turned_26 : decode cX0_turned 26 = .ok (.iload_n 3, 1) := by decide +kernel
theorem dX0_turned_27 : decode cX0_turned 27 = .ok (.bipush 10, 2) := by decide +kernel
theorem dX0_turned_29 : decode cX0_turned 29 = .ok (.if_icmp .ge 52, 3) := by decide +kernel
theorem dX0_turned_32 : decode cX0_turned 32 = .ok (.aload_n 0, 1) := by decide +kernel
theorem dX0_turned_33 : decode cX0_turned 33 = .ok (.getfield 45, 3) := by decide +kernel
theorem dX0_turned_36 : decode cX0_turned 36 = .ok (.aload_n 0, 1) := by decide +kernel
theorem dX0_turned_37 : decode cX0_turned 37 = .ok (.getfield 45, 3) := by decide +kernel
theorem dX0_turned_40 : decode cX0_turned 40 = .ok (.aload_n 0, 1) := by decide +kernel
theorem dX0_turned_41 : decode cX0_turned 41 = .ok (.getfield 42, 3) := by decide +kernel
theorem dX0_turned_44 : decode cX0_turned 44 = .ok (.invokevirtual 85, 3) := by decide +kernel
theorem dX0_turned_47 : decode cX0_turned 47 = .ok (.aload_n 2, 1) := by decide +kernel
theorem dX0_turned_48 : decode cX0_turned 48 = .ok (.getfield 61, 3) := by decide +kernel
theorem dX0_turned_51 : decode cX0_turned 51 = .ok (.iload_n 3, 1) := by decide +kernel
theorem dX0_turned_52 : decode cX0_turned 52 = .ok (.aload_n 0, 1) := by decide +kernel
theorem dX0_turned_53 : decode cX0_turned 53 = .ok (.getfield 45, 3) := by decide +kernel
theorem dX0_turned_56 : decode cX0_turned 56 = .ok (.getfield 61, 3) := by decide +kernel
theorem dX0_turned_59 : decode cX0_turned 59 = .ok (.iload_n 3, 1) := by decide +kernel
theorem dX0_turned_60 : decode cX0_turned 60 = .ok (.iconst 1, 1) := by decide +kernel
theorem dX0_turned_61 : decode cX0_turned 61 = .ok (.isub, 1) := by decide +kernel
theorem dX0_turned_62 : decode cX0_turned 62 = .ok (.iaload, 1) := by decide +kernel
theorem dX0_turned_63 : decode cX0_turned 63 = .ok (.aload_n 0, 1) := by decide +kernel
theorem dX0_turned_64 : decode cX0_turned 64 = .ok (.getfield 9, 3) := by decide +kernel
theorem dX0_turned_67 : decode cX0_turned 67 = .ok (.iload_n 3, 1) := by decide +kernel
theorem dX0_turned_68 : decode cX0_turned 68 = .ok (.iaload, 1) := by decide +kernel
theorem dX0_turned_69 : decode cX0_turned 69 = .ok (.imul, 1) := by decide +kernel
theorem dX0_turned_70 : decode cX0_turned 70 = .ok (.sipush 10007, 3) := by decide +kernel
theorem dX0_turned_73 : decode cX0_turned 73 = .ok (.irem, 1) := by decide +kernel
theorem dX0_turned_74 : decode cX0_turned 74 = .ok (.iastore, 1) := by decide +kernel
theorem dX0_turned_75 : decode cX0_turned 75 = .ok (.iinc 3 1, 3) := by decide +kernel
theorem dX0_turned_78 : decode cX0_turned 78 = .ok (.goto (-52), 3) := by decide +kernel
theorem dX0_turned_81 : decode cX0_turned 81 = .ok (.return_, 1) := by decide +kernel
theorem dX0_tBy_0 : decode cX0_tBy 0 = .ok (.aload_n 0, 1) := by decide +kernel
theorem dX0_tBy_1 : decode cX0_tBy 1 = .ok (.getfield 39, 3) := by decide +kernel
theorem dX0_tBy_4 : decode cX0_tBy 4 = .ok (.aload_n 1, 1) := by decide +kernel
theorem dX0_tBy_5 : decode cX0_tBy 5 = .ok (.invokevirtual 88, 3) := by decide +kernel
theorem dX0_tBy_8 : decode cX0_tBy 8 = .ok (.aload_n 2, 1) := by decide +kernel
theorem dX0_tBy_9 : decode cX0_tBy 9 = .ok (.aload_n 0, 1) := by decide +kernel
theorem dX0_tBy_10 : decode cX0_tBy 10 = .ok (.getfield 35, 3) := by decide +kernel
theorem dX0_tBy_13 : decode cX0_tBy 13 = .ok (.aload_n 0, 1) := by decide +kernel
theorem dX0_tBy_14 : decode cX0_tBy 14 = .ok (.getfield 39, 3) := by decide +kernel
theorem dX0_tBy_17 : decode cX0_tBy 17 = .ok (.invokevirtual 91, 3) := by decide +kernel
theorem dX0_tBy_20 : decode cX0_tBy 20 = .ok (.aload_n 2, 1) := by decide +kernel
theorem dX0_tBy_21 : decode cX0_tBy 21 = .ok (.getfield 61, 3) := by decide +kernel
theorem dX0_tBy_24 : decode cX0_tBy 24 = .ok (.bipush 9, 2) := by decide +kernel
theorem dX0_tBy_26 : decode cX0_tBy 26 = .ok (.iconst 0, 1) := by decide +kernel
theorem dX0_tBy_27 : decode cX0_tBy 27 = .ok (.iastore, 1) := by decide +kernel
theorem dX0_tBy_28 : decode cX0_tBy 28 = .ok (.return_, 1) := by decide +kernel
theorem dX0_oneByInto_0 : decode cX0_oneByInto 0 = .ok (.aload_n 0, 1) := by decide +kernel
theorem dX0_oneByInto_1 : decode cX0_oneByInto 1 = .ok (.getfield 45, 3) := by decide +kernel
theorem dX0_oneByInto_4 : decode cX0_oneByInto 4 = .ok (.aload_n 1, 1) := by decide +kernel
theorem dX0_oneByInto_5 : decode cX0_oneByInto 5 = .ok (.aload_n 2, 1) := by decide +kernel
theorem dX0_oneByInto_6 : decode cX0_oneByInto 6 = .ok (.invokevirtual 94, 3) := by decide +kernel
theorem dX0_oneByInto_9 : decode cX0_oneByInto 9 = .ok (.aload_n 3, 1) := by decide +kernel
theorem dX0_oneByInto_10 : decode cX0_oneByInto 10 = .ok (.aload_n 0, 1) := by decide +kernel
theorem dX0_oneByInto_11 : decode cX0_oneByInto 11 = .ok (.getfield 35, 3) := by decide +kernel
theorem dX0_oneByInto_14 : decode cX0_oneByInto 14 = .ok (.aload_n 0, 1) := by decide +kernel
theorem dX0_oneByInto_15 : decode cX0_oneByInto 15 = .ok (.getfield 45, 3) := by decide +kernel
theorem dX0_oneByInto_18 : decode cX0_oneByInto 18 = .ok (.invokevirtual 91, 3) := by decide +kernel
theorem dX0_oneByInto_21 : decode cX0_oneByInto 21 = .ok (.return_, 1) := by decide +kernel
theorem dX0_operated_0 : decode cX0_operated 0 = .ok (.iconst 0, 1) := by decide +kernel
theorem dX0_operated_1 : decode cX0_operated 1 = .ok (.istore 4, 2) := by decide +kernel
theorem dX0_operated_3 : decode cX0_operated 3 = .ok (.iload 4, 2) := by decide +kernel
theorem dX0_operated_5 : decode cX0_operated 5 = .ok (.bipush 10, 2) := by decide +kernel
theorem dX0_operated_7 : decode cX0_operated 7 = .ok (.if_icmp .ge 89, 3) := by decide +kernel
theorem dX0_operated_10 : decode cX0_operated 10 = .ok (.iconst 0, 1) := by decide +kernel
theorem dX0_operated_11 : decode cX0_operated 11 = .ok (.istore 5, 2) := by decide +kernel
theorem dX0_operated_13 : decode cX0_operated 13 = .ok (.iload 4, 2) := by decide +kernel
theorem dX0_operated_15 : decode cX0_operated 15 = .ok (.istore 6, 2) := by decide +kernel
theorem dX0_operated_17 : decode cX0_operated 17 = .ok (.iload 6, 2) := by decide +kernel
theorem dX0_operated_19 : decode cX0_operated 19 = .ok (.bipush 10, 2) := by decide +kernel
theorem dX0_operated_21 : decode cX0_operated 21 = .ok (.if_icmp .ge 44, 3) := by decide +kernel
theorem dX0_operated_24 : decode cX0_operated 24 = .ok (.iload 5, 2) := by decide +kernel
theorem dX0_operated_26 : decode cX0_operated 26 = .ok (.aload_n 1, 1) := by decide +kernel
theorem dX0_operated_27 : decode cX0_operated 27 = .ok (.getfield 61, 3) := by decide +kernel
theorem dX0_operated_30 : decode cX0_operated 30 = .ok (.iload 6, 2) := by decide +kernel
theorem dX0_operated_32 : decode cX0_operated 32 = .ok (.iload 4, 2) := by decide +kernel
theorem dX0_operated_34 : decode cX0_operated 34 = .ok (.isub, 1) := by decide +kernel
theorem dX0_operated_35 : decode cX0_operated 35 = .ok (.iaload, 1) := by decide +kernel
theorem dX0_operated_36 : decode cX0_operated 36 = .ok (.aload_n 2, 1) := by decide +kernel
theorem dX0_operated_37 : decode cX0_operated 37 = .ok (.getfield 61, 3) := by decide +kernel
theorem dX0_operated_40 : decode cX0_operated 40 = .ok (.iload 6, 2) := by decide +kernel
theorem dX0_operated_42 : decode cX0_operated 42 = .ok (.iaload, 1) := by decide +kernel
theorem dX0_operated_43 : decode cX0_operated 43 = .ok (.aload_n 0, 1) := by decide +kernel
theorem dX0_operated_44 : decode cX0_operated 44 = .ok (.getfield 15, 3) := by decide +kernel
theorem dX0_operated_47 : decode cX0_operated 47 = .ok (.iload 6, 2) := by decide +kernel
theorem dX0_operated_49 : decode cX0_operated 49 = .ok (.iaload, 1) := by decide +kernel
theorem dX0_operated_50 : decode cX0_operated 50 = .ok (.imul, 1) := by decide +kernel
theorem dX0_operated_51 : decode cX0_operated 51 = .ok (.sipush 10007, 3) := by decide +kernel
theorem dX0_operated_54 : decode cX0_operated 54 = .ok (.irem, 1) := by decide +kernel
theorem dX0_operated_55 : decode cX0_operated 55 = .ok (.imul, 1) := by decide +kernel
theorem dX0_operated_56 : decode cX0_operated 56 = .ok (.iadd, 1) := by decide +kernel
theorem dX0_operated_57 : decode cX0_operated 57 = .ok (.istore 5, 2) := by decide +kernel
theorem dX0_operated_59 : decode cX0_operated 59 = .ok (.iinc 6 1, 3) := by decide +kernel
theorem dX0_operated_62 : decode cX0_operated 62 = .ok (.goto (-45), 3) := by decide +kernel
theorem dX0_operated_65 : decode cX0_operated 65 = .ok (.aload_n 3, 1) := by decide +kernel
theorem dX0_operated_66 : decode cX0_operated 66 = .ok (.getfield 61, 3) := by decide +kernel
theorem dX0_operated_69 : decode cX0_operated 69 = .ok (.iload 4, 2) := by decide +kernel
theorem dX0_operated_71 : decode cX0_operated 71 = .ok (.iload 5, 2) := by decide +kernel
theorem dX0_operated_73 : decode cX0_operated 73 = .ok (.sipush 10007, 3) := by decide +kernel
theorem dX0_operated_76 : decode cX0_operated 76 = .ok (.irem, 1) := by decide +kernel
theorem dX0_operated_77 : decode cX0_operated 77 = .ok (.aload_n 0, 1) := by decide +kernel
theorem dX0_operated_78 : decode cX0_operated 78 = .ok (.getfield 18, 3) := by decide +kernel
theorem dX0_operated_81 : decode cX0_operated 81 = .ok (.iload 4, 2) := by decide +kernel
theorem dX0_operated_83 : decode cX0_operated 83 = .ok (.iaload, 1) := by decide +kernel
theorem dX0_operated_84 : decode cX0_operated 84 = .ok (.imul, 1) := by decide +kernel
theorem dX0_operated_85 : decode cX0_operated 85 = .ok (.sipush 10007, 3) := by decide +kernel
theorem dX0_operated_88 : decode cX0_operated 88 = .ok (.irem, 1) := by decide +kernel
theorem dX0_operated_89 : decode cX0_operated 89 = .ok (.iastore, 1) := by decide +kernel
theorem dX0_operated_90 : decode cX0_operated 90 = .ok (.iinc 4 1, 3) := by decide +kernel
theorem dX0_operated_93 : decode cX0_operated 93 = .ok (.goto (-90), 3) := by decide +kernel
theorem dX0_operated_96 : decode cX0_operated 96 = .ok (.return_, 1) := by decide +kernel
theorem dX0_build_0 : decode cX0_build 0 = .ok (.aload_n 0, 1) := by decide +kernel
theorem dX0_build_1 : decode cX0_build 1 = .ok (.aload_n 3, 1) := by decide +kernel
theorem dX0_build_2 : decode cX0_build 2 = .ok (.aload_n 0, 1) := by decide +kernel
theorem dX0_build_3 : decode cX0_build 3 = .ok (.getfield 48, 3) := by decide +kernel
theorem dX0_build_6 : decode cX0_build 6 = .ok (.invokevirtual 97, 3) := by decide +kernel
theorem dX0_build_9 : decode cX0_build 9 = .ok (.aload_n 0, 1) := by decide +kernel
theorem dX0_build_10 : decode cX0_build 10 = .ok (.aload_n 2, 1) := by decide +kernel
theorem dX0_build_11 : decode cX0_build 11 = .ok (.aload_n 0, 1) := by decide +kernel
theorem dX0_build_12 : decode cX0_build 12 = .ok (.getfield 48, 3) := by decide +kernel
theorem dX0_build_15 : decode cX0_build 15 = .ok (.aload_n 0, 1) := by decide +kernel
theorem dX0_build_16 : decode cX0_build 16 = .ok (.getfield 42, 3) := by decide +kernel
theorem dX0_build_19 : decode cX0_build 19 = .ok (.invokevirtual 100, 3) := by decide +kernel
theorem dX0_build_22 : decode cX0_build 22 = .ok (.iconst 0, 1) := by decide +kernel
theorem dX0_build_23 : decode cX0_build 23 = .ok (.istore 4, 2) := by decide +kernel
theorem dX0_build_25 : decode cX0_build 25 = .ok (.iload 4, 2) := by decide +kernel
theorem dX0_build_27 : decode cX0_build 27 = .ok (.bipush 10, 2) := by decide +kernel
theorem dX0_build_29 : decode cX0_build 29 = .ok (.if_icmp .ge 91, 3) := by decide +kernel
theorem dX0_build_32 : decode cX0_build 32 = .ok (.iconst 0, 1) := by decide +kernel
theorem dX0_build_33 : decode cX0_build 33 = .ok (.istore 5, 2) := by decide +kernel
theorem dX0_build_35 : decode cX0_build 35 = .ok (.iload 5, 2) := by decide +kernel
theorem dX0_build_37 : decode cX0_build 37 = .ok (.bipush 10, 2) := by decide +kernel
theorem dX0_build_39 : decode cX0_build 39 = .ok (.if_icmp .ge 60, 3) := by decide +kernel
theorem dX0_build_42 : decode cX0_build 42 = .ok (.aload_n 0, 1) := by decide +kernel
theorem dX0_build_43 : decode cX0_build 43 = .ok (.getfield 42, 3) := by decide +kernel
theorem dX0_build_46 : decode cX0_build 46 = .ok (.getfield 61, 3) := by decide +kernel
theorem dX0_build_49 : decode cX0_build 49 = .ok (.iload 5, 2) := by decide +kernel
theorem dX0_build_51 : decode cX0_build 51 = .ok (.iaload, 1) := by decide +kernel
theorem dX0_build_52 : decode cX0_build 52 = .ok (.aload_n 0, 1) := by decide +kernel
theorem dX0_build_53 : decode cX0_build 53 = .ok (.getfield 15, 3) := by decide +kernel
theorem dX0_build_56 : decode cX0_build 56 = .ok (.iload 5, 2) := by decide +kernel
theorem dX0_build_58 : decode cX0_build 58 = .ok (.iaload, 1) := by decide +kernel
theorem dX0_build_59 : decode cX0_build 59 = .ok (.imul, 1) := by decide +kernel
theorem dX0_build_60 : decode cX0_build 60 = .ok (.sipush 10007, 3) := by decide +kernel
theorem dX0_build_63 : decode cX0_build 63 = .ok (.irem, 1) := by decide +kernel
theorem dX0_build_64 : decode cX0_build 64 = .ok (.istore 6, 2) := by decide +kernel
theorem dX0_build_66 : decode cX0_build 66 = .ok (.aload_n 1, 1) := by decide +kernel
theorem dX0_build_67 : decode cX0_build 67 = .ok (.getfield 104, 3) := by decide +kernel
theorem dX0_build_70 : decode cX0_build 70 = .ok (.iload 5, 2) := by decide +kernel
theorem dX0_build_72 : decode cX0_build 72 = .ok (.aaload, 1) := by decide +kernel
theorem dX0_build_73 : decode cX0_build 73 = .ok (.getfield 61, 3) := by decide +kernel
theorem dX0_build_76 : decode cX0_build 76 = .ok (.iload 4, 2) := by decide +kernel
theorem dX0_build_78 : decode cX0_build 78 = .ok (.iload 6, 2) := by decide +kernel
theorem dX0_build_80 : decode cX0_build 80 = .ok (.aload_n 0, 1) := by decide +kernel
theorem dX0_build_81 : decode cX0_build 81 = .ok (.getfield 18, 3) := by decide +kernel
theorem dX0_build_84 : decode cX0_build 84 = .ok (.iload 4, 2) := by decide +kernel
theorem dX0_build_86 : decode cX0_build 86 = .ok (.iaload, 1) := by decide +kernel
theorem dX0_build_87 : decode cX0_build 87 = .ok (.imul, 1) := by decide +kernel
theorem dX0_build_88 : decode cX0_build 88 = .ok (.sipush 10007, 3) := by decide +kernel
theorem dX0_build_91 : decode cX0_build 91 = .ok (.irem, 1) := by decide +kernel
theorem dX0_build_92 : decode cX0_build 92 = .ok (.iastore, 1) := by decide +kernel
theorem dX0_build_93 : decode cX0_build 93 = .ok (.iinc 5 1, 3) := by decide +kernel
theorem dX0_build_96 : decode cX0_build 96 = .ok (.goto (-61), 3) := by decide +kernel
theorem dX0_build_99 : decode cX0_build 99 = .ok (.aload_n 0, 1) := by decide +kernel
theorem dX0_build_100 : decode cX0_build 100 = .ok (.getfield 42, 3) := by decide +kernel
theorem dX0_build_103 : decode cX0_build 103 = .ok (.aload_n 0, 1) := by decide +kernel
theorem dX0_build_104 : decode cX0_build 104 = .ok (.getfield 42, 3) := by decide +kernel
theorem dX0_build_107 : decode cX0_build 107 = .ok (.aload_n 0, 1) := by decide +kernel
theorem dX0_build_108 : decode cX0_build 108 = .ok (.getfield 48, 3) := by decide +kernel
theorem dX0_build_111 : decode cX0_build 111 = .ok (.invokevirtual 85, 3) := by decide +kernel
theorem dX0_build_114 : decode cX0_build 114 = .ok (.iinc 4 1, 3) := by decide +kernel
theorem dX0_build_117 : decode cX0_build 117 = .ok (.goto (-92), 3) := by decide +kernel
theorem dX0_build_120 : decode cX0_build 120 = .ok (.aload_n 1, 1) := by decide +kernel
theorem dX0_build_121 : decode cX0_build 121 = .ok (.iconst 1, 1) := by decide +kernel
theorem dX0_build_122 : decode cX0_build 122 = .ok (.putfield 110, 3) := by decide +kernel
theorem dX0_build_125 : decode cX0_build 125 = .ok (.return_, 1) := by decide +kernel
theorem dX0_firstNotLowered_0 : decode cX0_firstNotLowered 0 = .ok (.iconst 1, 1) := by decide +kernel
theorem dX0_firstNotLowered_1 : decode cX0_firstNotLowered 1 = .ok (.istore_n 3, 1) := by decide +kernel
theorem dX0_firstNotLowered_2 : decode cX0_firstNotLowered 2 = .ok (.iload_n 3, 1) := by decide +kernel
theorem dX0_firstNotLowered_3 : decode cX0_firstNotLowered 3 = .ok (.bipush 10, 2) := by decide +kernel
theorem dX0_firstNotLowered_5 : decode cX0_firstNotLowered 5 = .ok (.if_icmp .ge 45, 3) := by decide +kernel
theorem dX0_firstNotLowered_8 : decode cX0_firstNotLowered 8 = .ok (.aload_n 0, 1) := by decide +kernel
theorem dX0_firstNotLowered_9 : decode cX0_firstNotLowered 9 = .ok (.aload_n 2, 1) := by decide +kernel
theorem dX0_firstNotLowered_10 : decode cX0_firstNotLowered 10 = .ok (.aload_n 1, 1) := by decide +kernel
theorem dX0_firstNotLowered_11 : decode cX0_firstNotLowered 11 = .ok (.getfield 104, 3) := by decide +kernel
theorem dX0_firstNotLowered_14 : decode cX0_firstNotLowered 14 = .ok (.iload_n 3, 1) := by decide +kernel
theorem dX0_firstNotLowered_15 : decode cX0_firstNotLowered 15 = .ok (.aaload, 1) := by decide +kernel
theorem dX0_firstNotLowered_16 : decode cX0_firstNotLowered 16 = .ok (.aload_n 0, 1) := by decide +kernel
theorem dX0_firstNotLowered_17 : decode cX0_firstNotLowered 17 = .ok (.getfield 45, 3) := by decide +kernel
theorem dX0_firstNotLowered_20 : decode cX0_firstNotLowered 20 = .ok (.invokevirtual 114, 3) := by decide +kernel
theorem dX0_firstNotLowered_23 : decode cX0_firstNotLowered 23 = .ok (.aload_n 0, 1) := by decide +kernel
theorem dX0_firstNotLowered_24 : decode cX0_firstNotLowered 24 = .ok (.getfield 45, 3) := by decide +kernel
theorem dX0_firstNotLowered_27 : decode cX0_firstNotLowered 27 = .ok (.iload_n 3, 1) := by decide +kernel
theorem dX0_firstNotLowered_28 : decode cX0_firstNotLowered 28 = .ok (.aload_n 1, 1) := by decide +kernel
theorem dX0_firstNotLowered_29 : decode cX0_firstNotLowered 29 = .ok (.getfield 104, 3) := by decide +kernel
theorem dX0_firstNotLowered_32 : decode cX0_firstNotLowered 32 = .ok (.iload_n 3, 1) := by decide +kernel
theorem dX0_firstNotLowered_33 : decode cX0_firstNotLowered 33 = .ok (.iconst 1, 1) := by decide +kernel
theorem dX0_firstNotLowered_34 : decode cX0_firstNotLowered 34 = .ok (.isub, 1) := by decide +kernel
theorem dX0_firstNotLowered_35 : decode cX0_firstNotLowered 35 = .ok (.aaload, 1) := by decide +kernel
theorem dX0_firstNotLowered_36 : decode cX0_firstNotLowered 36 = .ok (.invokestatic 117, 3) := by decide +kernel
theorem dX0_firstNotLowered_39 : decode cX0_firstNotLowered 39 = .ok (.ifCond .ne 5, 3) := by decide +kernel
theorem dX0_firstNotLowered_42 : decode cX0_firstNotLowered 42 = .ok (.iload_n 3, 1) := by decide +kernel
theorem dX0_firstNotLowered_43 : decode cX0_firstNotLowered 43 = .ok (.ireturn, 1) := by decide +kernel
theorem dX0_firstNotLowered_44 : decode cX0_firstNotLowered 44 = .ok (.iinc 3 1, 3) := by decide +kernel
theorem dX0_firstNotLowered_47 : decode cX0_firstNotLowered 47 = .ok (.goto (-45), 3) := by decide +kernel
theorem dX0_firstNotLowered_50 : decode cX0_firstNotLowered 50 = .ok (.iconst (-1), 1) := by decide +kernel
theorem dX0_firstNotLowered_51 : decode cX0_firstNotLowered 51 = .ok (.ireturn, 1) := by decide +kernel
theorem dX0_isTimes_0 : decode cX0_isTimes 0 = .ok (.iconst 0, 1) := by decide +kernel
theorem dX0_isTimes_1 : decode cX0_isTimes 1 = .ok (.istore_n 3, 1) := by decide +kernel
theorem dX0_isTimes_2 : decode cX0_isTimes 2 = .ok (.iload_n 3, 1) := by decide +kernel
theorem dX0_isTimes_3 : decode cX0_isTimes 3 = .ok (.bipush 10, 2) := by decide +kernel
theorem dX0_isTimes_5 : decode cX0_isTimes 5 = .ok (.if_icmp .ge 32, 3) := by decide +kernel
theorem dX0_isTimes_8 : decode cX0_isTimes 8 = .ok (.aload_n 0, 1) := by decide +kernel
theorem dX0_isTimes_9 : decode cX0_isTimes 9 = .ok (.getfield 61, 3) := by decide +kernel
theorem dX0_isTimes_12 : decode cX0_isTimes 12 = .ok (.iload_n 3, 1) := by decide +kernel
theorem dX0_isTimes_13 : decode cX0_isTimes 13 = .ok (.iaload, 1) := by decide +kernel
theorem dX0_isTimes_14 : decode cX0_isTimes 14 = .ok (.iload_n 1, 1) := by decide +kernel
theorem dX0_isTimes_15 : decode cX0_isTimes 15 = .ok (.aload_n 2, 1) := by decide +kernel
theorem dX0_isTimes_16 : decode cX0_isTimes 16 = .ok (.getfield 61, 3) := by decide +kernel
theorem dX0_isTimes_19 : decode cX0_isTimes 19 = .ok (.iload_n 3, 1) := by decide +kernel
theorem dX0_isTimes_20 : decode cX0_isTimes 20 = .ok (.iaload, 1) := by decide +kernel
theorem dX0_isTimes_21 : decode cX0_isTimes 21 = .ok (.imul, 1) := by decide +kernel
theorem dX0_isTimes_22 : decode cX0_isTimes 22 = .ok (.sipush 10007, 3) := by decide +kernel
theorem dX0_isTimes_25 : decode cX0_isTimes 25 = .ok (.irem, 1) := by decide +kernel
theorem dX0_isTimes_26 : decode cX0_isTimes 26 = .ok (.if_icmp .eq 5, 3) := by decide +kernel
theorem dX0_isTimes_29 : decode cX0_isTimes 29 = .ok (.iconst 0, 1) := by decide +kernel
theorem dX0_isTimes_30 : decode cX0_isTimes 30 = .ok (.ireturn, 1) := by decide +kernel
theorem dX0_isTimes_31 : decode cX0_isTimes 31 = .ok (.iinc 3 1, 3) := by decide +kernel
theorem dX0_isTimes_34 : decode cX0_isTimes 34 = .ok (.goto (-32), 3) := by decide +kernel
theorem dX0_isTimes_37 : decode cX0_isTimes 37 = .ok (.iconst 1, 1) := by decide +kernel
theorem dX0_isTimes_38 : decode cX0_isTimes 38 = .ok (.ireturn, 1) := by decide +kernel
theorem dX0_toldIn_0 : decode cX0_toldIn 0 = .ok (.aload_n 0, 1) := by decide +kernel
theorem dX0_toldIn_1 : decode cX0_toldIn 1 = .ok (.getfield 45, 3) := by decide +kernel
theorem dX0_toldIn_4 : decode cX0_toldIn 4 = .ok (.aload_n 1, 1) := by decide +kernel
theorem dX0_toldIn_5 : decode cX0_toldIn 5 = .ok (.invokevirtual 121, 3) := by decide +kernel
theorem dX0_toldIn_8 : decode cX0_toldIn 8 = .ok (.iconst 0, 1) := by decide +kernel
theorem dX0_toldIn_9 : decode cX0_toldIn 9 = .ok (.istore 4, 2) := by decide +kernel
theorem dX0_toldIn_11 : decode cX0_toldIn 11 = .ok (.bipush 9, 2) := by decide +kernel
theorem dX0_toldIn_13 : decode cX0_toldIn 13 = .ok (.istore 5, 2) := by decide +kernel
theorem dX0_toldIn_15 : decode cX0_toldIn 15 = .ok (.iload 5, 2) := by decide +kernel
theorem dX0_toldIn_17 : decode cX0_toldIn 17 = .ok (.iload_n 3, 1) := by decide +kernel
theorem dX0_toldIn_18 : decode cX0_toldIn 18 = .ok (.if_icmp .lt 97, 3) := by decide +kernel
theorem dX0_toldIn_21 : decode cX0_toldIn 21 = .ok (.aload_n 2, 1) := by decide +kernel
theorem dX0_toldIn_22 : decode cX0_toldIn 22 = .ok (.getfield 104, 3) := by decide +kernel
theorem dX0_toldIn_25 : decode cX0_toldIn 25 = .ok (.iload 5, 2) := by decide +kernel
theorem dX0_toldIn_27 : decode cX0_toldIn 27 = .ok (.aaload, 1) := by decide +kernel
theorem dX0_toldIn_28 : decode cX0_toldIn 28 = .ok (.astore 6, 2) := by decide +kernel
theorem dX0_toldIn_30 : decode cX0_toldIn 30 = .ok (.aload_n 0, 1) := by decide +kernel
theorem dX0_toldIn_31 : decode cX0_toldIn 31 = .ok (.getfield 45, 3) := by decide +kernel
theorem dX0_toldIn_34 : decode cX0_toldIn 34 = .ok (.getfield 61, 3) := by decide +kernel
theorem dX0_toldIn_37 : decode cX0_toldIn 37 = .ok (.iload 5, 2) := by decide +kernel
theorem dX0_toldIn_39 : decode cX0_toldIn 39 = .ok (.iaload, 1) := by decide +kernel
theorem dX0_toldIn_40 : decode cX0_toldIn 40 = .ok (.aload 6, 2) := by decide +kernel
theorem dX0_toldIn_42 : decode cX0_toldIn 42 = .ok (.getfield 61, 3) := by decide +kernel
theorem dX0_toldIn_45 : decode cX0_toldIn 45 = .ok (.iload 5, 2) := by decide +kernel
theorem dX0_toldIn_47 : decode cX0_toldIn 47 = .ok (.iaload, 1) := by decide +kernel
theorem dX0_toldIn_48 : decode cX0_toldIn 48 = .ok (.invokestatic 55, 3) := by decide +kernel
theorem dX0_toldIn_51 : decode cX0_toldIn 51 = .ok (.imul, 1) := by decide +kernel
theorem dX0_toldIn_52 : decode cX0_toldIn 52 = .ok (.sipush 10007, 3) := by decide +kernel
theorem dX0_toldIn_55 : decode cX0_toldIn 55 = .ok (.irem, 1) := by decide +kernel
theorem dX0_toldIn_56 : decode cX0_toldIn 56 = .ok (.istore 4, 2) := by decide +kernel
theorem dX0_toldIn_58 : decode cX0_toldIn 58 = .ok (.iconst 0, 1) := by decide +kernel
theorem dX0_toldIn_59 : decode cX0_toldIn 59 = .ok (.istore 7, 2) := by decide +kernel
theorem dX0_toldIn_61 : decode cX0_toldIn 61 = .ok (.iload 7, 2) := by decide +kernel
theorem dX0_toldIn_63 : decode cX0_toldIn 63 = .ok (.iload 5, 2) := by decide +kernel
theorem dX0_toldIn_65 : decode cX0_toldIn 65 = .ok (.if_icmp .gt 44, 3) := by decide +kernel
theorem dX0_toldIn_68 : decode cX0_toldIn 68 = .ok (.aload_n 0, 1) := by decide +kernel
theorem dX0_toldIn_69 : decode cX0_toldIn 69 = .ok (.getfield 45, 3) := by decide +kernel
theorem dX0_toldIn_72 : decode cX0_toldIn 72 = .ok (.getfield 61, 3) := by decide +kernel
theorem dX0_toldIn_75 : decode cX0_toldIn 75 = .ok (.iload 7, 2) := by decide +kernel
theorem dX0_toldIn_77 : decode cX0_toldIn 77 = .ok (.aload_n 0, 1) := by decide +kernel
theorem dX0_toldIn_78 : decode cX0_toldIn 78 = .ok (.getfield 45, 3) := by decide +kernel
theorem dX0_toldIn_81 : decode cX0_toldIn 81 = .ok (.getfield 61, 3) := by decide +kernel
theorem dX0_toldIn_84 : decode cX0_toldIn 84 = .ok (.iload 7, 2) := by decide +kernel
theorem dX0_toldIn_86 : decode cX0_toldIn 86 = .ok (.iaload, 1) := by decide +kernel
theorem dX0_toldIn_87 : decode cX0_toldIn 87 = .ok (.iload 4, 2) := by decide +kernel
theorem dX0_toldIn_89 : decode cX0_toldIn 89 = .ok (.aload 6, 2) := by decide +kernel
theorem dX0_toldIn_91 : decode cX0_toldIn 91 = .ok (.getfield 61, 3) := by decide +kernel
theorem dX0_toldIn_94 : decode cX0_toldIn 94 = .ok (.iload 7, 2) := by decide +kernel
theorem dX0_toldIn_96 : decode cX0_toldIn 96 = .ok (.iaload, 1) := by decide +kernel
theorem dX0_toldIn_97 : decode cX0_toldIn 97 = .ok (.imul, 1) := by decide +kernel
theorem dX0_toldIn_98 : decode cX0_toldIn 98 = .ok (.isub, 1) := by decide +kernel
theorem dX0_toldIn_99 : decode cX0_toldIn 99 = .ok (.invokestatic 78, 3) := by decide +kernel
theorem dX0_toldIn_102 : decode cX0_toldIn 102 = .ok (.iastore, 1) := by decide +kernel
theorem dX0_toldIn_103 : decode cX0_toldIn 103 = .ok (.iinc 7 1, 3) := by decide +kernel
theorem dX0_toldIn_106 : decode cX0_toldIn 106 = .ok (.goto (-45), 3) := by decide +kernel
theorem dX0_toldIn_109 : decode cX0_toldIn 109 = .ok (.iinc 5 (-1), 3) := by decide +kernel
theorem dX0_toldIn_112 : decode cX0_toldIn 112 = .ok (.goto (-97), 3) := by decide +kernel
theorem dX0_toldIn_115 : decode cX0_toldIn 115 = .ok (.iload 4, 2) := by decide +kernel
theorem dX0_toldIn_117 : decode cX0_toldIn 117 = .ok (.ireturn, 1) := by decide +kernel
theorem dX0_binomialUpTo_0 : decode cX0_binomialUpTo 0 = .ok (.iconst 0, 1) := by decide +kernel
theorem dX0_binomialUpTo_1 : decode cX0_binomialUpTo 1 = .ok (.istore_n 2, 1) := by decide +kernel
theorem dX0_binomialUpTo_2 : decode cX0_binomialUpTo 2 = .ok (.iload_n 2, 1) := by decide +kernel
theorem dX0_binomialUpTo_3 : decode cX0_binomialUpTo 3 = .ok (.bipush 10, 2) := by decide +kernel
theorem dX0_binomialUpTo_5 : decode cX0_binomialUpTo 5 = .ok (.if_icmp .ge 41, 3) := by decide +kernel
theorem dX0_binomialUpTo_8 : decode cX0_binomialUpTo 8 = .ok (.iconst 0, 1) := by decide +kernel
theorem dX0_binomialUpTo_9 : decode cX0_binomialUpTo 9 = .ok (.istore_n 3, 1) := by decide +kernel
theorem dX0_binomialUpTo_10 : decode cX0_binomialUpTo 10 = .ok (.iload_n 3, 1) := by decide +kernel
theorem dX0_binomialUpTo_11 : decode cX0_binomialUpTo 11 = .ok (.bipush 19, 2) := by decide +kernel
theorem dX0_binomialUpTo_13 : decode cX0_binomialUpTo 13 = .ok (.if_icmp .ge 27, 3) := by decide +kernel
theorem dX0_binomialUpTo_16 : decode cX0_binomialUpTo 16 = .ok (.aload_n 0, 1) := by decide +kernel
theorem dX0_binomialUpTo_17 : decode cX0_binomialUpTo 17 = .ok (.getfield 26, 3) := by decide +kernel
theorem dX0_binomialUpTo_20 : decode cX0_binomialUpTo 20 = .ok (.iload_n 2, 1) := by decide +kernel
theorem dX0_binomialUpTo_21 : decode cX0_binomialUpTo 21 = .ok (.aaload, 1) := by decide +kernel
theorem dX0_binomialUpTo_22 : decode cX0_binomialUpTo 22 = .ok (.iload_n 3, 1) := by decide +kernel
theorem dX0_binomialUpTo_23 : decode cX0_binomialUpTo 23 = .ok (.aload_n 1, 1) := by decide +kernel
theorem dX0_binomialUpTo_24 : decode cX0_binomialUpTo 24 = .ok (.getfield 104, 3) := by decide +kernel
theorem dX0_binomialUpTo_27 : decode cX0_binomialUpTo 27 = .ok (.iload_n 2, 1) := by decide +kernel
theorem dX0_binomialUpTo_28 : decode cX0_binomialUpTo 28 = .ok (.aaload, 1) := by decide +kernel
theorem dX0_binomialUpTo_29 : decode cX0_binomialUpTo 29 = .ok (.iload_n 3, 1) := by decide +kernel
theorem dX0_binomialUpTo_30 : decode cX0_binomialUpTo 30 = .ok (.invokevirtual 124, 3) := by decide +kernel
theorem dX0_binomialUpTo_33 : decode cX0_binomialUpTo 33 = .ok (.iastore, 1) := by decide +kernel
theorem dX0_binomialUpTo_34 : decode cX0_binomialUpTo 34 = .ok (.iinc 3 1, 3) := by decide +kernel
theorem dX0_binomialUpTo_37 : decode cX0_binomialUpTo 37 = .ok (.goto (-27), 3) := by decide +kernel
theorem dX0_binomialUpTo_40 : decode cX0_binomialUpTo 40 = .ok (.iinc 2 1, 3) := by decide +kernel
theorem dX0_binomialUpTo_43 : decode cX0_binomialUpTo 43 = .ok (.goto (-41), 3) := by decide +kernel
theorem dX0_binomialUpTo_46 : decode cX0_binomialUpTo 46 = .ok (.iconst (-1), 1) := by decide +kernel
theorem dX0_binomialUpTo_47 : decode cX0_binomialUpTo 47 = .ok (.istore_n 2, 1) := by decide +kernel
theorem dX0_binomialUpTo_48 : decode cX0_binomialUpTo 48 = .ok (.iconst 0, 1) := by decide +kernel
theorem dX0_binomialUpTo_49 : decode cX0_binomialUpTo 49 = .ok (.istore_n 3, 1) := by decide +kernel
theorem dX0_binomialUpTo_50 : decode cX0_binomialUpTo 50 = .ok (.iload_n 3, 1) := by decide +kernel
theorem dX0_binomialUpTo_51 : decode cX0_binomialUpTo 51 = .ok (.bipush 10, 2) := by decide +kernel
theorem dX0_binomialUpTo_53 : decode cX0_binomialUpTo 53 = .ok (.if_icmp .ge 19, 3) := by decide +kernel
theorem dX0_binomialUpTo_56 : decode cX0_binomialUpTo 56 = .ok (.aload_n 0, 1) := by decide +kernel
theorem dX0_binomialUpTo_57 : decode cX0_binomialUpTo 57 = .ok (.iload_n 3, 1) := by decide +kernel
theorem dX0_binomialUpTo_58 : decode cX0_binomialUpTo 58 = .ok (.invokevirtual 127, 3) := by decide +kernel
theorem dX0_binomialUpTo_61 : decode cX0_binomialUpTo 61 = .ok (.ifCond .eq 11, 3) := by decide +kernel
theorem dX0_binomialUpTo_64 : decode cX0_binomialUpTo 64 = .ok (.iload_n 3, 1) := by decide +kernel
theorem dX0_binomialUpTo_65 : decode cX0_binomialUpTo 65 = .ok (.istore_n 2, 1) := by decide +kernel
theorem dX0_binomialUpTo_66 : decode cX0_binomialUpTo 66 = .ok (.iinc 3 1, 3) := by decide +kernel
theorem dX0_binomialUpTo_69 : decode cX0_binomialUpTo 69 = .ok (.goto (-19), 3) := by decide +kernel
theorem dX0_binomialUpTo_72 : decode cX0_binomialUpTo 72 = .ok (.iload_n 2, 1) := by decide +kernel
theorem dX0_binomialUpTo_73 : decode cX0_binomialUpTo 73 = .ok (.ireturn, 1) := by decide +kernel
theorem dX0_isBinomialAt_0 : decode cX0_isBinomialAt 0 = .ok (.iconst 0, 1) := by decide +kernel
theorem dX0_isBinomialAt_1 : decode cX0_isBinomialAt 1 = .ok (.istore_n 2, 1) := by decide +kernel
theorem dX0_isBinomialAt_2 : decode cX0_isBinomialAt 2 = .ok (.iload_n 2, 1) := by decide +kernel
theorem dX0_isBinomialAt_3 : decode cX0_isBinomialAt 3 = .ok (.iload_n 1, 1) := by decide +kernel
theorem dX0_isBinomialAt_4 : decode cX0_isBinomialAt 4 = .ok (.if_icmp .gt 101, 3) := by decide +kernel
theorem dX0_isBinomialAt_7 : decode cX0_isBinomialAt 7 = .ok (.iconst 0, 1) := by decide +kernel
theorem dX0_isBinomialAt_8 : decode cX0_isBinomialAt 8 = .ok (.istore_n 3, 1) := by decide +kernel
theorem dX0_isBinomialAt_9 : decode cX0_isBinomialAt 9 = .ok (.iload_n 3, 1) := by decide +kernel
theorem dX0_isBinomialAt_10 : decode cX0_isBinomialAt 10 = .ok (.iload_n 1, 1) := by decide +kernel
theorem dX0_isBinomialAt_11 : decode cX0_isBinomialAt 11 = .ok (.if_icmp .gt 88, 3) := by decide +kernel
theorem dX0_isBinomialAt_14 : decode cX0_isBinomialAt 14 = .ok (.iconst 0, 1) := by decide +kernel
theorem dX0_isBinomialAt_15 : decode cX0_isBinomialAt 15 = .ok (.istore 4, 2) := by decide +kernel
theorem dX0_isBinomialAt_17 : decode cX0_isBinomialAt 17 = .ok (.iconst 0, 1) := by decide +kernel
theorem dX0_isBinomialAt_18 : decode cX0_isBinomialAt 18 = .ok (.istore 5, 2) := by decide +kernel
theorem dX0_isBinomialAt_20 : decode cX0_isBinomialAt 20 = .ok (.iload 5, 2) := by decide +kernel
theorem dX0_isBinomialAt_22 : decode cX0_isBinomialAt 22 = .ok (.iload_n 1, 1) := by decide +kernel
theorem dX0_isBinomialAt_23 : decode cX0_isBinomialAt 23 = .ok (.if_icmp .gt 49, 3) := by decide +kernel
theorem dX0_isBinomialAt_26 : decode cX0_isBinomialAt 26 = .ok (.iload 4, 2) := by decide +kernel
theorem dX0_isBinomialAt_28 : decode cX0_isBinomialAt 28 = .ok (.aload_n 0, 1) := by decide +kernel
theorem dX0_isBinomialAt_29 : decode cX0_isBinomialAt 29 = .ok (.getfield 23, 3) := by decide +kernel
theorem dX0_isBinomialAt_32 : decode cX0_isBinomialAt 32 = .ok (.iload_n 1, 1) := by decide +kernel
theorem dX0_isBinomialAt_33 : decode cX0_isBinomialAt 33 = .ok (.aaload, 1) := by decide +kernel
theorem dX0_isBinomialAt_34 : decode cX0_isBinomialAt 34 = .ok (.iload 5, 2) := by decide +kernel
theorem dX0_isBinomialAt_36 : decode cX0_isBinomialAt 36 = .ok (.iaload, 1) := by decide +kernel
theorem dX0_isBinomialAt_37 : decode cX0_isBinomialAt 37 = .ok (.aload_n 0, 1) := by decide +kernel
theorem dX0_isBinomialAt_38 : decode cX0_isBinomialAt 38 = .ok (.getfield 26, 3) := by decide +kernel
theorem dX0_isBinomialAt_41 : decode cX0_isBinomialAt 41 = .ok (.iload 5, 2) := by decide +kernel
theorem dX0_isBinomialAt_43 : decode cX0_isBinomialAt 43 = .ok (.aaload, 1) := by decide +kernel
theorem dX0_isBinomialAt_44 : decode cX0_isBinomialAt 44 = .ok (.iload_n 2, 1) := by decide +kernel
theorem dX0_isBinomialAt_45 : decode cX0_isBinomialAt 45 = .ok (.iaload, 1) := by decide +kernel
theorem dX0_isBinomialAt_46 : decode cX0_isBinomialAt 46 = .ok (.imul, 1) := by decide +kernel
theorem dX0_isBinomialAt_47 : decode cX0_isBinomialAt 47 = .ok (.sipush 10007, 3) := by decide +kernel
theorem dX0_isBinomialAt_50 : decode cX0_isBinomialAt 50 = .ok (.irem, 1) := by decide +kernel
theorem dX0_isBinomialAt_51 : decode cX0_isBinomialAt 51 = .ok (.aload_n 0, 1) := by decide +kernel
theorem dX0_isBinomialAt_52 : decode cX0_isBinomialAt 52 = .ok (.getfield 26, 3) := by decide +kernel
theorem dX0_isBinomialAt_55 : decode cX0_isBinomialAt 55 = .ok (.iload_n 1, 1) := by decide +kernel
theorem dX0_isBinomialAt_56 : decode cX0_isBinomialAt 56 = .ok (.iload 5, 2) := by decide +kernel
theorem dX0_isBinomialAt_58 : decode cX0_isBinomialAt 58 = .ok (.isub, 1) := by decide +kernel
theorem dX0_isBinomialAt_59 : decode cX0_isBinomialAt 59 = .ok (.aaload, 1) := by decide +kernel
theorem dX0_isBinomialAt_60 : decode cX0_isBinomialAt 60 = .ok (.iload_n 3, 1) := by decide +kernel
theorem dX0_isBinomialAt_61 : decode cX0_isBinomialAt 61 = .ok (.iaload, 1) := by decide +kernel
theorem dX0_isBinomialAt_62 : decode cX0_isBinomialAt 62 = .ok (.imul, 1) := by decide +kernel
theorem dX0_isBinomialAt_63 : decode cX0_isBinomialAt 63 = .ok (.iadd, 1) := by decide +kernel
theorem dX0_isBinomialAt_64 : decode cX0_isBinomialAt 64 = .ok (.istore 4, 2) := by decide +kernel
theorem dX0_isBinomialAt_66 : decode cX0_isBinomialAt 66 = .ok (.iinc 5 1, 3) := by decide +kernel
theorem dX0_isBinomialAt_69 : decode cX0_isBinomialAt 69 = .ok (.goto (-49), 3) := by decide +kernel
theorem dX0_isBinomialAt_72 : decode cX0_isBinomialAt 72 = .ok (.iload 4, 2) := by decide +kernel
theorem dX0_isBinomialAt_74 : decode cX0_isBinomialAt 74 = .ok (.sipush 10007, 3) := by decide +kernel
theorem dX0_isBinomialAt_77 : decode cX0_isBinomialAt 77 = .ok (.irem, 1) := by decide +kernel
theorem dX0_isBinomialAt_78 : decode cX0_isBinomialAt 78 = .ok (.aload_n 0, 1) := by decide +kernel
theorem dX0_isBinomialAt_79 : decode cX0_isBinomialAt 79 = .ok (.getfield 26, 3) := by decide +kernel
theorem dX0_isBinomialAt_82 : decode cX0_isBinomialAt 82 = .ok (.iload_n 1, 1) := by decide +kernel
theorem dX0_isBinomialAt_83 : decode cX0_isBinomialAt 83 = .ok (.aaload, 1) := by decide +kernel
theorem dX0_isBinomialAt_84 : decode cX0_isBinomialAt 84 = .ok (.iload_n 2, 1) := by decide +kernel
theorem dX0_isBinomialAt_85 : decode cX0_isBinomialAt 85 = .ok (.iload_n 3, 1) := by decide +kernel
theorem dX0_isBinomialAt_86 : decode cX0_isBinomialAt 86 = .ok (.iadd, 1) := by decide +kernel
theorem dX0_isBinomialAt_87 : decode cX0_isBinomialAt 87 = .ok (.iaload, 1) := by decide +kernel
theorem dX0_isBinomialAt_88 : decode cX0_isBinomialAt 88 = .ok (.if_icmp .eq 5, 3) := by decide +kernel
theorem dX0_isBinomialAt_91 : decode cX0_isBinomialAt 91 = .ok (.iconst 0, 1) := by decide +kernel
theorem dX0_isBinomialAt_92 : decode cX0_isBinomialAt 92 = .ok (.ireturn, 1) := by decide +kernel
theorem dX0_isBinomialAt_93 : decode cX0_isBinomialAt 93 = .ok (.iinc 3 1, 3) := by decide +kernel
theorem dX0_isBinomialAt_96 : decode cX0_isBinomialAt 96 = .ok (.goto (-87), 3) := by decide +kernel
theorem dX0_isBinomialAt_99 : decode cX0_isBinomialAt 99 = .ok (.iinc 2 1, 3) := by decide +kernel
theorem dX0_isBinomialAt_102 : decode cX0_isBinomialAt 102 = .ok (.goto (-100), 3) := by decide +kernel
theorem dX0_isBinomialAt_105 : decode cX0_isBinomialAt 105 = .ok (.iconst 1, 1) := by decide +kernel
theorem dX0_isBinomialAt_106 : decode cX0_isBinomialAt 106 = .ok (.ireturn, 1) := by decide +kernel
theorem dX0_summed_0 : decode cX0_summed 0 = .ok (.aload_n 0, 1) := by decide +kernel
theorem dX0_summed_1 : decode cX0_summed 1 = .ok (.aload_n 1, 1) := by decide +kernel
theorem dX0_summed_2 : decode cX0_summed 2 = .ok (.iload_n 2, 1) := by decide +kernel
theorem dX0_summed_3 : decode cX0_summed 3 = .ok (.invokevirtual 131, 3) := by decide +kernel
theorem dX0_summed_6 : decode cX0_summed 6 = .ok (.iload_n 3, 1) := by decide +kernel
theorem dX0_summed_7 : decode cX0_summed 7 = .ok (.invokestatic 78, 3) := by decide +kernel
theorem dX0_summed_10 : decode cX0_summed 10 = .ok (.istore 4, 2) := by decide +kernel
theorem dX0_summed_12 : decode cX0_summed 12 = .ok (.iconst 1, 1) := by decide +kernel
theorem dX0_summed_13 : decode cX0_summed 13 = .ok (.istore 5, 2) := by decide +kernel
theorem dX0_summed_15 : decode cX0_summed 15 = .ok (.iconst 0, 1) := by decide +kernel
theorem dX0_summed_16 : decode cX0_summed 16 = .ok (.istore 6, 2) := by decide +kernel
theorem dX0_summed_18 : decode cX0_summed 18 = .ok (.iconst 0, 1) := by decide +kernel
theorem dX0_summed_19 : decode cX0_summed 19 = .ok (.istore 7, 2) := by decide +kernel
theorem dX0_summed_21 : decode cX0_summed 21 = .ok (.iload 7, 2) := by decide +kernel
theorem dX0_summed_23 : decode cX0_summed 23 = .ok (.bipush 10, 2) := by decide +kernel
theorem dX0_summed_25 : decode cX0_summed 25 = .ok (.if_icmp .ge 59, 3) := by decide +kernel
theorem dX0_summed_28 : decode cX0_summed 28 = .ok (.iload 5, 2) := by decide +kernel
theorem dX0_summed_30 : decode cX0_summed 30 = .ok (.iload 4, 2) := by decide +kernel
theorem dX0_summed_32 : decode cX0_summed 32 = .ok (.iload 7, 2) := by decide +kernel
theorem dX0_summed_34 : decode cX0_summed 34 = .ok (.isub, 1) := by decide +kernel
theorem dX0_summed_35 : decode cX0_summed 35 = .ok (.invokestatic 78, 3) := by decide +kernel
theorem dX0_summed_38 : decode cX0_summed 38 = .ok (.imul, 1) := by decide +kernel
theorem dX0_summed_39 : decode cX0_summed 39 = .ok (.sipush 10007, 3) := by decide +kernel
theorem dX0_summed_42 : decode cX0_summed 42 = .ok (.irem, 1) := by decide +kernel
theorem dX0_summed_43 : decode cX0_summed 43 = .ok (.aload_n 0, 1) := by decide +kernel
theorem dX0_summed_44 : decode cX0_summed 44 = .ok (.getfield 9, 3) := by decide +kernel
theorem dX0_summed_47 : decode cX0_summed 47 = .ok (.iload 7, 2) := by decide +kernel
theorem dX0_summed_49 : decode cX0_summed 49 = .ok (.iconst 1, 1) := by decide +kernel
theorem dX0_summed_50 : decode cX0_summed 50 = .ok (.iadd, 1) := by decide +kernel
theorem dX0_summed_51 : decode cX0_summed 51 = .ok (.iaload, 1) := by decide +kernel
theorem dX0_summed_52 : decode cX0_summed 52 = .ok (.imul, 1) := by decide +kernel
theorem dX0_summed_53 : decode cX0_summed 53 = .ok (.sipush 10007, 3) := by decide +kernel
theorem dX0_summed_56 : decode cX0_summed 56 = .ok (.irem, 1) := by decide +kernel
theorem dX0_summed_57 : decode cX0_summed 57 = .ok (.istore 5, 2) := by decide +kernel
theorem dX0_summed_59 : decode cX0_summed 59 = .ok (.iload 6, 2) := by decide +kernel
theorem dX0_summed_61 : decode cX0_summed 61 = .ok (.aload_n 0, 1) := by decide +kernel
theorem dX0_summed_62 : decode cX0_summed 62 = .ok (.getfield 29, 3) := by decide +kernel
theorem dX0_summed_65 : decode cX0_summed 65 = .ok (.iload 7, 2) := by decide +kernel
theorem dX0_summed_67 : decode cX0_summed 67 = .ok (.iaload, 1) := by decide +kernel
theorem dX0_summed_68 : decode cX0_summed 68 = .ok (.iload 5, 2) := by decide +kernel
theorem dX0_summed_70 : decode cX0_summed 70 = .ok (.imul, 1) := by decide +kernel
theorem dX0_summed_71 : decode cX0_summed 71 = .ok (.iadd, 1) := by decide +kernel
theorem dX0_summed_72 : decode cX0_summed 72 = .ok (.sipush 10007, 3) := by decide +kernel
theorem dX0_summed_75 : decode cX0_summed 75 = .ok (.irem, 1) := by decide +kernel
theorem dX0_summed_76 : decode cX0_summed 76 = .ok (.istore 6, 2) := by decide +kernel
theorem dX0_summed_78 : decode cX0_summed 78 = .ok (.iinc 7 1, 3) := by decide +kernel
theorem dX0_summed_81 : decode cX0_summed 81 = .ok (.goto (-60), 3) := by decide +kernel
theorem dX0_summed_84 : decode cX0_summed 84 = .ok (.iload 6, 2) := by decide +kernel
theorem dX0_summed_86 : decode cX0_summed 86 = .ok (.ireturn, 1) := by decide +kernel
theorem dX0_differenceAt_0 : decode cX0_differenceAt 0 = .ok (.aload_n 0, 1) := by decide +kernel
theorem dX0_differenceAt_1 : decode cX0_differenceAt 1 = .ok (.aload_n 1, 1) := by decide +kernel
theorem dX0_differenceAt_2 : decode cX0_differenceAt 2 = .ok (.iload_n 3, 1) := by decide +kernel
theorem dX0_differenceAt_3 : decode cX0_differenceAt 3 = .ok (.invokevirtual 131, 3) := by decide +kernel
theorem dX0_differenceAt_6 : decode cX0_differenceAt 6 = .ok (.aload_n 0, 1) := by decide +kernel
theorem dX0_differenceAt_7 : decode cX0_differenceAt 7 = .ok (.getfield 29, 3) := by decide +kernel
theorem dX0_differenceAt_10 : decode cX0_differenceAt 10 = .ok (.iload_n 2, 1) := by decide +kernel
theorem dX0_differenceAt_11 : decode cX0_differenceAt 11 = .ok (.iaload, 1) := by decide +kernel
theorem dX0_differenceAt_12 : decode cX0_differenceAt 12 = .ok (.ireturn, 1) := by decide +kernel
theorem dX0_fillDifferencesAt_0 : decode cX0_fillDifferencesAt 0 = .ok (.iload_n 2, 1) := by decide +kernel
theorem dX0_fillDifferencesAt_1 : decode cX0_fillDifferencesAt 1 = .ok (.invokestatic 78, 3) := by decide +kernel
theorem dX0_fillDifferencesAt_4 : decode cX0_fillDifferencesAt 4 = .ok (.istore_n 3, 1) := by decide +kernel
theorem dX0_fillDifferencesAt_5 : decode cX0_fillDifferencesAt 5 = .ok (.iconst 0, 1) := by decide +kernel
theorem dX0_fillDifferencesAt_6 : decode cX0_fillDifferencesAt 6 = .ok (.istore 4, 2) := by decide +kernel
theorem dX0_fillDifferencesAt_8 : decode cX0_fillDifferencesAt 8 = .ok (.iload 4, 2) := by decide +kernel
theorem dX0_fillDifferencesAt_10 : decode cX0_fillDifferencesAt 10 = .ok (.bipush 10, 2) := by decide +kernel
theorem dX0_fillDifferencesAt_12 : decode cX0_fillDifferencesAt 12 = .ok (.if_icmp .ge 24, 3) := by decide +kernel
theorem dX0_fillDifferencesAt_15 : decode cX0_fillDifferencesAt 15 = .ok (.aload_n 0, 1) := by decide +kernel
theorem dX0_fillDifferencesAt_16 : decode cX0_fillDifferencesAt 16 = .ok (.getfield 29, 3) := by decide +kernel
theorem dX0_fillDifferencesAt_19 : decode cX0_fillDifferencesAt 19 = .ok (.iload 4, 2) := by decide +kernel
theorem dX0_fillDifferencesAt_21 : decode cX0_fillDifferencesAt 21 = .ok (.aload_n 1, 1) := by decide +kernel
theorem dX0_fillDifferencesAt_22 : decode cX0_fillDifferencesAt 22 = .ok (.iload_n 3, 1) := by decide +kernel
theorem dX0_fillDifferencesAt_23 : decode cX0_fillDifferencesAt 23 = .ok (.iload 4, 2) := by decide +kernel
theorem dX0_fillDifferencesAt_25 : decode cX0_fillDifferencesAt 25 = .ok (.iadd, 1) := by decide +kernel
theorem dX0_fillDifferencesAt_26 : decode cX0_fillDifferencesAt 26 = .ok (.invokevirtual 124, 3) := by decide +kernel
theorem dX0_fillDifferencesAt_29 : decode cX0_fillDifferencesAt 29 = .ok (.iastore, 1) := by decide +kernel
theorem dX0_fillDifferencesAt_30 : decode cX0_fillDifferencesAt 30 = .ok (.iinc 4 1, 3) := by decide +kernel
theorem dX0_fillDifferencesAt_33 : decode cX0_fillDifferencesAt 33 = .ok (.goto (-25), 3) := by decide +kernel
theorem dX0_fillDifferencesAt_36 : decode cX0_fillDifferencesAt 36 = .ok (.aload_n 0, 1) := by decide +kernel
theorem dX0_fillDifferencesAt_37 : decode cX0_fillDifferencesAt 37 = .ok (.invokevirtual 135, 3) := by decide +kernel
theorem dX0_fillDifferencesAt_40 : decode cX0_fillDifferencesAt 40 = .ok (.return_, 1) := by decide +kernel
theorem dX0_valuesToDifferences_0 : decode cX0_valuesToDifferences 0 = .ok (.iconst 1, 1) := by decide +kernel
theorem dX0_valuesToDifferences_1 : decode cX0_valuesToDifferences 1 = .ok (.istore_n 1, 1) := by decide +kernel
theorem dX0_valuesToDifferences_2 : decode cX0_valuesToDifferences 2 = .ok (.iload_n 1, 1) := by decide +kernel
theorem dX0_valuesToDifferences_3 : decode cX0_valuesToDifferences 3 = .ok (.bipush 10, 2) := by decide +kernel
theorem dX0_valuesToDifferences_5 : decode cX0_valuesToDifferences 5 = .ok (.if_icmp .ge 47, 3) := by decide +kernel
theorem dX0_valuesToDifferences_8 : decode cX0_valuesToDifferences 8 = .ok (.bipush 9, 2) := by decide +kernel
theorem dX0_valuesToDifferences_10 : decode cX0_valuesToDifferences 10 = .ok (.istore_n 2, 1) := by decide +kernel
theorem dX0_valuesToDifferences_11 : decode cX0_valuesToDifferences 11 = .ok (.iload_n 2, 1) := by decide +kernel
theorem dX0_valuesToDifferences_12 : decode cX0_valuesToDifferences 12 = .ok (.iload_n 1, 1) := by decide +kernel
theorem dX0_valuesToDifferences_13 : decode cX0_valuesToDifferences 13 = .ok (.if_icmp .lt 33, 3) := by decide +kernel
theorem dX0_valuesToDifferences_16 : decode cX0_valuesToDifferences 16 = .ok (.aload_n 0, 1) := by decide +kernel
theorem dX0_valuesToDifferences_17 : decode cX0_valuesToDifferences 17 = .ok (.getfield 29, 3) := by decide +kernel
theorem dX0_valuesToDifferences_20 : decode cX0_valuesToDifferences 20 = .ok (.iload_n 2, 1) := by decide +kernel
theorem dX0_valuesToDifferences_21 : decode cX0_valuesToDifferences 21 = .ok (.aload_n 0, 1) := by decide +kernel
theorem dX0_valuesToDifferences_22 : decode cX0_valuesToDifferences 22 = .ok (.getfield 29, 3) := by decide +kernel
theorem dX0_valuesToDifferences_25 : decode cX0_valuesToDifferences 25 = .ok (.iload_n 2, 1) := by decide +kernel
theorem dX0_valuesToDifferences_26 : decode cX0_valuesToDifferences 26 = .ok (.iaload, 1) := by decide +kernel
theorem dX0_valuesToDifferences_27 : decode cX0_valuesToDifferences 27 = .ok (.aload_n 0, 1) := by decide +kernel
theorem dX0_valuesToDifferences_28 : decode cX0_valuesToDifferences 28 = .ok (.getfield 29, 3) := by decide +kernel
theorem dX0_valuesToDifferences_31 : decode cX0_valuesToDifferences 31 = .ok (.iload_n 2, 1) := by decide +kernel
theorem dX0_valuesToDifferences_32 : decode cX0_valuesToDifferences 32 = .ok (.iconst 1, 1) := by decide +kernel
theorem dX0_valuesToDifferences_33 : decode cX0_valuesToDifferences 33 = .ok (.isub, 1) := by decide +kernel
theorem dX0_valuesToDifferences_34 : decode cX0_valuesToDifferences 34 = .ok (.iaload, 1) := by decide +kernel
theorem dX0_valuesToDifferences_35 : decode cX0_valuesToDifferences 35 = .ok (.isub, 1) := by decide +kernel
theorem dX0_valuesToDifferences_36 : decode cX0_valuesToDifferences 36 = .ok (.invokestatic 78, 3) := by decide +kernel
theorem dX0_valuesToDifferences_39 : decode cX0_valuesToDifferences 39 = .ok (.iastore, 1) := by decide +kernel
theorem dX0_valuesToDifferences_40 : decode cX0_valuesToDifferences 40 = .ok (.iinc 2 (-1), 3) := by decide +kernel
theorem dX0_valuesToDifferences_43 : decode cX0_valuesToDifferences 43 = .ok (.goto (-32), 3) := by decide +kernel
theorem dX0_valuesToDifferences_46 : decode cX0_valuesToDifferences 46 = .ok (.iinc 1 1, 3) := by decide +kernel
theorem dX0_valuesToDifferences_49 : decode cX0_valuesToDifferences 49 = .ok (.goto (-47), 3) := by decide +kernel
theorem dX0_valuesToDifferences_52 : decode cX0_valuesToDifferences 52 = .ok (.return_, 1) := by decide +kernel
theorem dX0_throughValues_0 : decode cX0_throughValues 0 = .ok (.aload_n 1, 1) := by decide +kernel
theorem dX0_throughValues_1 : decode cX0_throughValues 1 = .ok (.getfield 61, 3) := by decide +kernel
theorem dX0_throughValues_4 : decode cX0_throughValues 4 = .ok (.iconst 0, 1) := by decide +kernel
theorem dX0_throughValues_5 : decode cX0_throughValues 5 = .ok (.aload_n 0, 1) := by decide +kernel
theorem dX0_throughValues_6 : decode cX0_throughValues 6 = .ok (.getfield 29, 3) := by decide +kernel
theorem dX0_throughValues_9 : decode cX0_throughValues 9 = .ok (.iconst 0, 1) := by decide +kernel
theorem dX0_throughValues_10 : decode cX0_throughValues 10 = .ok (.bipush 10, 2) := by decide +kernel
theorem dX0_throughValues_12 : decode cX0_throughValues 12 = .ok (.invokestatic 138, 3) := by decide +kernel
theorem dX0_throughValues_15 : decode cX0_throughValues 15 = .ok (.aload_n 0, 1) := by decide +kernel
theorem dX0_throughValues_16 : decode cX0_throughValues 16 = .ok (.invokevirtual 135, 3) := by decide +kernel
theorem dX0_throughValues_19 : decode cX0_throughValues 19 = .ok (.aload_n 3, 1) := by decide +kernel
theorem dX0_throughValues_20 : decode cX0_throughValues 20 = .ok (.iconst 0, 1) := by decide +kernel
theorem dX0_throughValues_21 : decode cX0_throughValues 21 = .ok (.invokevirtual 51, 3) := by decide +kernel
theorem dX0_throughValues_24 : decode cX0_throughValues 24 = .ok (.iload_n 2, 1) := by decide +kernel
theorem dX0_throughValues_25 : decode cX0_throughValues 25 = .ok (.iconst 1, 1) := by decide +kernel
theorem dX0_throughValues_26 : decode cX0_throughValues 26 = .ok (.isub, 1) := by decide +kernel
theorem dX0_throughValues_27 : decode cX0_throughValues 27 = .ok (.istore 4, 2) := by decide +kernel
theorem dX0_throughValues_29 : decode cX0_throughValues 29 = .ok (.iload 4, 2) := by decide +kernel
theorem dX0_throughValues_31 : decode cX0_throughValues 31 = .ok (.ifCond .lt 55, 3) := by decide +kernel
theorem dX0_throughValues_34 : decode cX0_throughValues 34 = .ok (.aload_n 3, 1) := by decide +kernel
theorem dX0_throughValues_35 : decode cX0_throughValues 35 = .ok (.iload 4, 2) := by decide +kernel
theorem dX0_throughValues_37 : decode cX0_throughValues 37 = .ok (.invokevirtual 144, 3) := by decide +kernel
theorem dX0_throughValues_40 : decode cX0_throughValues 40 = .ok (.aload_n 0, 1) := by decide +kernel
theorem dX0_throughValues_41 : decode cX0_throughValues 41 = .ok (.getfield 29, 3) := by decide +kernel
theorem dX0_throughValues_44 : decode cX0_throughValues 44 = .ok (.iload 4, 2) := by decide +kernel
theorem dX0_throughValues_46 : decode cX0_throughValues 46 = .ok (.iaload, 1) := by decide +kernel
theorem dX0_throughValues_47 : decode cX0_throughValues 47 = .ok (.aload_n 0, 1) := by decide +kernel
theorem dX0_throughValues_48 : decode cX0_throughValues 48 = .ok (.getfield 18, 3) := by decide +kernel
theorem dX0_throughValues_51 : decode cX0_throughValues 51 = .ok (.iload 4, 2) := by decide +kernel
theorem dX0_throughValues_53 : decode cX0_throughValues 53 = .ok (.iaload, 1) := by decide +kernel
theorem dX0_throughValues_54 : decode cX0_throughValues 54 = .ok (.imul, 1) := by decide +kernel
theorem dX0_throughValues_55 : decode cX0_throughValues 55 = .ok (.sipush 10007, 3) := by decide +kernel
theorem dX0_throughValues_58 : decode cX0_throughValues 58 = .ok (.irem, 1) := by decide +kernel
theorem dX0_throughValues_59 : decode cX0_throughValues 59 = .ok (.istore 5, 2) := by decide +kernel
theorem dX0_throughValues_61 : decode cX0_throughValues 61 = .ok (.aload_n 3, 1) := by decide +kernel
theorem dX0_throughValues_62 : decode cX0_throughValues 62 = .ok (.getfield 61, 3) := by decide +kernel
theorem dX0_throughValues_65 : decode cX0_throughValues 65 = .ok (.iconst 0, 1) := by decide +kernel
theorem dX0_throughValues_66 : decode cX0_throughValues 66 = .ok (.aload_n 3, 1) := by decide +kernel
theorem dX0_throughValues_67 : decode cX0_throughValues 67 = .ok (.getfield 61, 3) := by decide +kernel
theorem dX0_throughValues_70 : decode cX0_throughValues 70 = .ok (.iconst 0, 1) := by decide +kernel
theorem dX0_throughValues_71 : decode cX0_throughValues 71 = .ok (.iaload, 1) := by decide +kernel
theorem dX0_throughValues_72 : decode cX0_throughValues 72 = .ok (.iload 5, 2) := by decide +kernel
theorem dX0_throughValues_74 : decode cX0_throughValues 74 = .ok (.iadd, 1) := by decide +kernel
theorem dX0_throughValues_75 : decode cX0_throughValues 75 = .ok (.sipush 10007, 3) := by decide +kernel
theorem dX0_throughValues_78 : decode cX0_throughValues 78 = .ok (.irem, 1) := by decide +kernel
theorem dX0_throughValues_79 : decode cX0_throughValues 79 = .ok (.iastore, 1) := by decide +kernel
theorem dX0_throughValues_80 : decode cX0_throughValues 80 = .ok (.iinc 4 (-1), 3) := by decide +kernel
theorem dX0_throughValues_83 : decode cX0_throughValues 83 = .ok (.goto (-54), 3) := by decide +kernel
theorem dX0_throughValues_86 : decode cX0_throughValues 86 = .ok (.return_, 1) := by decide +kernel
theorem dX1_init_0 : decode cX1_init 0 = .ok (.aload_n 0, 1) := by decide +kernel
theorem dX1_init_1 : decode cX1_init 1 = .ok (.invokespecial 3, 3) := by decide +kernel
theorem dX1_init_4 : decode cX1_init 4 = .ok (.aload_n 0, 1) := by decide +kernel
theorem dX1_init_5 : decode cX1_init 5 = .ok (.bipush 10, 2) := by decide +kernel
theorem dX1_init_7 : decode cX1_init 7 = .ok (.anewarray 9, 3) := by decide +kernel
theorem dX1_init_10 : decode cX1_init 10 = .ok (.putfield 11, 3) := by decide +kernel
theorem dX1_init_13 : decode cX1_init 13 = .ok (.aload_n 0, 1) := by decide +kernel
theorem dX1_init_14 : decode cX1_init 14 = .ok (.iconst 0, 1) := by decide +kernel
theorem dX1_init_15 : decode cX1_init 15 = .ok (.putfield 17, 3) := by decide +kernel
theorem dX1_init_18 : decode cX1_init 18 = .ok (.iconst 0, 1) := by decide +kernel
theorem dX1_init_19 : decode cX1_init 19 = .ok (.istore_n 1, 1) := by decide +kernel
theorem dX1_init_20 : decode cX1_init 20 = .ok (.iload_n 1, 1) := by decide +kernel
theorem dX1_init_21 : decode cX1_init 21 = .ok (.bipush 10, 2) := by decide +kernel
theorem dX1_init_23 : decode cX1_init 23 = .ok (.if_icmp .ge 22, 3) := by decide +kernel
theorem dX1_init_26 : decode cX1_init 26 = .ok (.aload_n 0, 1) := by decide +kernel
theorem dX1_init_27 : decode cX1_init 27 = .ok (.getfield 11, 3) := by decide +kernel
theorem dX1_init_30 : decode cX1_init 30 = .ok (.iload_n 1, 1) := by decide +kernel
theorem dX1_init_31 : decode cX1_init 31 = .ok (.new 9, 3) := by decide +kernel
theorem dX1_init_34 : decode cX1_init 34 = .ok (.dup, 1) := by decide +kernel
theorem dX1_init_35 : decode cX1_init 35 = .ok (.invokespecial 21, 3) := by decide +kernel
theorem dX1_init_38 : decode cX1_init 38 = .ok (.aastore, 1) := by decide +kernel
theorem dX1_init_39 : decode cX1_init 39 = .ok (.iinc 1 1, 3) := by decide +kernel
theorem dX1_init_42 : decode cX1_init 42 = .ok (.goto (-22), 3) := by decide +kernel
theorem dX1_init_45 : decode cX1_init 45 = .ok (.return_, 1) := by decide +kernel
theorem dX2_of_0 : decode cX2_of 0 = .ok (.iload_n 0, 1) := by decide +kernel
theorem dX2_of_1 : decode cX2_of 1 = .ok (.sipush 10007, 3) := by decide +kernel
theorem dX2_of_4 : decode cX2_of 4 = .ok (.invokestatic 9, 3) := by decide +kernel
theorem dX2_of_7 : decode cX2_of 7 = .ok (.ireturn, 1) := by decide +kernel
theorem dX2_inverse_0 : decode cX2_inverse 0 = .ok (.iconst 1, 1) := by decide +kernel
theorem dX2_inverse_1 : decode cX2_inverse 1 = .ok (.istore_n 1, 1) := by decide +kernel
theorem dX2_inverse_2 : decode cX2_inverse 2 = .ok (.bipush 13, 2) := by decide +kernel
theorem dX2_inverse_4 : decode cX2_inverse 4 = .ok (.istore_n 2, 1) := by decide +kernel
theorem dX2_inverse_5 : decode cX2_inverse 5 = .ok (.iload_n 2, 1) := by decide +kernel
theorem dX2_inverse_6 : decode cX2_inverse 6 = .ok (.ifCond .lt 35, 3) := by decide +kernel
theorem dX2_inverse_9 : decode cX2_inverse 9 = .ok (.iload_n 1, 1) := by decide +kernel
theorem dX2_inverse_10 : decode cX2_inverse 10 = .ok (.iload_n 1, 1) := by decide +kernel
theorem dX2_inverse_11 : decode cX2_inverse 11 = .ok (.imul, 1) := by decide +kernel
theorem dX2_inverse_12 : decode cX2_inverse 12 = .ok (.sipush 10007, 3) := by decide +kernel
theorem dX2_inverse_15 : decode cX2_inverse 15 = .ok (.irem, 1) := by decide +kernel
theorem dX2_inverse_16 : decode cX2_inverse 16 = .ok (.istore_n 1, 1) := by decide +kernel
theorem dX2_inverse_17 : decode cX2_inverse 17 = .ok (.sipush 10005, 3) := by decide +kernel
theorem dX2_inverse_20 : decode cX2_inverse 20 = .ok (.iload_n 2, 1) := by decide +kernel
theorem dX2_inverse_21 : decode cX2_inverse 21 = .ok (.ishr, 1) := by decide +kernel
theorem dX2_inverse_22 : decode cX2_inverse 22 = .ok (.iconst 1, 1) := by decide +kernel
theorem dX2_inverse_23 : decode cX2_inverse 23 = .ok (.iand, 1) := by decide +kernel
theorem dX2_inverse_24 : decode cX2_inverse 24 = .ok (.ifCond .eq 11, 3) := by decide +kernel
theorem dX2_inverse_27 : decode cX2_inverse 27 = .ok (.iload_n 1, 1) := by decide +kernel
theorem dX2_inverse_28 : decode cX2_inverse 28 = .ok (.iload_n 0, 1) := by decide +kernel
theorem dX2_inverse_29 : decode cX2_inverse 29 = .ok (.imul, 1) := by decide +kernel
theorem dX2_inverse_30 : decode cX2_inverse 30 = .ok (.sipush 10007, 3) := by decide +kernel
theorem dX2_inverse_33 : decode cX2_inverse 33 = .ok (.irem, 1) := by decide +kernel
theorem dX2_inverse_34 : decode cX2_inverse 34 = .ok (.istore_n 1, 1) := by decide +kernel
theorem dX2_inverse_35 : decode cX2_inverse 35 = .ok (.iinc 2 (-1), 3) := by decide +kernel
theorem dX2_inverse_38 : decode cX2_inverse 38 = .ok (.goto (-33), 3) := by decide +kernel
theorem dX2_inverse_41 : decode cX2_inverse 41 = .ok (.iload_n 1, 1) := by decide +kernel
theorem dX2_inverse_42 : decode cX2_inverse 42 = .ok (.ireturn, 1) := by decide +kernel
theorem dX3_init_0 : decode cX3_init 0 = .ok (.aload_n 0, 1) := by decide +kernel
theorem dX3_init_1 : decode cX3_init 1 = .ok (.invokespecial 3, 3) := by decide +kernel
theorem dX3_init_4 : decode cX3_init 4 = .ok (.aload_n 0, 1) := by decide +kernel
theorem dX3_init_5 : decode cX3_init 5 = .ok (.bipush 10, 2) := by decide +kernel
theorem dX3_init_7 : decode cX3_init 7 = .ok (.newarray .int, 2) := by decide +kernel
theorem dX3_init_9 : decode cX3_init 9 = .ok (.putfield 9, 3) := by decide +kernel
theorem dX3_init_12 : decode cX3_init 12 = .ok (.return_, 1) := by decide +kernel
theorem dX3_canDivide_0 : decode cX3_canDivide 0 = .ok (.aload_n 0, 1) := by decide +kernel
theorem dX3_canDivide_1 : decode cX3_canDivide 1 = .ok (.getfield 9, 3) := by decide +kernel
theorem dX3_canDivide_4 : decode cX3_canDivide 4 = .ok (.iconst 0, 1) := by decide +kernel
theorem dX3_canDivide_5 : decode cX3_canDivide 5 = .ok (.iaload, 1) := by decide +kernel
theorem dX3_canDivide_6 : decode cX3_canDivide 6 = .ok (.ifCond .eq 7, 3) := by decide +kernel
theorem dX3_canDivide_9 : decode cX3_canDivide 9 = .ok (.iconst 1, 1) := by decide +kernel
theorem dX3_canDivide_10 : decode cX3_canDivide 10 = .ok (.goto 4, 3) := by decide +kernel
theorem dX3_canDivide_13 : decode cX3_canDivide 13 = .ok (.iconst 0, 1) := by decide +kernel
theorem dX3_canDivide_14 : decode cX3_canDivide 14 = .ok (.ireturn, 1) := by decide +kernel
theorem dX3_canBePutIn_0 : decode cX3_canBePutIn 0 = .ok (.aload_n 0, 1) := by decide +kernel
theorem dX3_canBePutIn_1 : decode cX3_canBePutIn 1 = .ok (.getfield 9, 3) := by decide +kernel
theorem dX3_canBePutIn_4 : decode cX3_canBePutIn 4 = .ok (.iconst 0, 1) := by decide +kernel
theorem dX3_canBePutIn_5 : decode cX3_canBePutIn 5 = .ok (.iaload, 1) := by decide +kernel
theorem dX3_canBePutIn_6 : decode cX3_canBePutIn 6 = .ok (.ifCond .ne 7, 3) := by decide +kernel
theorem dX3_canBePutIn_9 : decode cX3_canBePutIn 9 = .ok (.iconst 1, 1) := by decide +kernel
theorem dX3_canBePutIn_10 : decode cX3_canBePutIn 10 = .ok (.goto 4, 3) := by decide +kernel
theorem dX3_canBePutIn_13 : decode cX3_canBePutIn 13 = .ok (.iconst 0, 1) := by decide +kernel
theorem dX3_canBePutIn_14 : decode cX3_canBePutIn 14 = .ok (.ireturn, 1) := by decide +kernel
theorem dX3_canTurn_0 : decode cX3_canTurn 0 = .ok (.aload_n 0, 1) := by decide +kernel
theorem dX3_canTurn_1 : decode cX3_canTurn 1 = .ok (.getfield 9, 3) := by decide +kernel
theorem dX3_canTurn_4 : decode cX3_canTurn 4 = .ok (.iconst 0, 1) := by decide +kernel
theorem dX3_canTurn_5 : decode cX3_canTurn 5 = .ok (.iaload, 1) := by decide +kernel
theorem dX3_canTurn_6 : decode cX3_canTurn 6 = .ok (.ifCond .ne 16, 3) := by decide +kernel
theorem dX3_canTurn_9 : decode cX3_canTurn 9 = .ok (.aload_n 0, 1) := by decide +kernel
theorem dX3_canTurn_10 : decode cX3_canTurn 10 = .ok (.getfield 9, 3) := by decide +kernel
theorem dX3_canTurn_13 : decode cX3_canTurn 13 = .ok (.iconst 1, 1) := by decide +kernel
theorem dX3_canTurn_14 : decode cX3_canTurn 14 = .ok (.iaload, 1) := by decide +kernel
theorem dX3_canTurn_15 : decode cX3_canTurn 15 = .ok (.ifCond .eq 7, 3) := by decide +kernel
theorem dX3_canTurn_18 : decode cX3_canTurn 18 = .ok (.iconst 1, 1) := by decide +kernel
theorem dX3_canTurn_19 : decode cX3_canTurn 19 = .ok (.goto 4, 3) := by decide +kernel
theorem dX3_canTurn_22 : decode cX3_canTurn 22 = .ok (.iconst 0, 1) := by decide +kernel
theorem dX3_canTurn_23 : decode cX3_canTurn 23 = .ok (.ireturn, 1) := by decide +kernel
theorem dX3_becomeConstant_0 : decode cX3_becomeConstant 0 = .ok (.aload_n 0, 1) := by decide +kernel
theorem dX3_becomeConstant_1 : decode cX3_becomeConstant 1 = .ok (.getfield 9, 3) := by decide +kernel
theorem dX3_becomeConstant_4 : decode cX3_becomeConstant 4 = .ok (.iconst 0, 1) := by decide +kernel
theorem dX3_becomeConstant_5 : decode cX3_becomeConstant 5 = .ok (.invokestatic 15, 3) := by decide +kernel
theorem dX3_becomeConstant_8 : decode cX3_becomeConstant 8 = .ok (.aload_n 0, 1) := by decide +kernel
theorem dX3_becomeConstant_9 : decode cX3_becomeConstant 9 = .ok (.getfield 9, 3) := by decide +kernel
theorem dX3_becomeConstant_12 : decode cX3_becomeConstant 12 = .ok (.iconst 0, 1) := by decide +kernel
theorem dX3_becomeConstant_13 : decode cX3_becomeConstant 13 = .ok (.iload_n 1, 1) := by decide +kernel
theorem dX3_becomeConstant_14 : decode cX3_becomeConstant 14 = .ok (.iastore, 1) := by decide +kernel
theorem dX3_becomeConstant_15 : decode cX3_becomeConstant 15 = .ok (.return_, 1) := by decide +kernel
theorem dX3_becomeCopyOf_0 : decode cX3_becomeCopyOf 0 = .ok (.aload_n 1, 1) := by decide +kernel
theorem dX3_becomeCopyOf_1 : decode cX3_becomeCopyOf 1 = .ok (.getfield 9, 3) := by decide +kernel
theorem dX3_becomeCopyOf_4 : decode cX3_becomeCopyOf 4 = .ok (.iconst 0, 1) := by decide +kernel
theorem dX3_becomeCopyOf_5 : decode cX3_becomeCopyOf 5 = .ok (.aload_n 0, 1) := by decide +kernel
theorem dX3_becomeCopyOf_6 : decode cX3_becomeCopyOf 6 = .ok (.getfield 9, 3) := by decide +kernel
theorem dX3_becomeCopyOf_9 : decode cX3_becomeCopyOf 9 = .ok (.iconst 0, 1) := by decide +kernel
theorem dX3_becomeCopyOf_10 : decode cX3_becomeCopyOf 10 = .ok (.bipush 10, 2) := by decide +kernel
theorem dX3_becomeCopyOf_12 : decode cX3_becomeCopyOf 12 = .ok (.invokestatic 21, 3) := by decide +kernel
theorem dX3_becomeCopyOf_15 : decode cX3_becomeCopyOf 15 = .ok (.return_, 1) := by decide +kernel
theorem dX3_becomeTotal_0 : decode cX3_becomeTotal 0 = .ok (.iconst 0, 1) := by decide +kernel
theorem dX3_becomeTotal_1 : decode cX3_becomeTotal 1 = .ok (.istore_n 3, 1) := by decide +kernel
theorem dX3_becomeTotal_2 : decode cX3_becomeTotal 2 = .ok (.iload_n 3, 1) := by decide +kernel
theorem dX3_becomeTotal_3 : decode cX3_becomeTotal 3 = .ok (.bipush 10, 2) := by decide +kernel
theorem dX3_becomeTotal_5 : decode cX3_becomeTotal 5 = .ok (.if_icmp .ge 32, 3) := by decide +kernel
theorem dX3_becomeTotal_8 : decode cX3_becomeTotal 8 = .ok (.aload_n 0, 1) := by decide +kernel
theorem dX3_becomeTotal_9 : decode cX3_becomeTotal 9 = .ok (.getfield 9, 3) := by decide +kernel
theorem dX3_becomeTotal_12 : decode cX3_becomeTotal 12 = .ok (.iload_n 3, 1) := by decide +kernel
theorem dX3_becomeTotal_13 : decode cX3_becomeTotal 13 = .ok (.aload_n 1, 1) := by decide +kernel
theorem dX3_becomeTotal_14 : decode cX3_becomeTotal 14 = .ok (.getfield 9, 3) := by decide +kernel
theorem dX3_becomeTotal_17 : decode cX3_becomeTotal 17 = .ok (.iload_n 3, 1) := by decide +kernel
theorem dX3_becomeTotal_18 : decode cX3_becomeTotal 18 = .ok (.iaload, 1) := by decide +kernel
theorem dX3_becomeTotal_19 : decode cX3_becomeTotal 19 = .ok (.aload_n 2, 1) := by decide +kernel
theorem dX3_becomeTotal_20 : decode cX3_becomeTotal 20 = .ok (.getfield 9, 3) := by decide +kernel
theorem dX3_becomeTotal_23 : decode cX3_becomeTotal 23 = .ok (.iload_n 3, 1) := by decide +kernel
theorem dX3_becomeTotal_24 : decode cX3_becomeTotal 24 = .ok (.iaload, 1) := by decide +kernel
theorem dX3_becomeTotal_25 : decode cX3_becomeTotal 25 = .ok (.iadd, 1) := by decide +kernel
theorem dX3_becomeTotal_26 : decode cX3_becomeTotal 26 = .ok (.sipush 10007, 3) := by decide +kernel
theorem dX3_becomeTotal_29 : decode cX3_becomeTotal 29 = .ok (.irem, 1) := by decide +kernel
theorem dX3_becomeTotal_30 : decode cX3_becomeTotal 30 = .ok (.iastore, 1) := by decide +kernel
theorem dX3_becomeTotal_31 : decode cX3_becomeTotal 31 = .ok (.iinc 3 1, 3) := by decide +kernel
theorem dX3_becomeTotal_34 : decode cX3_becomeTotal 34 = .ok (.goto (-32), 3) := by decide +kernel
theorem dX3_becomeTotal_37 : decode cX3_becomeTotal 37 = .ok (.return_, 1) := by decide +kernel
theorem dX3_becomeRest_0 : decode cX3_becomeRest 0 = .ok (.iconst 0, 1) := by decide +kernel
theorem dX3_becomeRest_1 : decode cX3_becomeRest 1 = .ok (.istore_n 3, 1) := by decide +kernel
theorem dX3_becomeRest_2 : decode cX3_becomeRest 2 = .ok (.iload_n 3, 1) := by decide +kernel
theorem dX3_becomeRest_3 : decode cX3_becomeRest 3 = .ok (.bipush 10, 2) := by decide +kernel
theorem dX3_becomeRest_5 : decode cX3_becomeRest 5 = .ok (.if_icmp .ge 31, 3) := by decide +kernel
theorem dX3_becomeRest_8 : decode cX3_becomeRest 8 = .ok (.aload_n 0, 1) := by decide +kernel
theorem dX3_becomeRest_9 : decode cX3_becomeRest 9 = .ok (.getfield 9, 3) := by decide +kernel
theorem dX3_becomeRest_12 : decode cX3_becomeRest 12 = .ok (.iload_n 3, 1) := by decide +kernel
theorem dX3_becomeRest_13 : decode cX3_becomeRest 13 = .ok (.aload_n 1, 1) := by decide +kernel
theorem dX3_becomeRest_14 : decode cX3_becomeRest 14 = .ok (.getfield 9, 3) := by decide +kernel
theorem dX3_becomeRest_17 : decode cX3_becomeRest 17 = .ok (.iload_n 3, 1) := by decide +kernel
theorem dX3_becomeRest_18 : decode cX3_becomeRest 18 = .ok (.iaload, 1) := by decide +kernel
theorem dX3_becomeRest_19 : decode cX3_becomeRest 19 = .ok (.aload_n 2, 1) := by decide +kernel
theorem dX3_becomeRest_20 : decode cX3_becomeRest 20 = .ok (.getfield 9, 3) := by decide +kernel
theorem dX3_becomeRest_23 : decode cX3_becomeRest 23 = .ok (.iload_n 3, 1) := by decide +kernel
theorem dX3_becomeRest_24 : decode cX3_becomeRest 24 = .ok (.iaload, 1) := by decide +kernel
theorem dX3_becomeRest_25 : decode cX3_becomeRest 25 = .ok (.isub, 1) := by decide +kernel
theorem dX3_becomeRest_26 : decode cX3_becomeRest 26 = .ok (.invokestatic 27, 3) := by decide +kernel
theorem dX3_becomeRest_29 : decode cX3_becomeRest 29 = .ok (.iastore, 1) := by decide +kernel
theorem dX3_becomeRest_30 : decode cX3_becomeRest 30 = .ok (.iinc 3 1, 3) := by decide +kernel
theorem dX3_becomeRest_33 : decode cX3_becomeRest 33 = .ok (.goto (-31), 3) := by decide +kernel
theorem dX3_becomeRest_36 : decode cX3_becomeRest 36 = .ok (.return_, 1) := by decide +kernel
theorem dX3_becomeTimes_0 : decode cX3_becomeTimes 0 = .ok (.bipush 9, 2) := by decide +kernel
theorem dX3_becomeTimes_2 : decode cX3_becomeTimes 2 = .ok (.istore_n 3, 1) := by decide +kernel
theorem dX3_becomeTimes_3 : decode cX3_becomeTimes 3 = .ok (.iload_n 3, 1) := by decide +kernel
theorem dX3_becomeTimes_4 : decode cX3_becomeTimes 4 = .ok (.ifCond .lt 61, 3) := by decide +kernel
theorem dX3_becomeTimes_7 : decode cX3_becomeTimes 7 = .ok (.iconst 0, 1) := by decide +kernel
theorem dX3_becomeTimes_8 : decode cX3_becomeTimes 8 = .ok (.istore 4, 2) := by decide +kernel
theorem dX3_becomeTimes_10 : decode cX3_becomeTimes 10 = .ok (.iconst 0, 1) := by decide +kernel
theorem dX3_becomeTimes_11 : decode cX3_becomeTimes 11 = .ok (.istore 5, 2) := by decide +kernel
theorem dX3_becomeTimes_13 : decode cX3_becomeTimes 13 = .ok (.iload 5, 2) := by decide +kernel
theorem dX3_becomeTimes_15 : decode cX3_becomeTimes 15 = .ok (.iload_n 3, 1) := by decide +kernel
theorem dX3_becomeTimes_16 : decode cX3_becomeTimes 16 = .ok (.if_icmp .gt 31, 3) := by decide +kernel
theorem dX3_becomeTimes_19 : decode cX3_becomeTimes 19 = .ok (.iload 4, 2) := by decide +kernel
theorem dX3_becomeTimes_21 : decode cX3_becomeTimes 21 = .ok (.aload_n 1, 1) := by decide +kernel
theorem dX3_becomeTimes_22 : decode cX3_becomeTimes 22 = .ok (.getfield 9, 3) := by decide +kernel
theorem dX3_becomeTimes_25 : decode cX3_becomeTimes 25 = .ok (.iload 5, 2) := by decide +kernel
theorem dX3_becomeTimes_27 : decode cX3_becomeTimes 27 = .ok (.iaload, 1) := by decide +kernel
theorem dX3_becomeTimes_28 : decode cX3_becomeTimes 28 = .ok (.aload_n 2, 1) := by decide +kernel
theorem dX3_becomeTimes_29 : decode cX3_becomeTimes 29 = .ok (.getfield 9, 3) := by decide +kernel
theorem dX3_becomeTimes_32 : decode cX3_becomeTimes 32 = .ok (.iload_n 3, 1) := by decide +kernel
theorem dX3_becomeTimes_33 : decode cX3_becomeTimes 33 = .ok (.iload 5, 2) := by decide +kernel
theorem dX3_becomeTimes_35 : decode cX3_becomeTimes 35 = .ok (.isub, 1) := by decide +kernel
theorem dX3_becomeTimes_36 : decode cX3_becomeTimes 36 = .ok (.iaload, 1) := by decide +kernel
theorem dX3_becomeTimes_37 : decode cX3_becomeTimes 37 = .ok (.imul, 1) := by decide +kernel
theorem dX3_becomeTimes_38 : decode cX3_becomeTimes 38 = .ok (.iadd, 1) := by decide +kernel
theorem dX3_becomeTimes_39 : decode cX3_becomeTimes 39 = .ok (.istore 4, 2) := by decide +kernel
theorem dX3_becomeTimes_41 : decode cX3_becomeTimes 41 = .ok (.iinc 5 1, 3) := by decide +kernel
theorem dX3_becomeTimes_44 : decode cX3_becomeTimes 44 = .ok (.goto (-31), 3) := by decide +kernel
theorem dX3_becomeTimes_47 : decode cX3_becomeTimes 47 = .ok (.aload_n 0, 1) := by decide +kernel
theorem dX3_becomeTimes_48 : decode cX3_becomeTimes 48 = .ok (.getfield 9, 3) := by decide +kernel
theorem dX3_becomeTimes_51 : decode cX3_becomeTimes 51 = .ok (.iload_n 3, 1) := by decide +kernel
theorem dX3_becomeTimes_52 : decode cX3_becomeTimes 52 = .ok (.iload 4, 2) := by decide +kernel
theorem dX3_becomeTimes_54 : decode cX3_becomeTimes 54 = .ok (.sipush 10007, 3) := by decide +kernel
theorem dX3_becomeTimes_57 : decode cX3_becomeTimes 57 = .ok (.irem, 1) := by decide +kernel
theorem dX3_becomeTimes_58 : decode cX3_becomeTimes 58 = .ok (.iastore, 1) := by decide +kernel
theorem dX3_becomeTimes_59 : decode cX3_becomeTimes 59 = .ok (.iinc 3 (-1), 3) := by decide +kernel
theorem dX3_becomeTimes_62 : decode cX3_becomeTimes 62 = .ok (.goto (-59), 3) := by decide +kernel
theorem dX3_becomeTimes_65 : decode cX3_becomeTimes 65 = .ok (.return_, 1) := by decide +kernel
theorem dX3_becomeQuotient_0 : decode cX3_becomeQuotient 0 = .ok (.aload_n 2, 1) := by decide +kernel
theorem dX3_becomeQuotient_1 : decode cX3_becomeQuotient 1 = .ok (.getfield 9, 3) := by decide +kernel
theorem dX3_becomeQuotient_4 : decode cX3_becomeQuotient 4 = .ok (.iconst 0, 1) := by decide +kernel
theorem dX3_becomeQuotient_5 : decode cX3_becomeQuotient 5 = .ok (.iaload, 1) := by decide +kernel
theorem dX3_becomeQuotient_6 : decode cX3_becomeQuotient 6 = .ok (.invokestatic 33, 3) := by decide +kernel
theorem dX3_becomeQuotient_9 : decode cX3_becomeQuotient 9 = .ok (.istore_n 3, 1) := by decide +kernel
theorem dX3_becomeQuotient_10 : decode cX3_becomeQuotient 10 = .ok (.iconst 0, 1) := by decide +kernel
theorem dX3_becomeQuotient_11 : decode cX3_becomeQuotient 11 = .ok (.istore 4, 2) := by decide +kernel
theorem dX3_becomeQuotient_13 : decode cX3_becomeQuotient 13 = .ok (.iload 4, 2) := by decide +kernel
theorem dX3_becomeQuotient_15 : decode cX3_becomeQuotient 15 = .ok (.bipush 10, 2) := by decide +kernel
theorem dX3_becomeQuotient_17 : decode cX3_becomeQuotient 17 = .ok (.if_icmp .ge 77, 3) := by decide +kernel
theorem dX3_becomeQuotient_20 : decode cX3_becomeQuotient 20 = .ok (.iconst 0, 1) := by decide +kernel
theorem dX3_becomeQuotient_21 : decode cX3_becomeQuotient 21 = .ok (.istore 5, 2) := by decide +kernel
theorem dX3_becomeQuotient_23 : decode cX3_becomeQuotient 23 = .ok (.iconst 1, 1) := by decide +kernel
theorem dX3_becomeQuotient_24 : decode cX3_becomeQuotient 24 = .ok (.istore 6, 2) := by decide +kernel
theorem dX3_becomeQuotient_26 : decode cX3_becomeQuotient 26 = .ok (.iload 6, 2) := by decide +kernel
theorem dX3_becomeQuotient_28 : decode cX3_becomeQuotient 28 = .ok (.iload 4, 2) := by decide +kernel
theorem dX3_becomeQuotient_30 : decode cX3_becomeQuotient 30 = .ok (.if_icmp .gt 32, 3) := by decide +kernel
theorem dX3_becomeQuotient_33 : decode cX3_becomeQuotient 33 = .ok (.iload 5, 2) := by decide +kernel
theorem dX3_becomeQuotient_35 : decode cX3_becomeQuotient 35 = .ok (.aload_n 2, 1) := by decide +kernel
theorem dX3_becomeQuotient_36 : decode cX3_becomeQuotient 36 = .ok (.getfield 9, 3) := by decide +kernel
theorem dX3_becomeQuotient_39 : decode cX3_becomeQuotient 39 = .ok (.iload 6, 2) := by decide +kernel
theorem dX3_becomeQuotient_41 : decode cX3_becomeQuotient 41 = .ok (.iaload, 1) := by decide +kernel
theorem dX3_becomeQuotient_42 : decode cX3_becomeQuotient 42 = .ok (.aload_n 0, 1) := by decide +kernel
theorem dX3_becomeQuotient_43 : decode cX3_becomeQuotient 43 = .ok (.getfield 9, 3) := by decide +kernel
theorem dX3_becomeQuotient_46 : decode cX3_becomeQuotient 46 = .ok (.iload 4, 2) := by decide +kernel
theorem dX3_becomeQuotient_48 : decode cX3_becomeQuotient 48 = .ok (.iload 6, 2) := by decide +kernel
theorem dX3_becomeQuotient_50 : decode cX3_becomeQuotient 50 = .ok (.isub, 1) := by decide +kernel
theorem dX3_becomeQuotient_51 : decode cX3_becomeQuotient 51 = .ok (.iaload, 1) := by decide +kernel
theorem dX3_becomeQuotient_52 : decode cX3_becomeQuotient 52 = .ok (.imul, 1) := by decide +kernel
theorem dX3_becomeQuotient_53 : decode cX3_becomeQuotient 53 = .ok (.iadd, 1) := by decide +kernel
theorem dX3_becomeQuotient_54 : decode cX3_becomeQuotient 54 = .ok (.istore 5, 2) := by decide +kernel
theorem dX3_becomeQuotient_56 : decode cX3_becomeQuotient 56 = .ok (.iinc 6 1, 3) := by decide +kernel
theorem dX3_becomeQuotient_59 : decode cX3_becomeQuotient 59 = .ok (.goto (-33), 3) := by decide +kernel
theorem dX3_becomeQuotient_62 : decode cX3_becomeQuotient 62 = .ok (.aload_n 0, 1) := by decide +kernel
theorem dX3_becomeQuotient_63 : decode cX3_becomeQuotient 63 = .ok (.getfield 9, 3) := by decide +kernel
theorem dX3_becomeQuotient_66 : decode cX3_becomeQuotient 66 = .ok (.iload 4, 2) := by decide +kernel
theorem dX3_becomeQuotient_68 : decode cX3_becomeQuotient 68 = .ok (.aload_n 1, 1) := by decide +kernel
theorem dX3_becomeQuotient_69 : decode cX3_becomeQuotient 69 = .ok (.getfield 9, 3) := by decide +kernel
theorem dX3_becomeQuotient_72 : decode cX3_becomeQuotient 72 = .ok (.iload 4, 2) := by decide +kernel
theorem dX3_becomeQuotient_74 : decode cX3_becomeQuotient 74 = .ok (.iaload, 1) := by decide +kernel
theorem dX3_becomeQuotient_75 : decode cX3_becomeQuotient 75 = .ok (.iload 5, 2) := by decide +kernel
theorem dX3_becomeQuotient_77 : decode cX3_becomeQuotient 77 = .ok (.isub, 1) := by decide +kernel
theorem dX3_becomeQuotient_78 : decode cX3_becomeQuotient 78 = .ok (.invokestatic 27, 3) := by decide +kernel
theorem dX3_becomeQuotient_81 : decode cX3_becomeQuotient 81 = .ok (.iload_n 3, 1) := by decide +kernel
theorem dX3_becomeQuotient_82 : decode cX3_becomeQuotient 82 = .ok (.imul, 1) := by decide +kernel
theorem dX3_becomeQuotient_83 : decode cX3_becomeQuotient 83 = .ok (.sipush 10007, 3) := by decide +kernel
theorem dX3_becomeQuotient_86 : decode cX3_becomeQuotient 86 = .ok (.irem, 1) := by decide +kernel
theorem dX3_becomeQuotient_87 : decode cX3_becomeQuotient 87 = .ok (.iastore, 1) := by decide +kernel
theorem dX3_becomeQuotient_88 : decode cX3_becomeQuotient 88 = .ok (.iinc 4 1, 3) := by decide +kernel
theorem dX3_becomeQuotient_91 : decode cX3_becomeQuotient 91 = .ok (.goto (-78), 3) := by decide +kernel
theorem dX3_becomeQuotient_94 : decode cX3_becomeQuotient 94 = .ok (.return_, 1) := by decide +kernel
theorem dX3_becomeInto_0 : decode cX3_becomeInto 0 = .ok (.aload_n 0, 1) := by decide +kernel
theorem dX3_becomeInto_1 : decode cX3_becomeInto 1 = .ok (.aload_n 1, 1) := by decide +kernel
theorem dX3_becomeInto_2 : decode cX3_becomeInto 2 = .ok (.getfield 9, 3) := by decide +kernel
theorem dX3_becomeInto_5 : decode cX3_becomeInto 5 = .ok (.bipush 9, 2) := by decide +kernel
theorem dX3_becomeInto_7 : decode cX3_becomeInto 7 = .ok (.iaload, 1) := by decide +kernel
theorem dX3_becomeInto_8 : decode cX3_becomeInto 8 = .ok (.invokevirtual 36, 3) := by decide +kernel
theorem dX3_becomeInto_11 : decode cX3_becomeInto 11 = .ok (.bipush 8, 2) := by decide +kernel
theorem dX3_becomeInto_13 : decode cX3_becomeInto 13 = .ok (.istore_n 3, 1) := by decide +kernel
theorem dX3_becomeInto_14 : decode cX3_becomeInto 14 = .ok (.iload_n 3, 1) := by decide +kernel
theorem dX3_becomeInto_15 : decode cX3_becomeInto 15 = .ok (.ifCond .lt 38, 3) := by decide +kernel
theorem dX3_becomeInto_18 : decode cX3_becomeInto 18 = .ok (.aload_n 0, 1) := by decide +kernel
theorem dX3_becomeInto_19 : decode cX3_becomeInto 19 = .ok (.aload_n 0, 1) := by decide +kernel
theorem dX3_becomeInto_20 : decode cX3_becomeInto 20 = .ok (.aload_n 2, 1) := by decide +kernel
theorem dX3_becomeInto_21 : decode cX3_becomeInto 21 = .ok (.invokevirtual 40, 3) := by decide +kernel
theorem dX3_becomeInto_24 : decode cX3_becomeInto 24 = .ok (.aload_n 0, 1) := by decide +kernel
theorem dX3_becomeInto_25 : decode cX3_becomeInto 25 = .ok (.getfield 9, 3) := by decide +kernel
theorem dX3_becomeInto_28 : decode cX3_becomeInto 28 = .ok (.iconst 0, 1) := by decide +kernel
theorem dX3_becomeInto_29 : decode cX3_becomeInto 29 = .ok (.aload_n 0, 1) := by decide +kernel
theorem dX3_becomeInto_30 : decode cX3_becomeInto 30 = .ok (.getfield 9, 3) := by decide +kernel
theorem dX3_becomeInto_33 : decode cX3_becomeInto 33 = .ok (.iconst 0, 1) := by decide +kernel
theorem dX3_becomeInto_34 : decode cX3_becomeInto 34 = .ok (.iaload, 1) := by decide +kernel
theorem dX3_becomeInto_35 : decode cX3_becomeInto 35 = .ok (.aload_n 1, 1) := by decide +kernel
theorem dX3_becomeInto_36 : decode cX3_becomeInto 36 = .ok (.getfield 9, 3) := by decide +kernel
theorem dX3_becomeInto_39 : decode cX3_becomeInto 39 = .ok (.iload_n 3, 1) := by decide +kernel
theorem dX3_becomeInto_40 : decode cX3_becomeInto 40 = .ok (.iaload, 1) := by decide +kernel
theorem dX3_becomeInto_41 : decode cX3_becomeInto 41 = .ok (.iadd, 1) := by decide +kernel
theorem dX3_becomeInto_42 : decode cX3_becomeInto 42 = .ok (.sipush 10007, 3) := by decide +kernel
theorem dX3_becomeInto_45 : decode cX3_becomeInto 45 = .ok (.irem, 1) := by decide +kernel
theorem dX3_becomeInto_46 : decode cX3_becomeInto 46 = .ok (.iastore, 1) := by decide +kernel
theorem dX3_becomeInto_47 : decode cX3_becomeInto 47 = .ok (.iinc 3 (-1), 3) := by decide +kernel
theorem dX3_becomeInto_50 : decode cX3_becomeInto 50 = .ok (.goto (-36), 3) := by decide +kernel
theorem dX3_becomeInto_53 : decode cX3_becomeInto 53 = .ok (.return_, 1) := by decide +kernel
theorem dX3_becomeRaised_0 : decode cX3_becomeRaised 0 = .ok (.aload_n 0, 1) := by decide +kernel
theorem dX3_becomeRaised_1 : decode cX3_becomeRaised 1 = .ok (.iconst 1, 1) := by decide +kernel
theorem dX3_becomeRaised_2 : decode cX3_becomeRaised 2 = .ok (.invokevirtual 36, 3) := by decide +kernel
theorem dX3_becomeRaised_5 : decode cX3_becomeRaised 5 = .ok (.bipush 9, 2) := by decide +kernel
theorem dX3_becomeRaised_7 : decode cX3_becomeRaised 7 = .ok (.istore_n 3, 1) := by decide +kernel
theorem dX3_becomeRaised_8 : decode cX3_becomeRaised 8 = .ok (.iload_n 3, 1) := by decide +kernel
theorem dX3_becomeRaised_9 : decode cX3_becomeRaised 9 = .ok (.ifCond .lt 29, 3) := by decide +kernel
theorem dX3_becomeRaised_12 : decode cX3_becomeRaised 12 = .ok (.aload_n 0, 1) := by decide +kernel
theorem dX3_becomeRaised_13 : decode cX3_becomeRaised 13 = .ok (.aload_n 0, 1) := by decide +kernel
theorem dX3_becomeRaised_14 : decode cX3_becomeRaised 14 = .ok (.aload_n 0, 1) := by decide +kernel
theorem dX3_becomeRaised_15 : decode cX3_becomeRaised 15 = .ok (.invokevirtual 40, 3) := by decide +kernel
theorem dX3_becomeRaised_18 : decode cX3_becomeRaised 18 = .ok (.iload_n 2, 1) := by decide +kernel
theorem dX3_becomeRaised_19 : decode cX3_becomeRaised 19 = .ok (.iload_n 3, 1) := by decide +kernel
theorem dX3_becomeRaised_20 : decode cX3_becomeRaised 20 = .ok (.ishr, 1) := by decide +kernel
theorem dX3_becomeRaised_21 : decode cX3_becomeRaised 21 = .ok (.iconst 1, 1) := by decide +kernel
theorem dX3_becomeRaised_22 : decode cX3_becomeRaised 22 = .ok (.iand, 1) := by decide +kernel
theorem dX3_becomeRaised_23 : decode cX3_becomeRaised 23 = .ok (.ifCond .eq 9, 3) := by decide +kernel
theorem dX3_becomeRaised_26 : decode cX3_becomeRaised 26 = .ok (.aload_n 0, 1) := by decide +kernel
theorem dX3_becomeRaised_27 : decode cX3_becomeRaised 27 = .ok (.aload_n 0, 1) := by decide +kernel
theorem dX3_becomeRaised_28 : decode cX3_becomeRaised 28 = .ok (.aload_n 1, 1) := by decide +kernel
theorem dX3_becomeRaised_29 : decode cX3_becomeRaised 29 = .ok (.invokevirtual 40, 3) := by decide +kernel
theorem dX3_becomeRaised_32 : decode cX3_becomeRaised 32 = .ok (.iinc 3 (-1), 3) := by decide +kernel
theorem dX3_becomeRaised_35 : decode cX3_becomeRaised 35 = .ok (.goto (-27), 3) := by decide +kernel
theorem dX3_becomeRaised_38 : decode cX3_becomeRaised 38 = .ok (.return_, 1) := by decide +kernel
theorem dX3_becomeShiftedDown_0 : decode cX3_becomeShiftedDown 0 = .ok (.aload_n 1, 1) := by decide +kernel
theorem dX3_becomeShiftedDown_1 : decode cX3_becomeShiftedDown 1 = .ok (.getfield 9, 3) := by decide +kernel
theorem dX3_becomeShiftedDown_4 : decode cX3_becomeShiftedDown 4 = .ok (.iconst 1, 1) := by decide +kernel
theorem dX3_becomeShiftedDown_5 : decode cX3_becomeShiftedDown 5 = .ok (.aload_n 0, 1) := by decide +kernel
theorem dX3_becomeShiftedDown_6 : decode cX3_becomeShiftedDown 6 = .ok (.getfield 9, 3) := by decide +kernel
theorem dX3_becomeShiftedDown_9 : decode cX3_becomeShiftedDown 9 = .ok (.iconst 0, 1) := by decide +kernel
theorem dX3_becomeShiftedDown_10 : decode cX3_becomeShiftedDown 10 = .ok (.bipush 9, 2) := by decide +kernel
theorem dX3_becomeShiftedDown_12 : decode cX3_becomeShiftedDown 12 = .ok (.invokestatic 21, 3) := by decide +kernel
theorem dX3_becomeShiftedDown_15 : decode cX3_becomeShiftedDown 15 = .ok (.aload_n 0, 1) := by decide +kernel
theorem dX3_becomeShiftedDown_16 : decode cX3_becomeShiftedDown 16 = .ok (.getfield 9, 3) := by decide +kernel
theorem dX3_becomeShiftedDown_19 : decode cX3_becomeShiftedDown 19 = .ok (.bipush 9, 2) := by decide +kernel
theorem dX3_becomeShiftedDown_21 : decode cX3_becomeShiftedDown 21 = .ok (.iconst 0, 1) := by decide +kernel
theorem dX3_becomeShiftedDown_22 : decode cX3_becomeShiftedDown 22 = .ok (.iastore, 1) := by decide +kernel
theorem dX3_becomeShiftedDown_23 : decode cX3_becomeShiftedDown 23 = .ok (.return_, 1) := by decide +kernel
theorem dX3_becomeShiftedUp_0 : decode cX3_becomeShiftedUp 0 = .ok (.aload_n 1, 1) := by decide +kernel
theorem dX3_becomeShiftedUp_1 : decode cX3_becomeShiftedUp 1 = .ok (.getfield 9, 3) := by decide +kernel
theorem dX3_becomeShiftedUp_4 : decode cX3_becomeShiftedUp 4 = .ok (.iconst 0, 1) := by decide +kernel
theorem dX3_becomeShiftedUp_5 : decode cX3_becomeShiftedUp 5 = .ok (.aload_n 0, 1) := by decide +kernel
theorem dX3_becomeShiftedUp_6 : decode cX3_becomeShiftedUp 6 = .ok (.getfield 9, 3) := by decide +kernel
theorem dX3_becomeShiftedUp_9 : decode cX3_becomeShiftedUp 9 = .ok (.iconst 1, 1) := by decide +kernel
theorem dX3_becomeShiftedUp_10 : decode cX3_becomeShiftedUp 10 = .ok (.bipush 9, 2) := by decide +kernel
theorem dX3_becomeShiftedUp_12 : decode cX3_becomeShiftedUp 12 = .ok (.invokestatic 21, 3) := by decide +kernel
theorem dX3_becomeShiftedUp_15 : decode cX3_becomeShiftedUp 15 = .ok (.aload_n 0, 1) := by decide +kernel
theorem dX3_becomeShiftedUp_16 : decode cX3_becomeShiftedUp 16 = .ok (.getfield 9, 3) := by decide +kernel
theorem dX3_becomeShiftedUp_19 : decode cX3_becomeShiftedUp 19 = .ok (.iconst 0, 1) := by decide +kernel
theorem dX3_becomeShiftedUp_20 : decode cX3_becomeShiftedUp 20 = .ok (.iconst 0, 1) := by decide +kernel
theorem dX3_becomeShiftedUp_21 : decode cX3_becomeShiftedUp 21 = .ok (.iastore, 1) := by decide +kernel
theorem dX3_becomeShiftedUp_22 : decode cX3_becomeShiftedUp 22 = .ok (.return_, 1) := by decide +kernel
theorem dX3_becomeTimesFactor_0 : decode cX3_becomeTimesFactor 0 = .ok (.bipush 9, 2) := by decide +kernel
theorem dX3_becomeTimesFactor_2 : decode cX3_becomeTimesFactor 2 = .ok (.istore_n 2, 1) := by decide +kernel
theorem dX3_becomeTimesFactor_3 : decode cX3_becomeTimesFactor 3 = .ok (.iload_n 2, 1) := by decide +kernel
theorem dX3_becomeTimesFactor_4 : decode cX3_becomeTimesFactor 4 = .ok (.ifCond .le 35, 3) := by decide +kernel
theorem dX3_becomeTimesFactor_7 : decode cX3_becomeTimesFactor 7 = .ok (.aload_n 0, 1) := by decide +kernel
theorem dX3_becomeTimesFactor_8 : decode cX3_becomeTimesFactor 8 = .ok (.getfield 9, 3) := by decide +kernel
theorem dX3_becomeTimesFactor_11 : decode cX3_becomeTimesFactor 11 = .ok (.iload_n 2, 1) := by decide +kernel
theorem dX3_becomeTimesFactor_12 : decode cX3_becomeTimesFactor 12 = .ok (.aload_n 0, 1) := by decide +kernel
theorem dX3_becomeTimesFactor_13 : decode cX3_becomeTimesFactor 13 = .ok (.getfield 9, 3) := by decide +kernel
theorem dX3_becomeTimesFactor_16 : decode cX3_becomeTimesFactor 16 = .ok (.iload_n 2, 1) := by decide +kernel
theorem dX3_becomeTimesFactor_17 : decode cX3_becomeTimesFactor 17 = .ok (.iconst 1, 1) := by decide +kernel
theorem dX3_becomeTimesFactor_18 : decode cX3_becomeTimesFactor 18 = .ok (.isub, 1) := by decide +kernel
theorem dX3_becomeTimesFactor_19 : decode cX3_becomeTimesFactor 19 = .ok (.iaload, 1) := by decide +kernel
theorem dX3_becomeTimesFactor_20 : decode cX3_becomeTimesFactor 20 = .ok (.iload_n 1, 1) := by decide +kernel
theorem dX3_becomeTimesFactor_21 : decode cX3_becomeTimesFactor 21 = .ok (.aload_n 0, 1) := by decide +kernel
theorem dX3_becomeTimesFactor_22 : decode cX3_becomeTimesFactor 22 = .ok (.getfield 9, 3) := by decide +kernel
theorem dX3_becomeTimesFactor_25 : decode cX3_becomeTimesFactor 25 = .ok (.iload_n 2, 1) := by decide +kernel
theorem dX3_becomeTimesFactor_26 : decode cX3_becomeTimesFactor 26 = .ok (.iaload, 1) := by decide +kernel
theorem dX3_becomeTimesFactor_27 : decode cX3_becomeTimesFactor 27 = .ok (.imul, 1) := by decide +kernel
theorem dX3_becomeTimesFactor_28 : decode cX3_becomeTimesFactor 28 = .ok (.isub, 1) := by decide +kernel
theorem dX3_becomeTimesFactor_29 : decode cX3_becomeTimesFactor 29 = .ok (.invokestatic 27, 3) := by decide +kernel
theorem dX3_becomeTimesFactor_32 : decode cX3_becomeTimesFactor 32 = .ok (.iastore, 1) := by decide +kernel
theorem dX3_becomeTimesFactor_33 : decode cX3_becomeTimesFactor 33 = .ok (.iinc 2 (-1), 3) := by decide +kernel
theorem dX3_becomeTimesFactor_36 : decode cX3_becomeTimesFactor 36 = .ok (.goto (-33), 3) := by decide +kernel
theorem dX3_becomeTimesFactor_39 : decode cX3_becomeTimesFactor 39 = .ok (.aload_n 0, 1) := by decide +kernel
theorem dX3_becomeTimesFactor_40 : decode cX3_becomeTimesFactor 40 = .ok (.getfield 9, 3) := by decide +kernel
theorem dX3_becomeTimesFactor_43 : decode cX3_becomeTimesFactor 43 = .ok (.iconst 0, 1) := by decide +kernel
theorem dX3_becomeTimesFactor_44 : decode cX3_becomeTimesFactor 44 = .ok (.iload_n 1, 1) := by decide +kernel
theorem dX3_becomeTimesFactor_45 : decode cX3_becomeTimesFactor 45 = .ok (.ineg, 1) := by decide +kernel
theorem dX3_becomeTimesFactor_46 : decode cX3_becomeTimesFactor 46 = .ok (.aload_n 0, 1) := by decide +kernel
theorem dX3_becomeTimesFactor_47 : decode cX3_becomeTimesFactor 47 = .ok (.getfield 9, 3) := by decide +kernel
theorem dX3_becomeTimesFactor_50 : decode cX3_becomeTimesFactor 50 = .ok (.iconst 0, 1) := by decide +kernel
theorem dX3_becomeTimesFactor_51 : decode cX3_becomeTimesFactor 51 = .ok (.iaload, 1) := by decide +kernel
theorem dX3_becomeTimesFactor_52 : decode cX3_becomeTimesFactor 52 = .ok (.imul, 1) := by decide +kernel
theorem dX3_becomeTimesFactor_53 : decode cX3_becomeTimesFactor 53 = .ok (.invokestatic 27, 3) := by decide +kernel
theorem dX3_becomeTimesFactor_56 : decode cX3_becomeTimesFactor 56 = .ok (.iastore, 1) := by decide +kernel
theorem dX3_becomeTimesFactor_57 : decode cX3_becomeTimesFactor 57 = .ok (.return_, 1) := by decide +kernel
theorem dX3_valueAt_0 : decode cX3_valueAt 0 = .ok (.iload_n 1, 1) := by decide +kernel
theorem dX3_valueAt_1 : decode cX3_valueAt 1 = .ok (.invokestatic 27, 3) := by decide +kernel
theorem dX3_valueAt_4 : decode cX3_valueAt 4 = .ok (.istore_n 2, 1) := by decide +kernel
theorem dX3_valueAt_5 : decode cX3_valueAt 5 = .ok (.iconst 0, 1) := by decide +kernel
theorem dX3_valueAt_6 : decode cX3_valueAt 6 = .ok (.istore_n 3, 1) := by decide +kernel
theorem dX3_valueAt_7 : decode cX3_valueAt 7 = .ok (.bipush 9, 2) := by decide +kernel
theorem dX3_valueAt_9 : decode cX3_valueAt 9 = .ok (.istore 4, 2) := by decide +kernel
theorem dX3_valueAt_11 : decode cX3_valueAt 11 = .ok (.iload 4, 2) := by decide +kernel
theorem dX3_valueAt_13 : decode cX3_valueAt 13 = .ok (.ifCond .lt 25, 3) := by decide +kernel
theorem dX3_valueAt_16 : decode cX3_valueAt 16 = .ok (.iload_n 3, 1) := by decide +kernel
theorem dX3_valueAt_17 : decode cX3_valueAt 17 = .ok (.iload_n 2, 1) := by decide +kernel
theorem dX3_valueAt_18 : decode cX3_valueAt 18 = .ok (.imul, 1) := by decide +kernel
theorem dX3_valueAt_19 : decode cX3_valueAt 19 = .ok (.aload_n 0, 1) := by decide +kernel
theorem dX3_valueAt_20 : decode cX3_valueAt 20 = .ok (.getfield 9, 3) := by decide +kernel
theorem dX3_valueAt_23 : decode cX3_valueAt 23 = .ok (.iload 4, 2) := by decide +kernel
theorem dX3_valueAt_25 : decode cX3_valueAt 25 = .ok (.iaload, 1) := by decide +kernel
theorem dX3_valueAt_26 : decode cX3_valueAt 26 = .ok (.iadd, 1) := by decide +kernel
theorem dX3_valueAt_27 : decode cX3_valueAt 27 = .ok (.sipush 10007, 3) := by decide +kernel
theorem dX3_valueAt_30 : decode cX3_valueAt 30 = .ok (.irem, 1) := by decide +kernel
theorem dX3_valueAt_31 : decode cX3_valueAt 31 = .ok (.istore_n 3, 1) := by decide +kernel
theorem dX3_valueAt_32 : decode cX3_valueAt 32 = .ok (.iinc 4 (-1), 3) := by decide +kernel
theorem dX3_valueAt_35 : decode cX3_valueAt 35 = .ok (.goto (-24), 3) := by decide +kernel
theorem dX3_valueAt_38 : decode cX3_valueAt 38 = .ok (.iload_n 3, 1) := by decide +kernel
theorem dX3_valueAt_39 : decode cX3_valueAt 39 = .ok (.ireturn, 1) := by decide +kernel
theorem dX3_degree_0 : decode cX3_degree 0 = .ok (.bipush 9, 2) := by decide +kernel
theorem dX3_degree_2 : decode cX3_degree 2 = .ok (.istore_n 1, 1) := by decide +kernel
theorem dX3_degree_3 : decode cX3_degree 3 = .ok (.iload_n 1, 1) := by decide +kernel
theorem dX3_degree_4 : decode cX3_degree 4 = .ok (.ifCond .le 20, 3) := by decide +kernel
theorem dX3_degree_7 : decode cX3_degree 7 = .ok (.aload_n 0, 1) := by decide +kernel
theorem dX3_degree_8 : decode cX3_degree 8 = .ok (.getfield 9, 3) := by decide +kernel
theorem dX3_degree_11 : decode cX3_degree 11 = .ok (.iload_n 1, 1) := by decide +kernel
theorem dX3_degree_12 : decode cX3_degree 12 = .ok (.iaload, 1) := by decide +kernel
theorem dX3_degree_13 : decode cX3_degree 13 = .ok (.ifCond .eq 5, 3) := by decide +kernel
theorem dX3_degree_16 : decode cX3_degree 16 = .ok (.iload_n 1, 1) := by decide +kernel
theorem dX3_degree_17 : decode cX3_degree 17 = .ok (.ireturn, 1) := by decide +kernel
theorem dX3_degree_18 : decode cX3_degree 18 = .ok (.iinc 1 (-1), 3) := by decide +kernel
theorem dX3_degree_21 : decode cX3_degree 21 = .ok (.goto (-18), 3) := by decide +kernel
theorem dX3_degree_24 : decode cX3_degree 24 = .ok (.iconst 0, 1) := by decide +kernel
theorem dX3_degree_25 : decode cX3_degree 25 = .ok (.ireturn, 1) := by decide +kernel
theorem dX3_mixedInto_0 : decode cX3_mixedInto 0 = .ok (.lload_n 1, 1) := by decide +kernel
theorem dX3_mixedInto_1 : decode cX3_mixedInto 1 = .ok (.lstore_n 3, 1) := by decide +kernel
theorem dX3_mixedInto_2 : decode cX3_mixedInto 2 = .ok (.iconst 0, 1) := by decide +kernel
theorem dX3_mixedInto_3 : decode cX3_mixedInto 3 = .ok (.istore 5, 2) := by decide +kernel
theorem dX3_mixedInto_5 : decode cX3_mixedInto 5 = .ok (.iload 5, 2) := by decide +kernel
theorem dX3_mixedInto_7 : decode cX3_mixedInto 7 = .ok (.bipush 10, 2) := by decide +kernel
theorem dX3_mixedInto_9 : decode cX3_mixedInto 9 = .ok (.if_icmp .ge 24, 3) := by decide +kernel
theorem dX3_mixedInto_12 : decode cX3_mixedInto 12 = .ok (.ldc2_w 44, 3) := by decide +kernel
theorem dX3_mixedInto_15 : decode cX3_mixedInto 15 = .ok (.lload_n 3, 1) := by decide +kernel
theorem dX3_mixedInto_16 : decode cX3_mixedInto 16 = .ok (.lmul, 1) := by decide +kernel
theorem dX3_mixedInto_17 : decode cX3_mixedInto 17 = .ok (.aload_n 0, 1) := by decide +kernel
theorem dX3_mixedInto_18 : decode cX3_mixedInto 18 = .ok (.getfield 9, 3) := by decide +kernel
theorem dX3_mixedInto_21 : decode cX3_mixedInto 21 = .ok (.iload 5, 2) := by decide +kernel
theorem dX3_mixedInto_23 : decode cX3_mixedInto 23 = .ok (.iaload, 1) := by decide +kernel
theorem dX3_mixedInto_24 : decode cX3_mixedInto 24 = .ok (.i2l, 1) := by decide +kernel
theorem dX3_mixedInto_25 : decode cX3_mixedInto 25 = .ok (.ladd, 1) := by decide +kernel
theorem dX3_mixedInto_26 : decode cX3_mixedInto 26 = .ok (.lstore_n 3, 1) := by decide +kernel
theorem dX3_mixedInto_27 : decode cX3_mixedInto 27 = .ok (.iinc 5 1, 3) := by decide +kernel
theorem dX3_mixedInto_30 : decode cX3_mixedInto 30 = .ok (.goto (-25), 3) := by decide +kernel
theorem dX3_mixedInto_33 : decode cX3_mixedInto 33 = .ok (.lload_n 3, 1) := by decide +kernel
theorem dX3_mixedInto_34 : decode cX3_mixedInto 34 = .ok (.lreturn, 1) := by decide +kernel
theorem dX4_init_0 : decode cX4_init 0 = .ok (.aload_n 0, 1) := by decide +kernel
theorem dX4_init_1 : decode cX4_init 1 = .ok (.invokespecial 3, 3) := by decide +kernel
theorem dX4_init_4 : decode cX4_init 4 = .ok (.aload_n 0, 1) := by decide +kernel
theorem dX4_init_5 : decode cX4_init 5 = .ok (.bipush 20, 2) := by decide +kernel
theorem dX4_init_7 : decode cX4_init 7 = .ok (.newarray .int, 2) := by decide +kernel
theorem dX4_init_9 : decode cX4_init 9 = .ok (.putfield 9, 3) := by decide +kernel
theorem dX4_init_12 : decode cX4_init 12 = .ok (.aload_n 0, 1) := by decide +kernel
theorem dX4_init_13 : decode cX4_init 13 = .ok (.iconst 1, 1) := by decide +kernel
theorem dX4_init_14 : decode cX4_init 14 = .ok (.putfield 15, 3) := by decide +kernel
theorem dX4_init_17 : decode cX4_init 17 = .ok (.aload_n 0, 1) := by decide +kernel
theorem dX4_init_18 : decode cX4_init 18 = .ok (.iconst 0, 1) := by decide +kernel
theorem dX4_init_19 : decode cX4_init 19 = .ok (.putfield 19, 3) := by decide +kernel
theorem dX4_init_22 : decode cX4_init 22 = .ok (.aload_n 0, 1) := by decide +kernel
theorem dX4_init_23 : decode cX4_init 23 = .ok (.iconst 0, 1) := by decide +kernel
theorem dX4_init_24 : decode cX4_init 24 = .ok (.putfield 23, 3) := by decide +kernel
theorem dX4_init_27 : decode cX4_init 27 = .ok (.return_, 1) := by decide +kernel
theorem dX4_renew_0 : decode cX4_renew 0 = .ok (.aload_n 0, 1) := by decide +kernel
theorem dX4_renew_1 : decode cX4_renew 1 = .ok (.getfield 9, 3) := by decide +kernel
theorem dX4_renew_4 : decode cX4_renew 4 = .ok (.iconst 0, 1) := by decide +kernel
theorem dX4_renew_5 : decode cX4_renew 5 = .ok (.invokestatic 26, 3) := by decide +kernel
theorem dX4_renew_8 : decode cX4_renew 8 = .ok (.aload_n 0, 1) := by decide +kernel
theorem dX4_renew_9 : decode cX4_renew 9 = .ok (.iconst 0, 1) := by decide +kernel
theorem dX4_renew_10 : decode cX4_renew 10 = .ok (.putfield 15, 3) := by decide +kernel
theorem dX4_renew_13 : decode cX4_renew 13 = .ok (.aload_n 0, 1) := by decide +kernel
theorem dX4_renew_14 : decode cX4_renew 14 = .ok (.iload_n 1, 1) := by decide +kernel
theorem dX4_renew_15 : decode cX4_renew 15 = .ok (.putfield 19, 3) := by decide +kernel
theorem dX4_renew_18 : decode cX4_renew 18 = .ok (.aload_n 0, 1) := by decide +kernel
theorem dX4_renew_19 : decode cX4_renew 19 = .ok (.iload_n 2, 1) := by decide +kernel
theorem dX4_renew_20 : decode cX4_renew 20 = .ok (.putfield 23, 3) := by decide +kernel
theorem dX4_renew_23 : decode cX4_renew 23 = .ok (.return_, 1) := by decide +kernel
theorem dX4_findingAt_0 : decode cX4_findingAt 0 = .ok (.aload_n 0, 1) := by decide +kernel
theorem dX4_findingAt_1 : decode cX4_findingAt 1 = .ok (.getfield 15, 3) := by decide +kernel
theorem dX4_findingAt_4 : decode cX4_findingAt 4 = .ok (.ifCond .eq 5, 3) := by decide +kernel
theorem dX4_findingAt_7 : decode cX4_findingAt 7 = .ok (.iconst 1, 1) := by decide +kernel
theorem dX4_findingAt_8 : decode cX4_findingAt 8 = .ok (.ireturn, 1) := by decide +kernel
theorem dX4_findingAt_9 : decode cX4_findingAt 9 = .ok (.aload_n 0, 1) := by decide +kernel
theorem dX4_findingAt_10 : decode cX4_findingAt 10 = .ok (.getfield 19, 3) := by decide +kernel
theorem dX4_findingAt_13 : decode cX4_findingAt 13 = .ok (.iload_n 1, 1) := by decide +kernel
theorem dX4_findingAt_14 : decode cX4_findingAt 14 = .ok (.if_icmp .eq 5, 3) := by decide +kernel
theorem dX4_findingAt_17 : decode cX4_findingAt 17 = .ok (.iconst 3, 1) := by decide +kernel
theorem dX4_findingAt_18 : decode cX4_findingAt 18 = .ok (.ireturn, 1) := by decide +kernel
theorem dX4_findingAt_19 : decode cX4_findingAt 19 = .ok (.iload_n 2, 1) := by decide +kernel
theorem dX4_findingAt_20 : decode cX4_findingAt 20 = .ok (.ifCond .lt 11, 3) := by decide +kernel
theorem dX4_findingAt_23 : decode cX4_findingAt 23 = .ok (.iload_n 2, 1) := by decide +kernel
theorem dX4_findingAt_24 : decode cX4_findingAt 24 = .ok (.aload_n 0, 1) := by decide +kernel
theorem dX4_findingAt_25 : decode cX4_findingAt 25 = .ok (.getfield 23, 3) := by decide +kernel
theorem dX4_findingAt_28 : decode cX4_findingAt 28 = .ok (.if_icmp .lt 7, 3) := by decide +kernel
theorem dX4_findingAt_31 : decode cX4_findingAt 31 = .ok (.iconst 2, 1) := by decide +kernel
theorem dX4_findingAt_32 : decode cX4_findingAt 32 = .ok (.goto 4, 3) := by decide +kernel
theorem dX4_findingAt_35 : decode cX4_findingAt 35 = .ok (.iconst 0, 1) := by decide +kernel
theorem dX4_findingAt_36 : decode cX4_findingAt 36 = .ok (.ireturn, 1) := by decide +kernel
theorem dX4_hasStretch_0 : decode cX4_hasStretch 0 = .ok (.iload_n 1, 1) := by decide +kernel
theorem dX4_hasStretch_1 : decode cX4_hasStretch 1 = .ok (.ifCond .lt 29, 3) := by decide +kernel
theorem dX4_hasStretch_4 : decode cX4_hasStretch 4 = .ok (.iload_n 2, 1) := by decide +kernel
theorem dX4_hasStretch_5 : decode cX4_hasStretch 5 = .ok (.ifCond .lt 25, 3) := by decide +kernel
theorem dX4_hasStretch_8 : decode cX4_hasStretch 8 = .ok (.iload_n 1, 1) := by decide +kernel
theorem dX4_hasStretch_9 : decode cX4_hasStretch 9 = .ok (.aload_n 0, 1) := by decide +kernel
theorem dX4_hasStretch_10 : decode cX4_hasStretch 10 = .ok (.getfield 23, 3) := by decide +kernel
theorem dX4_hasStretch_13 : decode cX4_hasStretch 13 = .ok (.if_icmp .gt 17, 3) := by decide +kernel
theorem dX4_hasStretch_16 : decode cX4_hasStretch 16 = .ok (.iload_n 2, 1) := by decide +kernel
theorem dX4_hasStretch_17 : decode cX4_hasStretch 17 = .ok (.aload_n 0, 1) := by decide +kernel
theorem dX4_hasStretch_18 : decode cX4_hasStretch 18 = .ok (.getfield 23, 3) := by decide +kernel
theorem dX4_hasStretch_21 : decode cX4_hasStretch 21 = .ok (.iload_n 1, 1) := by decide +kernel
theorem dX4_hasStretch_22 : decode cX4_hasStretch 22 = .ok (.isub, 1) := by decide +kernel
theorem dX4_hasStretch_23 : decode cX4_hasStretch 23 = .ok (.if_icmp .gt 7, 3) := by decide +kernel
theorem dX4_hasStretch_26 : decode cX4_hasStretch 26 = .ok (.iconst 1, 1) := by decide +kernel
theorem dX4_hasStretch_27 : decode cX4_hasStretch 27 = .ok (.goto 4, 3) := by decide +kernel
theorem dX4_hasStretch_30 : decode cX4_hasStretch 30 = .ok (.iconst 0, 1) := by decide +kernel
theorem dX4_hasStretch_31 : decode cX4_hasStretch 31 = .ok (.ireturn, 1) := by decide +kernel
theorem dX4_number_0 : decode cX4_number 0 = .ok (.iload_n 1, 1) := by decide +kernel
theorem dX4_number_1 : decode cX4_number 1 = .ok (.ifCond .lt 23, 3) := by decide +kernel
theorem dX4_number_4 : decode cX4_number 4 = .ok (.iload_n 1, 1) := by decide +kernel
theorem dX4_number_5 : decode cX4_number 5 = .ok (.aload_n 0, 1) := by decide +kernel
theorem dX4_number_6 : decode cX4_number 6 = .ok (.getfield 23, 3) := by decide +kernel
theorem dX4_number_9 : decode cX4_number 9 = .ok (.if_icmp .ge 15, 3) := by decide +kernel
theorem dX4_number_12 : decode cX4_number 12 = .ok (.aload_n 0, 1) := by decide +kernel
theorem dX4_number_13 : decode cX4_number 13 = .ok (.getfield 9, 3) := by decide +kernel
theorem dX4_number_16 : decode cX4_number 16 = .ok (.iload_n 1, 1) := by decide +kernel
theorem dX4_number_17 : decode cX4_number 17 = .ok (.iaload, 1) := by decide +kernel
theorem dX4_number_18 : decode cX4_number 18 = .ok (.invokestatic 32, 3) := by decide +kernel
theorem dX4_number_21 : decode cX4_number 21 = .ok (.goto 4, 3) := by decide +kernel
theorem dX4_number_24 : decode cX4_number 24 = .ok (.iconst 0, 1) := by decide +kernel
theorem dX4_number_25 : decode cX4_number 25 = .ok (.ireturn, 1) := by decide +kernel
theorem dJ9_floorMod_7cf53_0 : decode cJ9_floorMod_7cf53 0 = .ok (.iload_n 0, 1) := by decide +kernel
theorem dJ9_floorMod_7cf53_1 : decode cJ9_floorMod_7cf53 1 = .ok (.iload_n 1, 1) := by decide +kernel
theorem dJ9_floorMod_7cf53_2 : decode cJ9_floorMod_7cf53 2 = .ok (.irem, 1) := by decide +kernel
theorem dJ9_floorMod_7cf53_3 : decode cJ9_floorMod_7cf53 3 = .ok (.istore_n 2, 1) := by decide +kernel
theorem dJ9_floorMod_7cf53_4 : decode cJ9_floorMod_7cf53 4 = .ok (.iload_n 0, 1) := by decide +kernel
theorem dJ9_floorMod_7cf53_5 : decode cJ9_floorMod_7cf53 5 = .ok (.iload_n 1, 1) := by decide +kernel
theorem dJ9_floorMod_7cf53_6 : decode cJ9_floorMod_7cf53 6 = .ok (.ixor, 1) := by decide +kernel
theorem dJ9_floorMod_7cf53_7 : decode cJ9_floorMod_7cf53 7 = .ok (.ifCond .ge 11, 3) := by decide +kernel
theorem dJ9_floorMod_7cf53_10 : decode cJ9_floorMod_7cf53 10 = .ok (.iload_n 2, 1) := by decide +kernel
theorem dJ9_floorMod_7cf53_11 : decode cJ9_floorMod_7cf53 11 = .ok (.ifCond .eq 7, 3) := by decide +kernel
theorem dJ9_floorMod_7cf53_14 : decode cJ9_floorMod_7cf53 14 = .ok (.iload_n 2, 1) := by decide +kernel
theorem dJ9_floorMod_7cf53_15 : decode cJ9_floorMod_7cf53 15 = .ok (.iload_n 1, 1) := by decide +kernel
theorem dJ9_floorMod_7cf53_16 : decode cJ9_floorMod_7cf53 16 = .ok (.iadd, 1) := by decide +kernel
theorem dJ9_floorMod_7cf53_17 : decode cJ9_floorMod_7cf53 17 = .ok (.ireturn, 1) := by decide +kernel
theorem dJ9_floorMod_7cf53_18 : decode cJ9_floorMod_7cf53 18 = .ok (.iload_n 2, 1) := by decide +kernel
theorem dJ9_floorMod_7cf53_19 : decode cJ9_floorMod_7cf53 19 = .ok (.ireturn, 1) := by decide +kernel
theorem dJ7_fill_53178_0 : decode cJ7_fill_53178 0 = .ok (.iconst 0, 1) := by decide +kernel
theorem dJ7_fill_53178_1 : decode cJ7_fill_53178 1 = .ok (.istore_n 2, 1) := by decide +kernel
theorem dJ7_fill_53178_2 : decode cJ7_fill_53178 2 = .ok (.aload_n 0, 1) := by decide +kernel
theorem dJ7_fill_53178_3 : decode cJ7_fill_53178 3 = .ok (.arraylength, 1) := by decide +kernel
theorem dJ7_fill_53178_4 : decode cJ7_fill_53178 4 = .ok (.istore_n 3, 1) := by decide +kernel
theorem dJ7_fill_53178_5 : decode cJ7_fill_53178 5 = .ok (.iload_n 2, 1) := by decide +kernel
theorem dJ7_fill_53178_6 : decode cJ7_fill_53178 6 = .ok (.iload_n 3, 1) := by decide +kernel
theorem dJ7_fill_53178_7 : decode cJ7_fill_53178 7 = .ok (.if_icmp .ge 13, 3) := by decide +kernel
theorem dJ7_fill_53178_10 : decode cJ7_fill_53178 10 = .ok (.aload_n 0, 1) := by decide +kernel
theorem dJ7_fill_53178_11 : decode cJ7_fill_53178 11 = .ok (.iload_n 2, 1) := by decide +kernel
theorem dJ7_fill_53178_12 : decode cJ7_fill_53178 12 = .ok (.iload_n 1, 1) := by decide +kernel
theorem dJ7_fill_53178_13 : decode cJ7_fill_53178 13 = .ok (.iastore, 1) := by decide +kernel
theorem dJ7_fill_53178_14 : decode cJ7_fill_53178 14 = .ok (.iinc 2 1, 3) := by decide +kernel
theorem dJ7_fill_53178_17 : decode cJ7_fill_53178 17 = .ok (.goto (-12), 3) := by decide +kernel
theorem dJ7_fill_53178_20 : decode cJ7_fill_53178 20 = .ok (.return_, 1) := by decide +kernel
