theorem gX8_init_X8_clearTold : GoodIn wsX8_init (wsV RX8 52 RX8 yX8_clearTold wsX8_clearTold) := gwV aw_305 aw_306 aw_307 aw_3 aw_308
theorem gX8_init_X8_tellsPerson : GoodIn wsX8_init (wsV RX8 59 RX8 yX8_tellsPerson wsX8_tellsPerson) := gwV aw_312 aw_313 aw_314 aw_3 aw_315
theorem gX8_init_X8_tellsDoor : GoodIn wsX8_init (wsV RX8 63 RX8 yX8_tellsDoor wsX8_tellsDoor) := gwV aw_316 aw_317 aw_318 aw_3 aw_319
theorem gX8_init_X8_settles : GoodIn wsX8_init (wsV RX8 73 RX8 yX8_settles wsX8_settles) := gwV aw_320 aw_321 aw_322 aw_3 aw_323
theorem dX8_init_0 : decode cX8_init 0 = .ok (.aload_n 0, 1) := by decide +kernel
theorem dX8_init_1 : decode cX8_init 1 = .ok (.invokespecial 1, 3) := by decide +kernel
theorem dX8_init_4 : decode cX8_init 4 = .ok (.aload_n 0, 1) := by decide +kernel
theorem dX8_init_5 : decode cX8_init 5 = .ok (.bipush 8, 2) := by decide +kernel
theorem dX8_init_7 : decode cX8_init 7 = .ok (.newarray .int, 2) := by decide +kernel
theorem dX8_init_9 : decode cX8_init 9 = .ok (.putfield 7, 3) := by decide +kernel
theorem dX8_init_12 : decode cX8_init 12 = .ok (.aload_n 0, 1) := by decide +kernel
theorem dX8_init_13 : decode cX8_init 13 = .ok (.iconst 5, 1) := by decide +kernel
theorem dX8_init_14 : decode cX8_init 14 = .ok (.newarray .int, 2) := by decide +kernel
theorem dX8_init_16 : decode cX8_init 16 = .ok (.putfield 13, 3) := by decide +kernel
theorem dX8_init_19 : decode cX8_init 19 = .ok (.aload_n 0, 1) := by decide +kernel
theorem dX8_init_20 : decode cX8_init 20 = .ok (.bipush 6, 2) := by decide +kernel
theorem dX8_init_22 : decode cX8_init 22 = .ok (.newarray .int, 2) := by decide +kernel
theorem dX8_init_24 : decode cX8_init 24 = .ok (.putfield 16, 3) := by decide +kernel
theorem dX8_init_27 : decode cX8_init 27 = .ok (.aload_n 0, 1) := by decide +kernel
theorem dX8_init_28 : decode cX8_init 28 = .ok (.bipush 115, 2) := by decide +kernel
theorem dX8_init_30 : decode cX8_init 30 = .ok (.newarray .int, 2) := by decide +kernel
theorem dX8_init_32 : decode cX8_init 32 = .ok (.putfield 19, 3) := by decide +kernel
theorem dX8_init_35 : decode cX8_init 35 = .ok (.aload_n 0, 1) := by decide +kernel
theorem dX8_init_36 : decode cX8_init 36 = .ok (.sipush 920, 3) := by decide +kernel
theorem dX8_init_39 : decode cX8_init 39 = .ok (.newarray .int, 2) := by decide +kernel
theorem dX8_init_41 : decode cX8_init 41 = .ok (.putfield 22, 3) := by decide +kernel
theorem dX8_init_44 : decode cX8_init 44 = .ok (.aload_n 0, 1) := by decide +kernel
theorem dX8_init_45 : decode cX8_init 45 = .ok (.sipush 230, 3) := by decide +kernel
theorem dX8_init_48 : decode cX8_init 48 = .ok (.newarray .int, 2) := by decide +kernel
theorem dX8_init_50 : decode cX8_init 50 = .ok (.putfield 25, 3) := by decide +kernel
theorem dX8_init_53 : decode cX8_init 53 = .ok (.aload_n 0, 1) := by decide +kernel
theorem dX8_init_54 : decode cX8_init 54 = .ok (.bipush 24, 2) := by decide +kernel
theorem dX8_init_56 : decode cX8_init 56 = .ok (.newarray .int, 2) := by decide +kernel
theorem dX8_init_58 : decode cX8_init 58 = .ok (.putfield 28, 3) := by decide +kernel
theorem dX8_init_61 : decode cX8_init 61 = .ok (.aload_n 0, 1) := by decide +kernel
theorem dX8_init_62 : decode cX8_init 62 = .ok (.sipush 200, 3) := by decide +kernel
theorem dX8_init_65 : decode cX8_init 65 = .ok (.newarray .int, 2) := by decide +kernel
theorem dX8_init_67 : decode cX8_init 67 = .ok (.putfield 31, 3) := by decide +kernel
theorem dX8_init_70 : decode cX8_init 70 = .ok (.aload_n 0, 1) := by decide +kernel
theorem dX8_init_71 : decode cX8_init 71 = .ok (.iconst 2, 1) := by decide +kernel
theorem dX8_init_72 : decode cX8_init 72 = .ok (.newarray .int, 2) := by decide +kernel
theorem dX8_init_74 : decode cX8_init 74 = .ok (.putfield 34, 3) := by decide +kernel
theorem dX8_init_77 : decode cX8_init 77 = .ok (.aload_n 0, 1) := by decide +kernel
theorem dX8_init_78 : decode cX8_init 78 = .ok (.bipush 8, 2) := by decide +kernel
theorem dX8_init_80 : decode cX8_init 80 = .ok (.newarray .int, 2) := by decide +kernel
theorem dX8_init_82 : decode cX8_init 82 = .ok (.putfield 37, 3) := by decide +kernel
theorem dX8_init_85 : decode cX8_init 85 = .ok (.aload_n 0, 1) := by decide +kernel
theorem dX8_init_86 : decode cX8_init 86 = .ok (.iconst 5, 1) := by decide +kernel
theorem dX8_init_87 : decode cX8_init 87 = .ok (.newarray .int, 2) := by decide +kernel
theorem dX8_init_89 : decode cX8_init 89 = .ok (.putfield 40, 3) := by decide +kernel
theorem dX8_init_92 : decode cX8_init 92 = .ok (.aload_n 0, 1) := by decide +kernel
theorem dX8_init_93 : decode cX8_init 93 = .ok (.bipush 6, 2) := by decide +kernel
theorem dX8_init_95 : decode cX8_init 95 = .ok (.newarray .int, 2) := by decide +kernel
theorem dX8_init_97 : decode cX8_init 97 = .ok (.putfield 43, 3) := by decide +kernel
theorem dX8_init_100 : decode cX8_init 100 = .ok (.aload_n 0, 1) := by decide +kernel
theorem dX8_init_101 : decode cX8_init 101 = .ok (.bipush 115, 2) := by decide +kernel
theorem dX8_init_103 : decode cX8_init 103 = .ok (.newarray .int, 2) := by decide +kernel
theorem dX8_init_105 : decode cX8_init 105 = .ok (.putfield 46, 3) := by decide +kernel
theorem dX8_init_108 : decode cX8_init 108 = .ok (.aload_n 0, 1) := by decide +kernel
theorem dX8_init_109 : decode cX8_init 109 = .ok (.bipush 115, 2) := by decide +kernel
theorem dX8_init_111 : decode cX8_init 111 = .ok (.newarray .int, 2) := by decide +kernel
theorem dX8_init_113 : decode cX8_init 113 = .ok (.putfield 49, 3) := by decide +kernel
theorem dX8_init_116 : decode cX8_init 116 = .ok (.aload_n 0, 1) := by decide +kernel
theorem dX8_init_117 : decode cX8_init 117 = .ok (.invokevirtual 52, 3) := by decide +kernel
theorem dX8_init_120 : decode cX8_init 120 = .ok (.aload_n 0, 1) := by decide +kernel
theorem dX8_init_121 : decode cX8_init 121 = .ok (.iconst 5, 1) := by decide +kernel
theorem dX8_init_122 : decode cX8_init 122 = .ok (.putfield 55, 3) := by decide +kernel
theorem dX8_init_125 : decode cX8_init 125 = .ok (.aload_n 0, 1) := by decide +kernel
theorem dX8_init_126 : decode cX8_init 126 = .ok (.iconst 0, 1) := by decide +kernel
theorem dX8_init_127 : decode cX8_init 127 = .ok (.iconst 0, 1) := by decide +kernel
theorem dX8_init_128 : decode cX8_init 128 = .ok (.iconst 3, 1) := by decide +kernel
theorem dX8_init_129 : decode cX8_init 129 = .ok (.bipush 9, 2) := by decide +kernel
theorem dX8_init_131 : decode cX8_init 131 = .ok (.iconst 5, 1) := by decide +kernel
theorem dX8_init_132 : decode cX8_init 132 = .ok (.iconst 1, 1) := by decide +kernel
theorem dX8_init_133 : decode cX8_init 133 = .ok (.invokevirtual 59, 3) := by decide +kernel
theorem dX8_init_136 : decode cX8_init 136 = .ok (.aload_n 0, 1) := by decide +kernel
theorem dX8_init_137 : decode cX8_init 137 = .ok (.iconst 1, 1) := by decide +kernel
theorem dX8_init_138 : decode cX8_init 138 = .ok (.iconst 4, 1) := by decide +kernel
theorem dX8_init_139 : decode cX8_init 139 = .ok (.bipush 9, 2) := by decide +kernel
theorem dX8_init_141 : decode cX8_init 141 = .ok (.iconst 0, 1) := by decide +kernel
theorem dX8_init_142 : decode cX8_init 142 = .ok (.bipush 6, 2) := by decide +kernel
theorem dX8_init_144 : decode cX8_init 144 = .ok (.iconst 2, 1) := by decide +kernel
theorem dX8_init_145 : decode cX8_init 145 = .ok (.invokevirtual 59, 3) := by decide +kernel
theorem dX8_init_148 : decode cX8_init 148 = .ok (.aload_n 0, 1) := by decide +kernel
theorem dX8_init_149 : decode cX8_init 149 = .ok (.iconst 2, 1) := by decide +kernel
theorem dX8_init_150 : decode cX8_init 150 = .ok (.iconst 5, 1) := by decide +kernel
theorem dX8_init_151 : decode cX8_init 151 = .ok (.bipush 8, 2) := by decide +kernel
theorem dX8_init_153 : decode cX8_init 153 = .ok (.iconst 3, 1) := by decide +kernel
theorem dX8_init_154 : decode cX8_init 154 = .ok (.iconst 1, 1) := by decide +kernel
theorem dX8_init_155 : decode cX8_init 155 = .ok (.iconst 0, 1) := by decide +kernel
theorem dX8_init_156 : decode cX8_init 156 = .ok (.invokevirtual 59, 3) := by decide +kernel
theorem dX8_init_159 : decode cX8_init 159 = .ok (.aload_n 0, 1) := by decide +kernel
theorem dX8_init_160 : decode cX8_init 160 = .ok (.iconst 3, 1) := by decide +kernel
theorem dX8_init_161 : decode cX8_init 161 = .ok (.bipush 7, 2) := by decide +kernel
theorem dX8_init_163 : decode cX8_init 163 = .ok (.iconst 0, 1) := by decide +kernel
theorem dX8_init_164 : decode cX8_init 164 = .ok (.iconst 4, 1) := by decide +kernel
theorem dX8_init_165 : decode cX8_init 165 = .ok (.bipush 8, 2) := by decide +kernel
theorem dX8_init_167 : decode cX8_init 167 = .ok (.iconst 1, 1) := by decide +kernel
theorem dX8_init_168 : decode cX8_init 168 = .ok (.invokevirtual 59, 3) := by decide +kernel
theorem dX8_init_171 : decode cX8_init 171 = .ok (.aload_n 0, 1) := by decide +kernel
theorem dX8_init_172 : decode cX8_init 172 = .ok (.iconst 0, 1) := by decide +kernel
theorem dX8_init_173 : decode cX8_init 173 = .ok (.iconst 2, 1) := by decide +kernel
theorem dX8_init_174 : decode cX8_init 174 = .ok (.bipush 6, 2) := by decide +kernel
theorem dX8_init_176 : decode cX8_init 176 = .ok (.bipush 7, 2) := by decide +kernel
theorem dX8_init_178 : decode cX8_init 178 = .ok (.iconst 3, 1) := by decide +kernel
theorem dX8_init_179 : decode cX8_init 179 = .ok (.bipush 7, 2) := by decide +kernel
theorem dX8_init_181 : decode cX8_init 181 = .ok (.invokevirtual 59, 3) := by decide +kernel
theorem dX8_init_184 : decode cX8_init 184 = .ok (.aload_n 0, 1) := by decide +kernel
theorem dX8_init_185 : decode cX8_init 185 = .ok (.iconst 0, 1) := by decide +kernel
theorem dX8_init_186 : decode cX8_init 186 = .ok (.iconst 3, 1) := by decide +kernel
theorem dX8_init_187 : decode cX8_init 187 = .ok (.invokevirtual 63, 3) := by decide +kernel
theorem dX8_init_190 : decode cX8_init 190 = .ok (.aload_n 0, 1) := by decide +kernel
theorem dX8_init_191 : decode cX8_init 191 = .ok (.iconst 1, 1) := by decide +kernel
theorem dX8_init_192 : decode cX8_init 192 = .ok (.iconst 2, 1) := by decide +kernel
theorem dX8_init_193 : decode cX8_init 193 = .ok (.invokevirtual 63, 3) := by decide +kernel
theorem dX8_init_196 : decode cX8_init 196 = .ok (.aload_n 0, 1) := by decide +kernel
theorem dX8_init_197 : decode cX8_init 197 = .ok (.iconst 2, 1) := by decide +kernel
theorem dX8_init_198 : decode cX8_init 198 = .ok (.iconst 2, 1) := by decide +kernel
theorem dX8_init_199 : decode cX8_init 199 = .ok (.invokevirtual 63, 3) := by decide +kernel
theorem dX8_init_202 : decode cX8_init 202 = .ok (.aload_n 0, 1) := by decide +kernel
theorem dX8_init_203 : decode cX8_init 203 = .ok (.iconst 3, 1) := by decide +kernel
theorem dX8_init_204 : decode cX8_init 204 = .ok (.iconst 0, 1) := by decide +kernel
theorem dX8_init_205 : decode cX8_init 205 = .ok (.invokevirtual 63, 3) := by decide +kernel
theorem dX8_init_208 : decode cX8_init 208 = .ok (.aload_n 0, 1) := by decide +kernel
theorem dX8_init_209 : decode cX8_init 209 = .ok (.getfield 43, 3) := by decide +kernel
theorem dX8_init_212 : decode cX8_init 212 = .ok (.iconst 0, 1) := by decide +kernel
theorem dX8_init_213 : decode cX8_init 213 = .ok (.bipush 20, 2) := by decide +kernel
theorem dX8_init_215 : decode cX8_init 215 = .ok (.iastore, 1) := by decide +kernel
theorem dX8_init_216 : decode cX8_init 216 = .ok (.aload_n 0, 1) := by decide +kernel
theorem dX8_init_217 : decode cX8_init 217 = .ok (.getfield 43, 3) := by decide +kernel
theorem dX8_init_220 : decode cX8_init 220 = .ok (.iconst 1, 1) := by decide +kernel
theorem dX8_init_221 : decode cX8_init 221 = .ok (.iconst 5, 1) := by decide +kernel
theorem dX8_init_222 : decode cX8_init 222 = .ok (.iastore, 1) := by decide +kernel
theorem dX8_init_223 : decode cX8_init 223 = .ok (.aload_n 0, 1) := by decide +kernel
theorem dX8_init_224 : decode cX8_init 224 = .ok (.getfield 43, 3) := by decide +kernel
theorem dX8_init_227 : decode cX8_init 227 = .ok (.iconst 2, 1) := by decide +kernel
theorem dX8_init_228 : decode cX8_init 228 = .ok (.bipush 9, 2) := by decide +kernel
theorem dX8_init_230 : decode cX8_init 230 = .ok (.iastore, 1) := by decide +kernel
theorem dX8_init_231 : decode cX8_init 231 = .ok (.aload_n 0, 1) := by decide +kernel
theorem dX8_init_232 : decode cX8_init 232 = .ok (.iconst 3, 1) := by decide +kernel
theorem dX8_init_233 : decode cX8_init 233 = .ok (.putfield 67, 3) := by decide +kernel
theorem dX8_init_236 : decode cX8_init 236 = .ok (.aload_n 0, 1) := by decide +kernel
theorem dX8_init_237 : decode cX8_init 237 = .ok (.iconst 2, 1) := by decide +kernel
theorem dX8_init_238 : decode cX8_init 238 = .ok (.putfield 70, 3) := by decide +kernel
theorem dX8_init_241 : decode cX8_init 241 = .ok (.aload_n 0, 1) := by decide +kernel
theorem dX8_init_242 : decode cX8_init 242 = .ok (.invokevirtual 73, 3) := by decide +kernel
theorem dX8_init_245 : decode cX8_init 245 = .ok (.return_, 1) := by decide +kernel
theorem dX8_tellsPerson_0 : decode cX8_tellsPerson 0 = .ok (.iconst 1, 1) := by decide +kernel
theorem dX8_tellsPerson_1 : decode cX8_tellsPerson 1 = .ok (.bipush 8, 2) := by decide +kernel
theorem dX8_tellsPerson_3 : decode cX8_tellsPerson 3 = .ok (.aload_n 0, 1) := by decide +kernel
theorem dX8_tellsPerson_4 : decode cX8_tellsPerson 4 = .ok (.getfield 76, 3) := by decide +kernel
theorem dX8_tellsPerson_7 : decode cX8_tellsPerson 7 = .ok (.imul, 1) := by decide +kernel
theorem dX8_tellsPerson_8 : decode cX8_tellsPerson 8 = .ok (.iadd, 1) := by decide +kernel
theorem dX8_tellsPerson_9 : decode cX8_tellsPerson 9 = .ok (.istore 7, 2) := by decide +kernel
theorem dX8_tellsPerson_11 : decode cX8_tellsPerson 11 = .ok (.aload_n 0, 1) := by decide +kernel
theorem dX8_tellsPerson_12 : decode cX8_tellsPerson 12 = .ok (.getfield 37, 3) := by decide +kernel
theorem dX8_tellsPerson_15 : decode cX8_tellsPerson 15 = .ok (.aload_n 0, 1) := by decide +kernel
theorem dX8_tellsPerson_16 : decode cX8_tellsPerson 16 = .ok (.getfield 76, 3) := by decide +kernel
theorem dX8_tellsPerson_19 : decode cX8_tellsPerson 19 = .ok (.iload_n 1, 1) := by decide +kernel
theorem dX8_tellsPerson_20 : decode cX8_tellsPerson 20 = .ok (.iastore, 1) := by decide +kernel
theorem dX8_tellsPerson_21 : decode cX8_tellsPerson 21 = .ok (.aload_n 0, 1) := by decide +kernel
theorem dX8_tellsPerson_22 : decode cX8_tellsPerson 22 = .ok (.getfield 46, 3) := by decide +kernel
theorem dX8_tellsPerson_25 : decode cX8_tellsPerson 25 = .ok (.iload 7, 2) := by decide +kernel
theorem dX8_tellsPerson_27 : decode cX8_tellsPerson 27 = .ok (.iload_n 2, 1) := by decide +kernel
theorem dX8_tellsPerson_28 : decode cX8_tellsPerson 28 = .ok (.iastore, 1) := by decide +kernel
theorem dX8_tellsPerson_29 : decode cX8_tellsPerson 29 = .ok (.aload_n 0, 1) := by decide +kernel
theorem dX8_tellsPerson_30 : decode cX8_tellsPerson 30 = .ok (.getfield 46, 3) := by decide +kernel
theorem dX8_tellsPerson_33 : decode cX8_tellsPerson 33 = .ok (.iload 7, 2) := by decide +kernel
theorem dX8_tellsPerson_35 : decode cX8_tellsPerson 35 = .ok (.iconst 1, 1) := by decide +kernel
theorem dX8_tellsPerson_36 : decode cX8_tellsPerson 36 = .ok (.iadd, 1) := by decide +kernel
theorem dX8_tellsPerson_37 : decode cX8_tellsPerson 37 = .ok (.iload_n 3, 1) := by decide +kernel
theorem dX8_tellsPerson_38 : decode cX8_tellsPerson 38 = .ok (.iastore, 1) := by decide +kernel
theorem dX8_tellsPerson_39 : decode cX8_tellsPerson 39 = .ok (.aload_n 0, 1) := by decide +kernel
theorem dX8_tellsPerson_40 : decode cX8_tellsPerson 40 = .ok (.getfield 46, 3) := by decide +kernel
theorem dX8_tellsPerson_43 : decode cX8_tellsPerson 43 = .ok (.iload 7, 2) := by decide +kernel
theorem dX8_tellsPerson_45 : decode cX8_tellsPerson 45 = .ok (.iconst 2, 1) := by decide +kernel
theorem dX8_tellsPerson_46 : decode cX8_tellsPerson 46 = .ok (.iadd, 1) := by decide +kernel
theorem dX8_tellsPerson_47 : decode cX8_tellsPerson 47 = .ok (.iload 4, 2) := by decide +kernel
theorem dX8_tellsPerson_49 : decode cX8_tellsPerson 49 = .ok (.iastore, 1) := by decide +kernel
theorem dX8_tellsPerson_50 : decode cX8_tellsPerson 50 = .ok (.aload_n 0, 1) := by decide +kernel
theorem dX8_tellsPerson_51 : decode cX8_tellsPerson 51 = .ok (.getfield 46, 3) := by decide +kernel
theorem dX8_tellsPerson_54 : decode cX8_tellsPerson 54 = .ok (.iload 7, 2) := by decide +kernel
theorem dX8_tellsPerson_56 : decode cX8_tellsPerson 56 = .ok (.iconst 3, 1) := by decide +kernel
theorem dX8_tellsPerson_57 : decode cX8_tellsPerson 57 = .ok (.iadd, 1) := by decide +kernel
theorem dX8_tellsPerson_58 : decode cX8_tellsPerson 58 = .ok (.iload 5, 2) := by decide +kernel
theorem dX8_tellsPerson_60 : decode cX8_tellsPerson 60 = .ok (.iastore, 1) := by decide +kernel
theorem dX8_tellsPerson_61 : decode cX8_tellsPerson 61 = .ok (.aload_n 0, 1) := by decide +kernel
theorem dX8_tellsPerson_62 : decode cX8_tellsPerson 62 = .ok (.getfield 46, 3) := by decide +kernel
theorem dX8_tellsPerson_65 : decode cX8_tellsPerson 65 = .ok (.iload 7, 2) := by decide +kernel
theorem dX8_tellsPerson_67 : decode cX8_tellsPerson 67 = .ok (.iconst 4, 1) := by decide +kernel
theorem dX8_tellsPerson_68 : decode cX8_tellsPerson 68 = .ok (.iadd, 1) := by decide +kernel
theorem dX8_tellsPerson_69 : decode cX8_tellsPerson 69 = .ok (.iload 6, 2) := by decide +kernel
theorem dX8_tellsPerson_71 : decode cX8_tellsPerson 71 = .ok (.iastore, 1) := by decide +kernel
theorem dX8_tellsPerson_72 : decode cX8_tellsPerson 72 = .ok (.aload_n 0, 1) := by decide +kernel
theorem dX8_tellsPerson_73 : decode cX8_tellsPerson 73 = .ok (.dup, 1) := by decide +kernel
theorem dX8_tellsPerson_74 : decode cX8_tellsPerson 74 = .ok (.getfield 76, 3) := by decide +kernel
theorem dX8_tellsPerson_77 : decode cX8_tellsPerson 77 = .ok (.iconst 1, 1) := by decide +kernel
theorem dX8_tellsPerson_78 : decode cX8_tellsPerson 78 = .ok (.iadd, 1) := by decide +kernel
theorem dX8_tellsPerson_79 : decode cX8_tellsPerson 79 = .ok (.putfield 76, 3) := by decide +kernel
theorem dX8_tellsPerson_82 : decode cX8_tellsPerson 82 = .ok (.return_, 1) := by decide +kernel
theorem dX8_tellsDoor_0 : decode cX8_tellsDoor 0 = .ok (.aload_n 0, 1) := by decide +kernel
theorem dX8_tellsDoor_1 : decode cX8_tellsDoor 1 = .ok (.getfield 40, 3) := by decide +kernel
theorem dX8_tellsDoor_4 : decode cX8_tellsDoor 4 = .ok (.aload_n 0, 1) := by decide +kernel
theorem dX8_tellsDoor_5 : decode cX8_tellsDoor 5 = .ok (.getfield 79, 3) := by decide +kernel
theorem dX8_tellsDoor_8 : decode cX8_tellsDoor 8 = .ok (.iload_n 1, 1) := by decide +kernel
theorem dX8_tellsDoor_9 : decode cX8_tellsDoor 9 = .ok (.iastore, 1) := by decide +kernel
theorem dX8_tellsDoor_10 : decode cX8_tellsDoor 10 = .ok (.aload_n 0, 1) := by decide +kernel
theorem dX8_tellsDoor_11 : decode cX8_tellsDoor 11 = .ok (.getfield 46, 3) := by decide +kernel
theorem dX8_tellsDoor_14 : decode cX8_tellsDoor 14 = .ok (.bipush 65, 2) := by decide +kernel
theorem dX8_tellsDoor_16 : decode cX8_tellsDoor 16 = .ok (.aload_n 0, 1) := by decide +kernel
theorem dX8_tellsDoor_17 : decode cX8_tellsDoor 17 = .ok (.getfield 79, 3) := by decide +kernel
theorem dX8_tellsDoor_20 : decode cX8_tellsDoor 20 = .ok (.iadd, 1) := by decide +kernel
theorem dX8_tellsDoor_21 : decode cX8_tellsDoor 21 = .ok (.iload_n 2, 1) := by decide +kernel
theorem dX8_tellsDoor_22 : decode cX8_tellsDoor 22 = .ok (.iastore, 1) := by decide +kernel
theorem dX8_tellsDoor_23 : decode cX8_tellsDoor 23 = .ok (.aload_n 0, 1) := by decide +kernel
theorem dX8_tellsDoor_24 : decode cX8_tellsDoor 24 = .ok (.dup, 1) := by decide +kernel
theorem dX8_tellsDoor_25 : decode cX8_tellsDoor 25 = .ok (.getfield 79, 3) := by decide +kernel
theorem dX8_tellsDoor_28 : decode cX8_tellsDoor 28 = .ok (.iconst 1, 1) := by decide +kernel
theorem dX8_tellsDoor_29 : decode cX8_tellsDoor 29 = .ok (.iadd, 1) := by decide +kernel
theorem dX8_tellsDoor_30 : decode cX8_tellsDoor 30 = .ok (.putfield 79, 3) := by decide +kernel
theorem dX8_tellsDoor_33 : decode cX8_tellsDoor 33 = .ok (.return_, 1) := by decide +kernel
theorem dX8_in_0 : decode cX8_in 0 = .ok (.iload_n 0, 1) := by decide +kernel
theorem dX8_in_1 : decode cX8_in 1 = .ok (.iload_n 1, 1) := by decide +kernel
theorem dX8_in_2 : decode cX8_in 2 = .ok (.if_icmp .lt 12, 3) := by decide +kernel
theorem dX8_in_5 : decode cX8_in 5 = .ok (.iload_n 0, 1) := by decide +kernel
theorem dX8_in_6 : decode cX8_in 6 = .ok (.iload_n 2, 1) := by decide +kernel
theorem dX8_in_7 : decode cX8_in 7 = .ok (.if_icmp .gt 7, 3) := by decide +kernel
theorem dX8_in_10 : decode cX8_in 10 = .ok (.iconst 1, 1) := by decide +kernel
theorem dX8_in_11 : decode cX8_in 11 = .ok (.goto 4, 3) := by decide +kernel
theorem dX8_in_14 : decode cX8_in 14 = .ok (.iconst 0, 1) := by decide +kernel
theorem dX8_in_15 : decode cX8_in 15 = .ok (.ireturn, 1) := by decide +kernel
theorem dX8_has_0 : decode cX8_has 0 = .ok (.iload_n 0, 1) := by decide +kernel
theorem dX8_has_1 : decode cX8_has 1 = .ok (.iload_n 1, 1) := by decide +kernel
theorem dX8_has_2 : decode cX8_has 2 = .ok (.ishr, 1) := by decide +kernel
theorem dX8_has_3 : decode cX8_has 3 = .ok (.iconst 1, 1) := by decide +kernel
theorem dX8_has_4 : decode cX8_has 4 = .ok (.iand, 1) := by decide +kernel
theorem dX8_has_5 : decode cX8_has 5 = .ok (.iconst 1, 1) := by decide +kernel
theorem dX8_has_6 : decode cX8_has 6 = .ok (.if_icmp .ne 7, 3) := by decide +kernel
theorem dX8_has_9 : decode cX8_has 9 = .ok (.iconst 1, 1) := by decide +kernel
theorem dX8_has_10 : decode cX8_has 10 = .ok (.goto 4, 3) := by decide +kernel
theorem dX8_has_13 : decode cX8_has 13 = .ok (.iconst 0, 1) := by decide +kernel
theorem dX8_has_14 : decode cX8_has 14 = .ok (.ireturn, 1) := by decide +kernel
theorem dX8_bits_0 : decode cX8_bits 0 = .ok (.iconst 0, 1) := by decide +kernel
theorem dX8_bits_1 : decode cX8_bits 1 = .ok (.istore_n 1, 1) := by decide +kernel
theorem dX8_bits_2 : decode cX8_bits 2 = .ok (.iconst 0, 1) := by decide +kernel
theorem dX8_bits_3 : decode cX8_bits 3 = .ok (.istore_n 2, 1) := by decide +kernel
theorem dX8_bits_4 : decode cX8_bits 4 = .ok (.iload_n 2, 1) := by decide +kernel
theorem dX8_bits_5 : decode cX8_bits 5 = .ok (.bipush 8, 2) := by decide +kernel
theorem dX8_bits_7 : decode cX8_bits 7 = .ok (.if_icmp .ge 17, 3) := by decide +kernel
theorem dX8_bits_10 : decode cX8_bits 10 = .ok (.iload_n 1, 1) := by decide +kernel
theorem dX8_bits_11 : decode cX8_bits 11 = .ok (.iload_n 0, 1) := by decide +kernel
theorem dX8_bits_12 : decode cX8_bits 12 = .ok (.iload_n 2, 1) := by decide +kernel
theorem dX8_bits_13 : decode cX8_bits 13 = .ok (.ishr, 1) := by decide +kernel
theorem dX8_bits_14 : decode cX8_bits 14 = .ok (.iconst 1, 1) := by decide +kernel
theorem dX8_bits_15 : decode cX8_bits 15 = .ok (.iand, 1) := by decide +kernel
theorem dX8_bits_16 : decode cX8_bits 16 = .ok (.iadd, 1) := by decide +kernel
theorem dX8_bits_17 : decode cX8_bits 17 = .ok (.istore_n 1, 1) := by decide +kernel
theorem dX8_bits_18 : decode cX8_bits 18 = .ok (.iinc 2 1, 3) := by decide +kernel
theorem dX8_bits_21 : decode cX8_bits 21 = .ok (.goto (-17), 3) := by decide +kernel
theorem dX8_bits_24 : decode cX8_bits 24 = .ok (.iload_n 1, 1) := by decide +kernel
theorem dX8_bits_25 : decode cX8_bits 25 = .ok (.ireturn, 1) := by decide +kernel
theorem gX8_isPerson_X8_in : GoodIn wsX8_isPerson (va_wsS RX8 85 yX8_in wsX8_in) := gwS aw_361 aw_362 aw_3 aw_363
theorem dX8_isPerson_0 : decode cX8_isPerson 0 = .ok (.iload_n 1, 1) := by decide +kernel
theorem dX8_isPerson_1 : decode cX8_isPerson 1 = .ok (.iconst 0, 1) := by decide +kernel
theorem dX8_isPerson_2 : decode cX8_isPerson 2 = .ok (.aload_n 0, 1) := by decide +kernel
theorem dX8_isPerson_3 : decode cX8_isPerson 3 = .ok (.getfield 82, 3) := by decide +kernel
theorem dX8_isPerson_6 : decode cX8_isPerson 6 = .ok (.iconst 1, 1) := by decide +kernel
theorem dX8_isPerson_7 : decode cX8_isPerson 7 = .ok (.isub, 1) := by decide +kernel
theorem dX8_isPerson_8 : decode cX8_isPerson 8 = .ok (.invokestatic 85, 3) := by decide +kernel
theorem dX8_isPerson_11 : decode cX8_isPerson 11 = .ok (.ireturn, 1) := by decide +kernel
theorem gX8_isDoor_X8_in : GoodIn wsX8_isDoor (va_wsS RX8 85 yX8_in wsX8_in) := gwS aw_361 aw_362 aw_3 aw_363
theorem dX8_isDoor_0 : decode cX8_isDoor 0 = .ok (.iload_n 1, 1) := by decide +kernel
theorem dX8_isDoor_1 : decode cX8_isDoor 1 = .ok (.iconst 0, 1) := by decide +kernel
theorem dX8_isDoor_2 : decode cX8_isDoor 2 = .ok (.aload_n 0, 1) := by decide +kernel
theorem dX8_isDoor_3 : decode cX8_isDoor 3 = .ok (.getfield 89, 3) := by decide +kernel
theorem dX8_isDoor_6 : decode cX8_isDoor 6 = .ok (.iconst 1, 1) := by decide +kernel
theorem dX8_isDoor_7 : decode cX8_isDoor 7 = .ok (.isub, 1) := by decide +kernel
theorem dX8_isDoor_8 : decode cX8_isDoor 8 = .ok (.invokestatic 85, 3) := by decide +kernel
theorem dX8_isDoor_11 : decode cX8_isDoor 11 = .ok (.ireturn, 1) := by decide +kernel
theorem gX8_write_X8_in : GoodIn wsX8_write (va_wsS RX8 85 yX8_in wsX8_in) := gwS aw_361 aw_362 aw_3 aw_363
theorem dX8_write_0 : decode cX8_write 0 = .ok (.iload_n 1, 1) := by decide +kernel
theorem dX8_write_1 : decode cX8_write 1 = .ok (.bipush 32, 2) := by decide +kernel
theorem dX8_write_3 : decode cX8_write 3 = .ok (.bipush 126, 2) := by decide +kernel
theorem dX8_write_5 : decode cX8_write 5 = .ok (.invokestatic 85, 3) := by decide +kernel
theorem dX8_write_8 : decode cX8_write 8 = .ok (.ifCond .ne 5, 3) := by decide +kernel
theorem dX8_write_11 : decode cX8_write 11 = .ok (.iconst (-1), 1) := by decide +kernel
theorem dX8_write_12 : decode cX8_write 12 = .ok (.ireturn, 1) := by decide +kernel
theorem dX8_write_13 : decode cX8_write 13 = .ok (.aload_n 0, 1) := by decide +kernel
theorem dX8_write_14 : decode cX8_write 14 = .ok (.getfield 92, 3) := by decide +kernel
theorem dX8_write_17 : decode cX8_write 17 = .ok (.sipush 200, 3) := by decide +kernel
theorem dX8_write_20 : decode cX8_write 20 = .ok (.if_icmp .ne 6, 3) := by decide +kernel
theorem dX8_write_23 : decode cX8_write 23 = .ok (.bipush (-3), 2) := by decide +kernel
theorem dX8_write_25 : decode cX8_write 25 = .ok (.ireturn, 1) := by decide +kernel
theorem dX8_write_26 : decode cX8_write 26 = .ok (.aload_n 0, 1) := by decide +kernel
theorem dX8_write_27 : decode cX8_write 27 = .ok (.getfield 31, 3) := by decide +kernel
theorem dX8_write_30 : decode cX8_write 30 = .ok (.aload_n 0, 1) := by decide +kernel
theorem dX8_write_31 : decode cX8_write 31 = .ok (.getfield 92, 3) := by decide +kernel
theorem dX8_write_34 : decode cX8_write 34 = .ok (.iload_n 1, 1) := by decide +kernel
theorem dX8_write_35 : decode cX8_write 35 = .ok (.iastore, 1) := by decide +kernel
theorem dX8_write_36 : decode cX8_write 36 = .ok (.aload_n 0, 1) := by decide +kernel
theorem dX8_write_37 : decode cX8_write 37 = .ok (.dup, 1) := by decide +kernel
theorem dX8_write_38 : decode cX8_write 38 = .ok (.getfield 92, 3) := by decide +kernel
theorem dX8_write_41 : decode cX8_write 41 = .ok (.iconst 1, 1) := by decide +kernel
theorem dX8_write_42 : decode cX8_write 42 = .ok (.iadd, 1) := by decide +kernel
theorem dX8_write_43 : decode cX8_write 43 = .ok (.putfield 92, 3) := by decide +kernel
theorem dX8_write_46 : decode cX8_write 46 = .ok (.aload_n 0, 1) := by decide +kernel
theorem dX8_write_47 : decode cX8_write 47 = .ok (.getfield 92, 3) := by decide +kernel
theorem dX8_write_50 : decode cX8_write 50 = .ok (.ireturn, 1) := by decide +kernel
theorem dX8_wipe_0 : decode cX8_wipe 0 = .ok (.aload_n 0, 1) := by decide +kernel
theorem dX8_wipe_1 : decode cX8_wipe 1 = .ok (.getfield 92, 3) := by decide +kernel
theorem dX8_wipe_4 : decode cX8_wipe 4 = .ok (.istore_n 1, 1) := by decide +kernel
theorem dX8_wipe_5 : decode cX8_wipe 5 = .ok (.aload_n 0, 1) := by decide +kernel
theorem dX8_wipe_6 : decode cX8_wipe 6 = .ok (.iconst 0, 1) := by decide +kernel
theorem dX8_wipe_7 : decode cX8_wipe 7 = .ok (.putfield 92, 3) := by decide +kernel
theorem dX8_wipe_10 : decode cX8_wipe 10 = .ok (.iload_n 1, 1) := by decide +kernel
theorem dX8_wipe_11 : decode cX8_wipe 11 = .ok (.ireturn, 1) := by decide +kernel
theorem dX8_letterAt_0 : decode cX8_letterAt 0 = .ok (.iload_n 1, 1) := by decide +kernel
theorem dX8_letterAt_1 : decode cX8_letterAt 1 = .ok (.aload_n 0, 1) := by decide +kernel
theorem dX8_letterAt_2 : decode cX8_letterAt 2 = .ok (.getfield 92, 3) := by decide +kernel
theorem dX8_letterAt_5 : decode cX8_letterAt 5 = .ok (.if_icmp .ge 12, 3) := by decide +kernel
theorem dX8_letterAt_8 : decode cX8_letterAt 8 = .ok (.aload_n 0, 1) := by decide +kernel
theorem dX8_letterAt_9 : decode cX8_letterAt 9 = .ok (.getfield 31, 3) := by decide +kernel
theorem dX8_letterAt_12 : decode cX8_letterAt 12 = .ok (.iload_n 1, 1) := by decide +kernel
theorem dX8_letterAt_13 : decode cX8_letterAt 13 = .ok (.iaload, 1) := by decide +kernel
theorem dX8_letterAt_14 : decode cX8_letterAt 14 = .ok (.goto 4, 3) := by decide +kernel
theorem dX8_letterAt_17 : decode cX8_letterAt 17 = .ok (.iconst (-1), 1) := by decide +kernel
theorem dX8_letterAt_18 : decode cX8_letterAt 18 = .ok (.ireturn, 1) := by decide +kernel
theorem gX8_isFigure_X8_in : GoodIn wsX8_isFigure (va_wsS RX8 85 yX8_in wsX8_in) := gwS aw_361 aw_362 aw_3 aw_363
theorem dX8_isFigure_0 : decode cX8_isFigure 0 = .ok (.iload_n 0, 1) := by decide +kernel
theorem dX8_isFigure_1 : decode cX8_isFigure 1 = .ok (.bipush 48, 2) := by decide +kernel
theorem dX8_isFigure_3 : decode cX8_isFigure 3 = .ok (.bipush 57, 2) := by decide +kernel
theorem dX8_isFigure_5 : decode cX8_isFigure 5 = .ok (.invokestatic 85, 3) := by decide +kernel
theorem dX8_isFigure_8 : decode cX8_isFigure 8 = .ok (.ireturn, 1) := by decide +kernel
theorem gX8_readNumbers_X8_letterAt : GoodIn wsX8_readNumbers (wsV RX8 98 RX8 yX8_letterAt wsX8_letterAt) := gwV aw_381 aw_382 aw_383 aw_3 aw_384
theorem gX8_readNumbers_X8_isFigure : GoodIn wsX8_readNumbers (va_wsS RX8 102 yX8_isFigure wsX8_isFigure) := gwS aw_393 aw_394 aw_3 aw_395
theorem dX8_readNumbers_0 : decode cX8_readNumbers 0 = .ok (.iconst 0, 1) := by decide +kernel
theorem dX8_readNumbers_1 : decode cX8_readNumbers 1 = .ok (.istore_n 2, 1) := by decide +kernel
theorem dX8_readNumbers_2 : decode cX8_readNumbers 2 = .ok (.iload_n 2, 1) := by decide +kernel
theorem dX8_readNumbers_3 : decode cX8_readNumbers 3 = .ok (.iload_n 1, 1) := by decide +kernel
theorem dX8_readNumbers_4 : decode cX8_readNumbers 4 = .ok (.if_icmp .ge 140, 3) := by decide +kernel
theorem dX8_readNumbers_7 : decode cX8_readNumbers 7 = .ok (.aload_n 0, 1) := by decide +kernel
theorem dX8_readNumbers_8 : decode cX8_readNumbers 8 = .ok (.aload_n 0, 1) := by decide +kernel
theorem dX8_readNumbers_9 : decode cX8_readNumbers 9 = .ok (.getfield 95, 3) := by decide +kernel
theorem dX8_readNumbers_12 : decode cX8_readNumbers 12 = .ok (.invokevirtual 98, 3) := by decide +kernel
theorem dX8_readNumbers_15 : decode cX8_readNumbers 15 = .ok (.invokestatic 102, 3) := by decide +kernel
theorem dX8_readNumbers_18 : decode cX8_readNumbers 18 = .ok (.ifCond .ne 5, 3) := by decide +kernel
theorem dX8_readNumbers_21 : decode cX8_readNumbers 21 = .ok (.iconst 0, 1) := by decide +kernel
theorem dX8_readNumbers_22 : decode cX8_readNumbers 22 = .ok (.ireturn, 1) := by decide +kernel
theorem dX8_readNumbers_23 : decode cX8_readNumbers 23 = .ok (.aload_n 0, 1) := by decide +kernel
theorem dX8_readNumbers_24 : decode cX8_readNumbers 24 = .ok (.getfield 34, 3) := by decide +kernel
theorem dX8_readNumbers_27 : decode cX8_readNumbers 27 = .ok (.iload_n 2, 1) := by decide +kernel
theorem dX8_readNumbers_28 : decode cX8_readNumbers 28 = .ok (.aload_n 0, 1) := by decide +kernel
theorem dX8_readNumbers_29 : decode cX8_readNumbers 29 = .ok (.aload_n 0, 1) := by decide +kernel
theorem dX8_readNumbers_30 : decode cX8_readNumbers 30 = .ok (.getfield 95, 3) := by decide +kernel
theorem dX8_readNumbers_33 : decode cX8_readNumbers 33 = .ok (.invokevirtual 98, 3) := by decide +kernel
theorem dX8_readNumbers_36 : decode cX8_readNumbers 36 = .ok (.bipush 48, 2) := by decide +kernel
theorem dX8_readNumbers_38 : decode cX8_readNumbers 38 = .ok (.isub, 1) := by decide +kernel
theorem dX8_readNumbers_39 : decode cX8_readNumbers 39 = .ok (.iastore, 1) := by decide +kernel
theorem dX8_readNumbers_40 : decode cX8_readNumbers 40 = .ok (.aload_n 0, 1) := by decide +kernel
theorem dX8_readNumbers_41 : decode cX8_readNumbers 41 = .ok (.dup, 1) := by decide +kernel
theorem dX8_readNumbers_42 : decode cX8_readNumbers 42 = .ok (.getfield 95, 3) := by decide +kernel
theorem dX8_readNumbers_45 : decode cX8_readNumbers 45 = .ok (.iconst 1, 1) := by decide +kernel
theorem dX8_readNumbers_46 : decode cX8_readNumbers 46 = .ok (.iadd, 1) := by decide +kernel
theorem dX8_readNumbers_47 : decode cX8_readNumbers 47 = .ok (.putfield 95, 3) := by decide +kernel
theorem dX8_readNumbers_50 : decode cX8_readNumbers 50 = .ok (.aload_n 0, 1) := by decide +kernel
theorem dX8_readNumbers_51 : decode cX8_readNumbers 51 = .ok (.aload_n 0, 1) := by decide +kernel
theorem dX8_readNumbers_52 : decode cX8_readNumbers 52 = .ok (.getfield 95, 3) := by decide +kernel
theorem dX8_readNumbers_55 : decode cX8_readNumbers 55 = .ok (.invokevirtual 98, 3) := by decide +kernel
theorem dX8_readNumbers_58 : decode cX8_readNumbers 58 = .ok (.invokestatic 102, 3) := by decide +kernel
theorem dX8_readNumbers_61 : decode cX8_readNumbers 61 = .ok (.ifCond .eq 40, 3) := by decide +kernel
theorem dX8_readNumbers_64 : decode cX8_readNumbers 64 = .ok (.aload_n 0, 1) := by decide +kernel
theorem dX8_readNumbers_65 : decode cX8_readNumbers 65 = .ok (.getfield 34, 3) := by decide +kernel
theorem dX8_readNumbers_68 : decode cX8_readNumbers 68 = .ok (.iload_n 2, 1) := by decide +kernel
theorem dX8_readNumbers_69 : decode cX8_readNumbers 69 = .ok (.bipush 10, 2) := by decide +kernel
theorem dX8_readNumbers_71 : decode cX8_readNumbers 71 = .ok (.aload_n 0, 1) := by decide +kernel
theorem dX8_readNumbers_72 : decode cX8_readNumbers 72 = .ok (.getfield 34, 3) := by decide +kernel
theorem dX8_readNumbers_75 : decode cX8_readNumbers 75 = .ok (.iload_n 2, 1) := by decide +kernel
theorem dX8_readNumbers_76 : decode cX8_readNumbers 76 = .ok (.iaload, 1) := by decide +kernel
theorem dX8_readNumbers_77 : decode cX8_readNumbers 77 = .ok (.imul, 1) := by decide +kernel
theorem dX8_readNumbers_78 : decode cX8_readNumbers 78 = .ok (.aload_n 0, 1) := by decide +kernel
theorem dX8_readNumbers_79 : decode cX8_readNumbers 79 = .ok (.aload_n 0, 1) := by decide +kernel
theorem dX8_readNumbers_80 : decode cX8_readNumbers 80 = .ok (.getfield 95, 3) := by decide +kernel
theorem dX8_readNumbers_83 : decode cX8_readNumbers 83 = .ok (.invokevirtual 98, 3) := by decide +kernel
theorem dX8_readNumbers_86 : decode cX8_readNumbers 86 = .ok (.iadd, 1) := by decide +kernel
theorem dX8_readNumbers_87 : decode cX8_readNumbers 87 = .ok (.bipush 48, 2) := by decide +kernel
theorem dX8_readNumbers_89 : decode cX8_readNumbers 89 = .ok (.isub, 1) := by decide +kernel
theorem dX8_readNumbers_90 : decode cX8_readNumbers 90 = .ok (.iastore, 1) := by decide +kernel
theorem dX8_readNumbers_91 : decode cX8_readNumbers 91 = .ok (.aload_n 0, 1) := by decide +kernel
theorem dX8_readNumbers_92 : decode cX8_readNumbers 92 = .ok (.dup, 1) := by decide +kernel
theorem dX8_readNumbers_93 : decode cX8_readNumbers 93 = .ok (.getfield 95, 3) := by decide +kernel
theorem dX8_readNumbers_96 : decode cX8_readNumbers 96 = .ok (.iconst 1, 1) := by decide +kernel
theorem dX8_readNumbers_97 : decode cX8_readNumbers 97 = .ok (.iadd, 1) := by decide +kernel
theorem dX8_readNumbers_98 : decode cX8_readNumbers 98 = .ok (.putfield 95, 3) := by decide +kernel
theorem dX8_readNumbers_101 : decode cX8_readNumbers 101 = .ok (.aload_n 0, 1) := by decide +kernel
theorem dX8_readNumbers_102 : decode cX8_readNumbers 102 = .ok (.aload_n 0, 1) := by decide +kernel
theorem dX8_readNumbers_103 : decode cX8_readNumbers 103 = .ok (.getfield 95, 3) := by decide +kernel
theorem dX8_readNumbers_106 : decode cX8_readNumbers 106 = .ok (.invokevirtual 98, 3) := by decide +kernel
theorem dX8_readNumbers_109 : decode cX8_readNumbers 109 = .ok (.iload_n 2, 1) := by decide +kernel
theorem dX8_readNumbers_110 : decode cX8_readNumbers 110 = .ok (.iload_n 1, 1) := by decide +kernel
theorem dX8_readNumbers_111 : decode cX8_readNumbers 111 = .ok (.iconst 1, 1) := by decide +kernel
theorem dX8_readNumbers_112 : decode cX8_readNumbers 112 = .ok (.isub, 1) := by decide +kernel
theorem dX8_readNumbers_113 : decode cX8_readNumbers 113 = .ok (.if_icmp .ge 8, 3) := by decide +kernel
theorem dX8_readNumbers_116 : decode cX8_readNumbers 116 = .ok (.bipush 44, 2) := by decide +kernel
theorem dX8_readNumbers_118 : decode cX8_readNumbers 118 = .ok (.goto 5, 3) := by decide +kernel
theorem dX8_readNumbers_121 : decode cX8_readNumbers 121 = .ok (.bipush 59, 2) := by decide +kernel
theorem dX8_readNumbers_123 : decode cX8_readNumbers 123 = .ok (.if_icmp .eq 5, 3) := by decide +kernel
theorem dX8_readNumbers_126 : decode cX8_readNumbers 126 = .ok (.iconst 0, 1) := by decide +kernel
theorem dX8_readNumbers_127 : decode cX8_readNumbers 127 = .ok (.ireturn, 1) := by decide +kernel
theorem dX8_readNumbers_128 : decode cX8_readNumbers 128 = .ok (.aload_n 0, 1) := by decide +kernel
theorem dX8_readNumbers_129 : decode cX8_readNumbers 129 = .ok (.dup, 1) := by decide +kernel
theorem dX8_readNumbers_130 : decode cX8_readNumbers 130 = .ok (.getfield 95, 3) := by decide +kernel
theorem dX8_readNumbers_133 : decode cX8_readNumbers 133 = .ok (.iconst 1, 1) := by decide +kernel
theorem dX8_readNumbers_134 : decode cX8_readNumbers 134 = .ok (.iadd, 1) := by decide +kernel
theorem dX8_readNumbers_135 : decode cX8_readNumbers 135 = .ok (.putfield 95, 3) := by decide +kernel
theorem dX8_readNumbers_138 : decode cX8_readNumbers 138 = .ok (.iinc 2 1, 3) := by decide +kernel
theorem dX8_readNumbers_141 : decode cX8_readNumbers 141 = .ok (.goto (-139), 3) := by decide +kernel
theorem dX8_readNumbers_144 : decode cX8_readNumbers 144 = .ok (.iconst 1, 1) := by decide +kernel
theorem dX8_readNumbers_145 : decode cX8_readNumbers 145 = .ok (.ireturn, 1) := by decide +kernel
theorem gX8_isTold_X8_in : GoodIn wsX8_isTold (va_wsS RX8 85 yX8_in wsX8_in) := gwS aw_361 aw_362 aw_3 aw_363
theorem dX8_isTold_0 : decode cX8_isTold 0 = .ok (.aload_n 0, 1) := by decide +kernel
theorem dX8_isTold_1 : decode cX8_isTold 1 = .ok (.getfield 34, 3) := by decide +kernel
theorem dX8_isTold_4 : decode cX8_isTold 4 = .ok (.iload_n 1, 1) := by decide +kernel
theorem dX8_isTold_5 : decode cX8_isTold 5 = .ok (.iaload, 1) := by decide +kernel
theorem dX8_isTold_6 : decode cX8_isTold 6 = .ok (.iload_n 2, 1) := by decide +kernel
theorem dX8_isTold_7 : decode cX8_isTold 7 = .ok (.iload_n 3, 1) := by decide +kernel
theorem dX8_isTold_8 : decode cX8_isTold 8 = .ok (.invokestatic 85, 3) := by decide +kernel
theorem dX8_isTold_11 : decode cX8_isTold 11 = .ok (.ireturn, 1) := by decide +kernel
theorem dX8_clearTold_0 : decode cX8_clearTold 0 = .ok (.aload_n 0, 1) := by decide +kernel
theorem dX8_clearTold_1 : decode cX8_clearTold 1 = .ok (.iconst 0, 1) := by decide +kernel
theorem dX8_clearTold_2 : decode cX8_clearTold 2 = .ok (.putfield 106, 3) := by decide +kernel
theorem dX8_clearTold_5 : decode cX8_clearTold 5 = .ok (.aload_n 0, 1) := by decide +kernel
theorem dX8_clearTold_6 : decode cX8_clearTold 6 = .ok (.iconst 4, 1) := by decide +kernel
theorem dX8_clearTold_7 : decode cX8_clearTold 7 = .ok (.putfield 55, 3) := by decide +kernel
theorem dX8_clearTold_10 : decode cX8_clearTold 10 = .ok (.aload_n 0, 1) := by decide +kernel
theorem dX8_clearTold_11 : decode cX8_clearTold 11 = .ok (.iconst 0, 1) := by decide +kernel
theorem dX8_clearTold_12 : decode cX8_clearTold 12 = .ok (.putfield 76, 3) := by decide +kernel
theorem dX8_clearTold_15 : decode cX8_clearTold 15 = .ok (.aload_n 0, 1) := by decide +kernel
theorem dX8_clearTold_16 : decode cX8_clearTold 16 = .ok (.iconst 0, 1) := by decide +kernel
theorem dX8_clearTold_17 : decode cX8_clearTold 17 = .ok (.putfield 79, 3) := by decide +kernel
theorem dX8_clearTold_20 : decode cX8_clearTold 20 = .ok (.aload_n 0, 1) := by decide +kernel
theorem dX8_clearTold_21 : decode cX8_clearTold 21 = .ok (.iconst 0, 1) := by decide +kernel
theorem dX8_clearTold_22 : decode cX8_clearTold 22 = .ok (.putfield 67, 3) := by decide +kernel
theorem dX8_clearTold_25 : decode cX8_clearTold 25 = .ok (.aload_n 0, 1) := by decide +kernel
theorem dX8_clearTold_26 : decode cX8_clearTold 26 = .ok (.iconst 3, 1) := by decide +kernel
theorem dX8_clearTold_27 : decode cX8_clearTold 27 = .ok (.putfield 70, 3) := by decide +kernel
theorem dX8_clearTold_30 : decode cX8_clearTold 30 = .ok (.iconst 0, 1) := by decide +kernel
theorem dX8_clearTold_31 : decode cX8_clearTold 31 = .ok (.istore_n 1, 1) := by decide +kernel
theorem dX8_clearTold_32 : decode cX8_clearTold 32 = .ok (.iload_n 1, 1) := by decide +kernel
theorem dX8_clearTold_33 : decode cX8_clearTold 33 = .ok (.bipush 115, 2) := by decide +kernel
theorem dX8_clearTold_35 : decode cX8_clearTold 35 = .ok (.if_icmp .ge 16, 3) := by decide +kernel
theorem dX8_clearTold_38 : decode cX8_clearTold 38 = .ok (.aload_n 0, 1) := by decide +kernel
theorem dX8_clearTold_39 : decode cX8_clearTold 39 = .ok (.getfield 46, 3) := by decide +kernel
theorem dX8_clearTold_42 : decode cX8_clearTold 42 = .ok (.iload_n 1, 1) := by decide +kernel
theorem dX8_clearTold_43 : decode cX8_clearTold 43 = .ok (.iconst 0, 1) := by decide +kernel
theorem dX8_clearTold_44 : decode cX8_clearTold 44 = .ok (.iastore, 1) := by decide +kernel
theorem dX8_clearTold_45 : decode cX8_clearTold 45 = .ok (.iinc 1 1, 3) := by decide +kernel
theorem dX8_clearTold_48 : decode cX8_clearTold 48 = .ok (.goto (-16), 3) := by decide +kernel
theorem dX8_clearTold_51 : decode cX8_clearTold 51 = .ok (.return_, 1) := by decide +kernel
theorem gX8_readPersonsOf_X8_readNumbers : GoodIn wsX8_readPersonsOf (wsV RX8 110 RX8 yX8_readNumbers wsX8_readNumbers) := gwV aw_389 aw_390 aw_391 aw_3 aw_392
theorem gX8_readPersonsOf_X8_isTold : GoodIn wsX8_readPersonsOf (wsV RX8 113 RX8 yX8_isTold wsX8_isTold) := gwV aw_396 aw_397 aw_398 aw_3 aw_399
theorem dX8_readPersonsOf_0 : decode cX8_readPersonsOf 0 = .ok (.aload_n 0, 1) := by decide +kernel
theorem dX8_readPersonsOf_1 : decode cX8_readPersonsOf 1 = .ok (.getfield 106, 3) := by decide +kernel
theorem dX8_readPersonsOf_4 : decode cX8_readPersonsOf 4 = .ok (.ifCond .ne 26, 3) := by decide +kernel
theorem dX8_readPersonsOf_7 : decode cX8_readPersonsOf 7 = .ok (.aload_n 0, 1) := by decide +kernel
theorem dX8_readPersonsOf_8 : decode cX8_readPersonsOf 8 = .ok (.iconst 1, 1) := by decide +kernel
theorem dX8_readPersonsOf_9 : decode cX8_readPersonsOf 9 = .ok (.invokevirtual 110, 3) := by decide +kernel
theorem dX8_readPersonsOf_12 : decode cX8_readPersonsOf 12 = .ok (.ifCond .eq 18, 3) := by decide +kernel
theorem dX8_readPersonsOf_15 : decode cX8_readPersonsOf 15 = .ok (.aload_n 0, 1) := by decide +kernel
theorem dX8_readPersonsOf_16 : decode cX8_readPersonsOf 16 = .ok (.iconst 0, 1) := by decide +kernel
theorem dX8_readPersonsOf_17 : decode cX8_readPersonsOf 17 = .ok (.iconst 2, 1) := by decide +kernel
theorem dX8_readPersonsOf_18 : decode cX8_readPersonsOf 18 = .ok (.bipush 8, 2) := by decide +kernel
theorem dX8_readPersonsOf_20 : decode cX8_readPersonsOf 20 = .ok (.invokevirtual 113, 3) := by decide +kernel
theorem dX8_readPersonsOf_23 : decode cX8_readPersonsOf 23 = .ok (.ifCond .eq 7, 3) := by decide +kernel
theorem dX8_readPersonsOf_26 : decode cX8_readPersonsOf 26 = .ok (.iconst 1, 1) := by decide +kernel
theorem dX8_readPersonsOf_27 : decode cX8_readPersonsOf 27 = .ok (.goto 4, 3) := by decide +kernel
theorem dX8_readPersonsOf_30 : decode cX8_readPersonsOf 30 = .ok (.iconst 0, 1) := by decide +kernel
theorem dX8_readPersonsOf_31 : decode cX8_readPersonsOf 31 = .ok (.istore_n 1, 1) := by decide +kernel
theorem dX8_readPersonsOf_32 : decode cX8_readPersonsOf 32 = .ok (.aload_n 0, 1) := by decide +kernel
theorem dX8_readPersonsOf_33 : decode cX8_readPersonsOf 33 = .ok (.iload_n 1, 1) := by decide +kernel
theorem dX8_readPersonsOf_34 : decode cX8_readPersonsOf 34 = .ok (.ifCond .eq 12, 3) := by decide +kernel
theorem dX8_readPersonsOf_37 : decode cX8_readPersonsOf 37 = .ok (.aload_n 0, 1) := by decide +kernel
theorem dX8_readPersonsOf_38 : decode cX8_readPersonsOf 38 = .ok (.getfield 34, 3) := by decide +kernel
theorem dX8_readPersonsOf_41 : decode cX8_readPersonsOf 41 = .ok (.iconst 0, 1) := by decide +kernel
theorem dX8_readPersonsOf_42 : decode cX8_readPersonsOf 42 = .ok (.iaload, 1) := by decide +kernel
theorem dX8_readPersonsOf_43 : decode cX8_readPersonsOf 43 = .ok (.goto 7, 3) := by decide +kernel
theorem dX8_readPersonsOf_46 : decode cX8_readPersonsOf 46 = .ok (.aload_n 0, 1) := by decide +kernel
theorem dX8_readPersonsOf_47 : decode cX8_readPersonsOf 47 = .ok (.getfield 55, 3) := by decide +kernel
theorem dX8_readPersonsOf_50 : decode cX8_readPersonsOf 50 = .ok (.putfield 55, 3) := by decide +kernel
theorem dX8_readPersonsOf_53 : decode cX8_readPersonsOf 53 = .ok (.iload_n 1, 1) := by decide +kernel
theorem dX8_readPersonsOf_54 : decode cX8_readPersonsOf 54 = .ok (.ireturn, 1) := by decide +kernel
theorem gX8_readPersonOf_X8_letterAt : GoodIn wsX8_readPersonOf (wsV RX8 98 RX8 yX8_letterAt wsX8_letterAt) := gwV aw_381 aw_382 aw_383 aw_3 aw_384
theorem gX8_readPersonOf_X8_in : GoodIn wsX8_readPersonOf (va_wsS RX8 85 yX8_in wsX8_in) := gwS aw_361 aw_362 aw_3 aw_363
theorem gX8_readPersonOf_X8_isFigure : GoodIn wsX8_readPersonOf (va_wsS RX8 102 yX8_isFigure wsX8_isFigure) := gwS aw_393 aw_394 aw_3 aw_395
theorem dX8_readPersonOf_0 : decode cX8_readPersonOf 0 = .ok (.aload_n 0, 1) := by decide +kernel
theorem dX8_readPersonOf_1 : decode cX8_readPersonOf 1 = .ok (.getfield 76, 3) := by decide +kernel
theorem dX8_readPersonOf_4 : decode cX8_readPersonOf 4 = .ok (.aload_n 0, 1) := by decide +kernel
theorem dX8_readPersonOf_5 : decode cX8_readPersonOf 5 = .ok (.getfield 55, 3) := by decide +kernel
theorem dX8_readPersonOf_8 : decode cX8_readPersonOf 8 = .ok (.if_icmp .eq 21, 3) := by decide +kernel
theorem dX8_readPersonOf_11 : decode cX8_readPersonOf 11 = .ok (.aload_n 0, 1) := by decide +kernel
theorem dX8_readPersonOf_12 : decode cX8_readPersonOf 12 = .ok (.aload_n 0, 1) := by decide +kernel
theorem dX8_readPersonOf_13 : decode cX8_readPersonOf 13 = .ok (.getfield 95, 3) := by decide +kernel
theorem dX8_readPersonOf_16 : decode cX8_readPersonOf 16 = .ok (.invokevirtual 98, 3) := by decide +kernel
theorem dX8_readPersonOf_19 : decode cX8_readPersonOf 19 = .ok (.bipush 48, 2) := by decide +kernel
theorem dX8_readPersonOf_21 : decode cX8_readPersonOf 21 = .ok (.bipush 51, 2) := by decide +kernel
theorem dX8_readPersonOf_23 : decode cX8_readPersonOf 23 = .ok (.invokestatic 85, 3) := by decide +kernel
theorem dX8_readPersonOf_26 : decode cX8_readPersonOf 26 = .ok (.ifCond .ne 5, 3) := by decide +kernel
theorem dX8_readPersonOf_29 : decode cX8_readPersonOf 29 = .ok (.iconst 0, 1) := by decide +kernel
theorem dX8_readPersonOf_30 : decode cX8_readPersonOf 30 = .ok (.ireturn, 1) := by decide +kernel
theorem dX8_readPersonOf_31 : decode cX8_readPersonOf 31 = .ok (.aload_n 0, 1) := by decide +kernel
theorem dX8_readPersonOf_32 : decode cX8_readPersonOf 32 = .ok (.getfield 37, 3) := by decide +kernel
theorem dX8_readPersonOf_35 : decode cX8_readPersonOf 35 = .ok (.aload_n 0, 1) := by decide +kernel
theorem dX8_readPersonOf_36 : decode cX8_readPersonOf 36 = .ok (.getfield 76, 3) := by decide +kernel
theorem dX8_readPersonOf_39 : decode cX8_readPersonOf 39 = .ok (.aload_n 0, 1) := by decide +kernel
theorem dX8_readPersonOf_40 : decode cX8_readPersonOf 40 = .ok (.aload_n 0, 1) := by decide +kernel
theorem dX8_readPersonOf_41 : decode cX8_readPersonOf 41 = .ok (.getfield 95, 3) := by decide +kernel
theorem dX8_readPersonOf_44 : decode cX8_readPersonOf 44 = .ok (.invokevirtual 98, 3) := by decide +kernel
theorem dX8_readPersonOf_47 : decode cX8_readPersonOf 47 = .ok (.bipush 48, 2) := by decide +kernel
theorem dX8_readPersonOf_49 : decode cX8_readPersonOf 49 = .ok (.isub, 1) := by decide +kernel
theorem dX8_readPersonOf_50 : decode cX8_readPersonOf 50 = .ok (.iastore, 1) := by decide +kernel
theorem dX8_readPersonOf_51 : decode cX8_readPersonOf 51 = .ok (.aload_n 0, 1) := by decide +kernel
theorem dX8_readPersonOf_52 : decode cX8_readPersonOf 52 = .ok (.dup, 1) := by decide +kernel
theorem dX8_readPersonOf_53 : decode cX8_readPersonOf 53 = .ok (.getfield 95, 3) := by decide +kernel
theorem dX8_readPersonOf_56 : decode cX8_readPersonOf 56 = .ok (.iconst 1, 1) := by decide +kernel
theorem dX8_readPersonOf_57 : decode cX8_readPersonOf 57 = .ok (.iadd, 1) := by decide +kernel
theorem dX8_readPersonOf_58 : decode cX8_readPersonOf 58 = .ok (.putfield 95, 3) := by decide +kernel
theorem dX8_readPersonOf_61 : decode cX8_readPersonOf 61 = .ok (.iconst 0, 1) := by decide +kernel
theorem dX8_readPersonOf_62 : decode cX8_readPersonOf 62 = .ok (.istore_n 1, 1) := by decide +kernel
theorem dX8_readPersonOf_63 : decode cX8_readPersonOf 63 = .ok (.iload_n 1, 1) := by decide +kernel
theorem dX8_readPersonOf_64 : decode cX8_readPersonOf 64 = .ok (.aload_n 0, 1) := by decide +kernel
theorem dX8_readPersonOf_65 : decode cX8_readPersonOf 65 = .ok (.getfield 55, 3) := by decide +kernel
theorem dX8_readPersonOf_68 : decode cX8_readPersonOf 68 = .ok (.if_icmp .ge 62, 3) := by decide +kernel
theorem dX8_readPersonOf_71 : decode cX8_readPersonOf 71 = .ok (.aload_n 0, 1) := by decide +kernel
theorem dX8_readPersonOf_72 : decode cX8_readPersonOf 72 = .ok (.aload_n 0, 1) := by decide +kernel
theorem dX8_readPersonOf_73 : decode cX8_readPersonOf 73 = .ok (.getfield 95, 3) := by decide +kernel
theorem dX8_readPersonOf_76 : decode cX8_readPersonOf 76 = .ok (.invokevirtual 98, 3) := by decide +kernel
theorem dX8_readPersonOf_79 : decode cX8_readPersonOf 79 = .ok (.invokestatic 102, 3) := by decide +kernel
theorem dX8_readPersonOf_82 : decode cX8_readPersonOf 82 = .ok (.ifCond .ne 5, 3) := by decide +kernel
theorem dX8_readPersonOf_85 : decode cX8_readPersonOf 85 = .ok (.iconst 0, 1) := by decide +kernel
theorem dX8_readPersonOf_86 : decode cX8_readPersonOf 86 = .ok (.ireturn, 1) := by decide +kernel
theorem dX8_readPersonOf_87 : decode cX8_readPersonOf 87 = .ok (.aload_n 0, 1) := by decide +kernel
theorem dX8_readPersonOf_88 : decode cX8_readPersonOf 88 = .ok (.getfield 46, 3) := by decide +kernel
theorem dX8_readPersonOf_91 : decode cX8_readPersonOf 91 = .ok (.iconst 1, 1) := by decide +kernel
theorem dX8_readPersonOf_92 : decode cX8_readPersonOf 92 = .ok (.bipush 8, 2) := by decide +kernel
theorem dX8_readPersonOf_94 : decode cX8_readPersonOf 94 = .ok (.aload_n 0, 1) := by decide +kernel
theorem dX8_readPersonOf_95 : decode cX8_readPersonOf 95 = .ok (.getfield 76, 3) := by decide +kernel
theorem dX8_readPersonOf_98 : decode cX8_readPersonOf 98 = .ok (.imul, 1) := by decide +kernel
theorem dX8_readPersonOf_99 : decode cX8_readPersonOf 99 = .ok (.iadd, 1) := by decide +kernel
theorem dX8_readPersonOf_100 : decode cX8_readPersonOf 100 = .ok (.iload_n 1, 1) := by decide +kernel
theorem dX8_readPersonOf_101 : decode cX8_readPersonOf 101 = .ok (.iadd, 1) := by decide +kernel
theorem dX8_readPersonOf_102 : decode cX8_readPersonOf 102 = .ok (.aload_n 0, 1) := by decide +kernel
theorem dX8_readPersonOf_103 : decode cX8_readPersonOf 103 = .ok (.aload_n 0, 1) := by decide +kernel
theorem dX8_readPersonOf_104 : decode cX8_readPersonOf 104 = .ok (.getfield 95, 3) := by decide +kernel
theorem dX8_readPersonOf_107 : decode cX8_readPersonOf 107 = .ok (.invokevirtual 98, 3) := by decide +kernel
theorem dX8_readPersonOf_110 : decode cX8_readPersonOf 110 = .ok (.bipush 48, 2) := by decide +kernel
theorem dX8_readPersonOf_112 : decode cX8_readPersonOf 112 = .ok (.isub, 1) := by decide +kernel
theorem dX8_readPersonOf_113 : decode cX8_readPersonOf 113 = .ok (.iastore, 1) := by decide +kernel
theorem dX8_readPersonOf_114 : decode cX8_readPersonOf 114 = .ok (.aload_n 0, 1) := by decide +kernel
theorem dX8_readPersonOf_115 : decode cX8_readPersonOf 115 = .ok (.dup, 1) := by decide +kernel
theorem dX8_readPersonOf_116 : decode cX8_readPersonOf 116 = .ok (.getfield 95, 3) := by decide +kernel
theorem dX8_readPersonOf_119 : decode cX8_readPersonOf 119 = .ok (.iconst 1, 1) := by decide +kernel
theorem dX8_readPersonOf_120 : decode cX8_readPersonOf 120 = .ok (.iadd, 1) := by decide +kernel
theorem dX8_readPersonOf_121 : decode cX8_readPersonOf 121 = .ok (.putfield 95, 3) := by decide +kernel
theorem dX8_readPersonOf_124 : decode cX8_readPersonOf 124 = .ok (.iinc 1 1, 3) := by decide +kernel
theorem dX8_readPersonOf_127 : decode cX8_readPersonOf 127 = .ok (.goto (-64), 3) := by decide +kernel
theorem dX8_readPersonOf_130 : decode cX8_readPersonOf 130 = .ok (.aload_n 0, 1) := by decide +kernel
theorem dX8_readPersonOf_131 : decode cX8_readPersonOf 131 = .ok (.aload_n 0, 1) := by decide +kernel
theorem dX8_readPersonOf_132 : decode cX8_readPersonOf 132 = .ok (.getfield 95, 3) := by decide +kernel
theorem dX8_readPersonOf_135 : decode cX8_readPersonOf 135 = .ok (.invokevirtual 98, 3) := by decide +kernel
theorem dX8_readPersonOf_138 : decode cX8_readPersonOf 138 = .ok (.bipush 59, 2) := by decide +kernel
theorem dX8_readPersonOf_140 : decode cX8_readPersonOf 140 = .ok (.if_icmp .ne 7, 3) := by decide +kernel
theorem dX8_readPersonOf_143 : decode cX8_readPersonOf 143 = .ok (.iconst 1, 1) := by decide +kernel
theorem dX8_readPersonOf_144 : decode cX8_readPersonOf 144 = .ok (.goto 4, 3) := by decide +kernel
theorem dX8_readPersonOf_147 : decode cX8_readPersonOf 147 = .ok (.iconst 0, 1) := by decide +kernel
theorem dX8_readPersonOf_148 : decode cX8_readPersonOf 148 = .ok (.istore_n 1, 1) := by decide +kernel
theorem dX8_readPersonOf_149 : decode cX8_readPersonOf 149 = .ok (.aload_n 0, 1) := by decide +kernel
theorem dX8_readPersonOf_150 : decode cX8_readPersonOf 150 = .ok (.dup, 1) := by decide +kernel
theorem dX8_readPersonOf_151 : decode cX8_readPersonOf 151 = .ok (.getfield 95, 3) := by decide +kernel
theorem dX8_readPersonOf_154 : decode cX8_readPersonOf 154 = .ok (.iconst 1, 1) := by decide +kernel
theorem dX8_readPersonOf_155 : decode cX8_readPersonOf 155 = .ok (.iadd, 1) := by decide +kernel
theorem dX8_readPersonOf_156 : decode cX8_readPersonOf 156 = .ok (.putfield 95, 3) := by decide +kernel
theorem dX8_readPersonOf_159 : decode cX8_readPersonOf 159 = .ok (.aload_n 0, 1) := by decide +kernel
theorem dX8_readPersonOf_160 : decode cX8_readPersonOf 160 = .ok (.dup, 1) := by decide +kernel
theorem dX8_readPersonOf_161 : decode cX8_readPersonOf 161 = .ok (.getfield 76, 3) := by decide +kernel
theorem dX8_readPersonOf_164 : decode cX8_readPersonOf 164 = .ok (.iconst 1, 1) := by decide +kernel
theorem dX8_readPersonOf_165 : decode cX8_readPersonOf 165 = .ok (.iadd, 1) := by decide +kernel
theorem dX8_readPersonOf_166 : decode cX8_readPersonOf 166 = .ok (.putfield 76, 3) := by decide +kernel
theorem dX8_readPersonOf_169 : decode cX8_readPersonOf 169 = .ok (.iload_n 1, 1) := by decide +kernel
theorem dX8_readPersonOf_170 : decode cX8_readPersonOf 170 = .ok (.ireturn, 1) := by decide +kernel
theorem gX8_readDoorOf_X8_readNumbers : GoodIn wsX8_readDoorOf (wsV RX8 110 RX8 yX8_readNumbers wsX8_readNumbers) := gwV aw_389 aw_390 aw_391 aw_3 aw_392
theorem gX8_readDoorOf_X8_isTold : GoodIn wsX8_readDoorOf (wsV RX8 113 RX8 yX8_isTold wsX8_isTold) := gwV aw_396 aw_397 aw_398 aw_3 aw_399
theorem gX8_readDoorOf_X8_tellsDoor : GoodIn wsX8_readDoorOf (wsV RX8 63 RX8 yX8_tellsDoor wsX8_tellsDoor) := gwV aw_316 aw_317 aw_318 aw_3 aw_319
theorem dX8_readDoorOf_0 : decode cX8_readDoorOf 0 = .ok (.aload_n 0, 1) := by decide +kernel
theorem dX8_readDoorOf_1 : decode cX8_readDoorOf 1 = .ok (.getfield 79, 3) := by decide +kernel
theorem dX8_readDoorOf_4 : decode cX8_readDoorOf 4 = .ok (.iconst 5, 1) := by decide +kernel
theorem dX8_readDoorOf_5 : decode cX8_readDoorOf 5 = .ok (.if_icmp .eq 41, 3) := by decide +kernel
theorem dX8_readDoorOf_8 : decode cX8_readDoorOf 8 = .ok (.aload_n 0, 1) := by decide +kernel
theorem dX8_readDoorOf_9 : decode cX8_readDoorOf 9 = .ok (.iconst 2, 1) := by decide +kernel
theorem dX8_readDoorOf_10 : decode cX8_readDoorOf 10 = .ok (.invokevirtual 110, 3) := by decide +kernel
theorem dX8_readDoorOf_13 : decode cX8_readDoorOf 13 = .ok (.ifCond .eq 33, 3) := by decide +kernel
theorem dX8_readDoorOf_16 : decode cX8_readDoorOf 16 = .ok (.aload_n 0, 1) := by decide +kernel
theorem dX8_readDoorOf_17 : decode cX8_readDoorOf 17 = .ok (.iconst 0, 1) := by decide +kernel
theorem dX8_readDoorOf_18 : decode cX8_readDoorOf 18 = .ok (.iconst 0, 1) := by decide +kernel
theorem dX8_readDoorOf_19 : decode cX8_readDoorOf 19 = .ok (.aload_n 0, 1) := by decide +kernel
theorem dX8_readDoorOf_20 : decode cX8_readDoorOf 20 = .ok (.getfield 55, 3) := by decide +kernel
theorem dX8_readDoorOf_23 : decode cX8_readDoorOf 23 = .ok (.iconst 1, 1) := by decide +kernel
theorem dX8_readDoorOf_24 : decode cX8_readDoorOf 24 = .ok (.isub, 1) := by decide +kernel
theorem dX8_readDoorOf_25 : decode cX8_readDoorOf 25 = .ok (.invokevirtual 113, 3) := by decide +kernel
theorem dX8_readDoorOf_28 : decode cX8_readDoorOf 28 = .ok (.ifCond .eq 18, 3) := by decide +kernel
theorem dX8_readDoorOf_31 : decode cX8_readDoorOf 31 = .ok (.aload_n 0, 1) := by decide +kernel
theorem dX8_readDoorOf_32 : decode cX8_readDoorOf 32 = .ok (.iconst 1, 1) := by decide +kernel
theorem dX8_readDoorOf_33 : decode cX8_readDoorOf 33 = .ok (.iconst 0, 1) := by decide +kernel
theorem dX8_readDoorOf_34 : decode cX8_readDoorOf 34 = .ok (.aload_n 0, 1) := by decide +kernel
theorem dX8_readDoorOf_35 : decode cX8_readDoorOf 35 = .ok (.getfield 55, 3) := by decide +kernel
theorem dX8_readDoorOf_38 : decode cX8_readDoorOf 38 = .ok (.iconst 1, 1) := by decide +kernel
theorem dX8_readDoorOf_39 : decode cX8_readDoorOf 39 = .ok (.isub, 1) := by decide +kernel
theorem dX8_readDoorOf_40 : decode cX8_readDoorOf 40 = .ok (.invokevirtual 113, 3) := by decide +kernel
theorem dX8_readDoorOf_43 : decode cX8_readDoorOf 43 = .ok (.ifCond .ne 5, 3) := by decide +kernel
theorem dX8_readDoorOf_46 : decode cX8_readDoorOf 46 = .ok (.iconst 0, 1) := by decide +kernel
theorem dX8_readDoorOf_47 : decode cX8_readDoorOf 47 = .ok (.ireturn, 1) := by decide +kernel
theorem dX8_readDoorOf_48 : decode cX8_readDoorOf 48 = .ok (.aload_n 0, 1) := by decide +kernel
theorem dX8_readDoorOf_49 : decode cX8_readDoorOf 49 = .ok (.aload_n 0, 1) := by decide +kernel
theorem dX8_readDoorOf_50 : decode cX8_readDoorOf 50 = .ok (.getfield 34, 3) := by decide +kernel
theorem dX8_readDoorOf_53 : decode cX8_readDoorOf 53 = .ok (.iconst 0, 1) := by decide +kernel
theorem dX8_readDoorOf_54 : decode cX8_readDoorOf 54 = .ok (.iaload, 1) := by decide +kernel
theorem dX8_readDoorOf_55 : decode cX8_readDoorOf 55 = .ok (.aload_n 0, 1) := by decide +kernel
theorem dX8_readDoorOf_56 : decode cX8_readDoorOf 56 = .ok (.getfield 34, 3) := by decide +kernel
theorem dX8_readDoorOf_59 : decode cX8_readDoorOf 59 = .ok (.iconst 1, 1) := by decide +kernel
theorem dX8_readDoorOf_60 : decode cX8_readDoorOf 60 = .ok (.iaload, 1) := by decide +kernel
theorem dX8_readDoorOf_61 : decode cX8_readDoorOf 61 = .ok (.invokevirtual 63, 3) := by decide +kernel
theorem dX8_readDoorOf_64 : decode cX8_readDoorOf 64 = .ok (.iconst 1, 1) := by decide +kernel
theorem dX8_readDoorOf_65 : decode cX8_readDoorOf 65 = .ok (.ireturn, 1) := by decide +kernel
theorem gX8_readWordOf_X8_readNumbers : GoodIn wsX8_readWordOf (wsV RX8 110 RX8 yX8_readNumbers wsX8_readNumbers) := gwV aw_389 aw_390 aw_391 aw_3 aw_392
theorem gX8_readWordOf_X8_isTold : GoodIn wsX8_readWordOf (wsV RX8 113 RX8 yX8_isTold wsX8_isTold) := gwV aw_396 aw_397 aw_398 aw_3 aw_399
theorem dX8_readWordOf_0 : decode cX8_readWordOf 0 = .ok (.aload_n 0, 1) := by decide +kernel
theorem dX8_readWordOf_1 : decode cX8_readWordOf 1 = .ok (.getfield 67, 3) := by decide +kernel
theorem dX8_readWordOf_4 : decode cX8_readWordOf 4 = .ok (.bipush 6, 2) := by decide +kernel
theorem dX8_readWordOf_6 : decode cX8_readWordOf 6 = .ok (.if_icmp .eq 22, 3) := by decide +kernel
theorem dX8_readWordOf_9 : decode cX8_readWordOf 9 = .ok (.aload_n 0, 1) := by decide +kernel
theorem dX8_readWordOf_10 : decode cX8_readWordOf 10 = .ok (.iconst 1, 1) := by decide +kernel
theorem dX8_readWordOf_11 : decode cX8_readWordOf 11 = .ok (.invokevirtual 110, 3) := by decide +kernel
theorem dX8_readWordOf_14 : decode cX8_readWordOf 14 = .ok (.ifCond .eq 14, 3) := by decide +kernel
theorem dX8_readWordOf_17 : decode cX8_readWordOf 17 = .ok (.aload_n 0, 1) := by decide +kernel
theorem dX8_readWordOf_18 : decode cX8_readWordOf 18 = .ok (.iconst 0, 1) := by decide +kernel
theorem dX8_readWordOf_19 : decode cX8_readWordOf 19 = .ok (.iconst 1, 1) := by decide +kernel
theorem dX8_readWordOf_20 : decode cX8_readWordOf 20 = .ok (.bipush 60, 2) := by decide +kernel
theorem dX8_readWordOf_22 : decode cX8_readWordOf 22 = .ok (.invokevirtual 113, 3) := by decide +kernel
theorem dX8_readWordOf_25 : decode cX8_readWordOf 25 = .ok (.ifCond .ne 5, 3) := by decide +kernel
theorem dX8_readWordOf_28 : decode cX8_readWordOf 28 = .ok (.iconst 0, 1) := by decide +kernel
theorem dX8_readWordOf_29 : decode cX8_readWordOf 29 = .ok (.ireturn, 1) := by decide +kernel
theorem dX8_readWordOf_30 : decode cX8_readWordOf 30 = .ok (.aload_n 0, 1) := by decide +kernel
theorem dX8_readWordOf_31 : decode cX8_readWordOf 31 = .ok (.getfield 43, 3) := by decide +kernel
theorem dX8_readWordOf_34 : decode cX8_readWordOf 34 = .ok (.aload_n 0, 1) := by decide +kernel
theorem dX8_readWordOf_35 : decode cX8_readWordOf 35 = .ok (.getfield 67, 3) := by decide +kernel
theorem dX8_readWordOf_38 : decode cX8_readWordOf 38 = .ok (.aload_n 0, 1) := by decide +kernel
theorem dX8_readWordOf_39 : decode cX8_readWordOf 39 = .ok (.getfield 34, 3) := by decide +kernel
theorem dX8_readWordOf_42 : decode cX8_readWordOf 42 = .ok (.iconst 0, 1) := by decide +kernel
theorem dX8_readWordOf_43 : decode cX8_readWordOf 43 = .ok (.iaload, 1) := by decide +kernel
theorem dX8_readWordOf_44 : decode cX8_readWordOf 44 = .ok (.iastore, 1) := by decide +kernel
theorem dX8_readWordOf_45 : decode cX8_readWordOf 45 = .ok (.aload_n 0, 1) := by decide +kernel
theorem dX8_readWordOf_46 : decode cX8_readWordOf 46 = .ok (.dup, 1) := by decide +kernel
theorem dX8_readWordOf_47 : decode cX8_readWordOf 47 = .ok (.getfield 67, 3) := by decide +kernel
theorem dX8_readWordOf_50 : decode cX8_readWordOf 50 = .ok (.iconst 1, 1) := by decide +kernel
theorem dX8_readWordOf_51 : decode cX8_readWordOf 51 = .ok (.iadd, 1) := by decide +kernel
theorem dX8_readWordOf_52 : decode cX8_readWordOf 52 = .ok (.putfield 67, 3) := by decide +kernel
theorem dX8_readWordOf_55 : decode cX8_readWordOf 55 = .ok (.iconst 1, 1) := by decide +kernel
theorem dX8_readWordOf_56 : decode cX8_readWordOf 56 = .ok (.ireturn, 1) := by decide +kernel
theorem gX8_readBarsOf_X8_readNumbers : GoodIn wsX8_readBarsOf (wsV RX8 110 RX8 yX8_readNumbers wsX8_readNumbers) := gwV aw_389 aw_390 aw_391 aw_3 aw_392
theorem gX8_readBarsOf_X8_isTold : GoodIn wsX8_readBarsOf (wsV RX8 113 RX8 yX8_isTold wsX8_isTold) := gwV aw_396 aw_397 aw_398 aw_3 aw_399
theorem dX8_readBarsOf_0 : decode cX8_readBarsOf 0 = .ok (.aload_n 0, 1) := by decide +kernel
theorem dX8_readBarsOf_1 : decode cX8_readBarsOf 1 = .ok (.iconst 1, 1) := by decide +kernel
theorem dX8_readBarsOf_2 : decode cX8_readBarsOf 2 = .ok (.invokevirtual 110, 3) := by decide +kernel
theorem dX8_readBarsOf_5 : decode cX8_readBarsOf 5 = .ok (.ifCond .eq 18, 3) := by decide +kernel
theorem dX8_readBarsOf_8 : decode cX8_readBarsOf 8 = .ok (.aload_n 0, 1) := by decide +kernel
theorem dX8_readBarsOf_9 : decode cX8_readBarsOf 9 = .ok (.iconst 0, 1) := by decide +kernel
theorem dX8_readBarsOf_10 : decode cX8_readBarsOf 10 = .ok (.iconst 1, 1) := by decide +kernel
theorem dX8_readBarsOf_11 : decode cX8_readBarsOf 11 = .ok (.bipush 9, 2) := by decide +kernel
theorem dX8_readBarsOf_13 : decode cX8_readBarsOf 13 = .ok (.invokevirtual 113, 3) := by decide +kernel
theorem dX8_readBarsOf_16 : decode cX8_readBarsOf 16 = .ok (.ifCond .eq 7, 3) := by decide +kernel
theorem dX8_readBarsOf_19 : decode cX8_readBarsOf 19 = .ok (.iconst 1, 1) := by decide +kernel
theorem dX8_readBarsOf_20 : decode cX8_readBarsOf 20 = .ok (.goto 4, 3) := by decide +kernel
theorem dX8_readBarsOf_23 : decode cX8_readBarsOf 23 = .ok (.iconst 0, 1) := by decide +kernel
theorem dX8_readBarsOf_24 : decode cX8_readBarsOf 24 = .ok (.istore_n 1, 1) := by decide +kernel
theorem dX8_readBarsOf_25 : decode cX8_readBarsOf 25 = .ok (.aload_n 0, 1) := by decide +kernel
theorem dX8_readBarsOf_26 : decode cX8_readBarsOf 26 = .ok (.iload_n 1, 1) := by decide +kernel
theorem dX8_readBarsOf_27 : decode cX8_readBarsOf 27 = .ok (.ifCond .eq 12, 3) := by decide +kernel
theorem dX8_readBarsOf_30 : decode cX8_readBarsOf 30 = .ok (.aload_n 0, 1) := by decide +kernel
theorem dX8_readBarsOf_31 : decode cX8_readBarsOf 31 = .ok (.getfield 34, 3) := by decide +kernel
theorem dX8_readBarsOf_34 : decode cX8_readBarsOf 34 = .ok (.iconst 0, 1) := by decide +kernel
theorem dX8_readBarsOf_35 : decode cX8_readBarsOf 35 = .ok (.iaload, 1) := by decide +kernel
theorem dX8_readBarsOf_36 : decode cX8_readBarsOf 36 = .ok (.goto 7, 3) := by decide +kernel
theorem dX8_readBarsOf_39 : decode cX8_readBarsOf 39 = .ok (.aload_n 0, 1) := by decide +kernel
theorem dX8_readBarsOf_40 : decode cX8_readBarsOf 40 = .ok (.getfield 70, 3) := by decide +kernel
theorem dX8_readBarsOf_43 : decode cX8_readBarsOf 43 = .ok (.putfield 70, 3) := by decide +kernel
theorem dX8_readBarsOf_46 : decode cX8_readBarsOf 46 = .ok (.iload_n 1, 1) := by decide +kernel
theorem dX8_readBarsOf_47 : decode cX8_readBarsOf 47 = .ok (.ireturn, 1) := by decide +kernel
theorem gX8_readItem_X8_letterAt : GoodIn wsX8_readItem (wsV RX8 98 RX8 yX8_letterAt wsX8_letterAt) := gwV aw_381 aw_382 aw_383 aw_3 aw_384
theorem gX8_readItem_X8_readPersonsOf : GoodIn wsX8_readItem (wsV RX8 116 RX8 yX8_readPersonsOf wsX8_readPersonsOf) := gwV aw_385 aw_386 aw_387 aw_3 aw_388
theorem gX8_readItem_X8_readPersonOf : GoodIn wsX8_readItem (wsV RX8 120 RX8 yX8_readPersonOf wsX8_readPersonOf) := gwV aw_400 aw_401 aw_402 aw_3 aw_403
theorem gX8_readItem_X8_readDoorOf : GoodIn wsX8_readItem (wsV RX8 123 RX8 yX8_readDoorOf wsX8_readDoorOf) := gwV aw_404 aw_405 aw_406 aw_3 aw_407
theorem gX8_readItem_X8_readWordOf : GoodIn wsX8_readItem (wsV RX8 126 RX8 yX8_readWordOf wsX8_readWordOf) := gwV aw_408 aw_409 aw_410 aw_3 aw_411
theorem gX8_readItem_X8_readBarsOf : GoodIn wsX8_readItem (wsV RX8 129 RX8 yX8_readBarsOf wsX8_readBarsOf) := gwV aw_412 aw_413 aw_414 aw_3 aw_415
theorem dX8_readItem_0 : decode cX8_readItem 0 = .ok (.aload_n 0, 1) := by decide +kernel
theorem dX8_readItem_1 : decode cX8_readItem 1 = .ok (.aload_n 0, 1) := by decide +kernel
theorem dX8_readItem_2 : decode cX8_readItem 2 = .ok (.getfield 95, 3) := by decide +kernel
theorem dX8_readItem_5 : decode cX8_readItem 5 = .ok (.invokevirtual 98, 3) := by decide +kernel
theorem dX8_readItem_8 : decode cX8_readItem 8 = .ok (.istore_n 1, 1) := by decide +kernel
theorem dX8_readItem_9 : decode cX8_readItem 9 = .ok (.aload_n 0, 1) := by decide +kernel
theorem dX8_readItem_10 : decode cX8_readItem 10 = .ok (.dup, 1) := by decide +kernel
theorem dX8_readItem_11 : decode cX8_readItem 11 = .ok (.getfield 95, 3) := by decide +kernel
theorem dX8_readItem_14 : decode cX8_readItem 14 = .ok (.iconst 1, 1) := by decide +kernel
theorem dX8_readItem_15 : decode cX8_readItem 15 = .ok (.iadd, 1) := by decide +kernel
theorem dX8_readItem_16 : decode cX8_readItem 16 = .ok (.putfield 95, 3) := by decide +kernel
theorem dX8_readItem_19 : decode cX8_readItem 19 = .ok (.iload_n 1, 1) := by decide +kernel
theorem dX8_readItem_20 : decode cX8_readItem 20 = .ok (.bipush 110, 2) := by decide +kernel
theorem dX8_readItem_22 : decode cX8_readItem 22 = .ok (.if_icmp .ne 8, 3) := by decide +kernel
theorem dX8_readItem_25 : decode cX8_readItem 25 = .ok (.aload_n 0, 1) := by decide +kernel
theorem dX8_readItem_26 : decode cX8_readItem 26 = .ok (.invokevirtual 116, 3) := by decide +kernel
theorem dX8_readItem_29 : decode cX8_readItem 29 = .ok (.ireturn, 1) := by decide +kernel
theorem dX8_readItem_30 : decode cX8_readItem 30 = .ok (.aload_n 0, 1) := by decide +kernel
theorem dX8_readItem_31 : decode cX8_readItem 31 = .ok (.iconst 1, 1) := by decide +kernel
theorem dX8_readItem_32 : decode cX8_readItem 32 = .ok (.putfield 106, 3) := by decide +kernel
theorem dX8_readItem_35 : decode cX8_readItem 35 = .ok (.iload_n 1, 1) := by decide +kernel
theorem dX8_readItem_36 : decode cX8_readItem 36 = .ok (.lookupswitch 64 #[(98, 59), (100, 49), (112, 44), (119, 54)], 44) := by decide +kernel
theorem dX8_readItem_80 : decode cX8_readItem 80 = .ok (.aload_n 0, 1) := by decide +kernel
theorem dX8_readItem_81 : decode cX8_readItem 81 = .ok (.invokevirtual 120, 3) := by decide +kernel
theorem dX8_readItem_84 : decode cX8_readItem 84 = .ok (.ireturn, 1) := by decide +kernel
theorem dX8_readItem_85 : decode cX8_readItem 85 = .ok (.aload_n 0, 1) := by decide +kernel
theorem dX8_readItem_86 : decode cX8_readItem 86 = .ok (.invokevirtual 123, 3) := by decide +kernel
theorem dX8_readItem_89 : decode cX8_readItem 89 = .ok (.ireturn, 1) := by decide +kernel
theorem dX8_readItem_90 : decode cX8_readItem 90 = .ok (.aload_n 0, 1) := by decide +kernel
theorem dX8_readItem_91 : decode cX8_readItem 91 = .ok (.invokevirtual 126, 3) := by decide +kernel
theorem dX8_readItem_94 : decode cX8_readItem 94 = .ok (.ireturn, 1) := by decide +kernel
theorem dX8_readItem_95 : decode cX8_readItem 95 = .ok (.aload_n 0, 1) := by decide +kernel
theorem dX8_readItem_96 : decode cX8_readItem 96 = .ok (.invokevirtual 129, 3) := by decide +kernel
theorem dX8_readItem_99 : decode cX8_readItem 99 = .ok (.ireturn, 1) := by decide +kernel
theorem dX8_readItem_100 : decode cX8_readItem 100 = .ok (.iconst 0, 1) := by decide +kernel
theorem dX8_readItem_101 : decode cX8_readItem 101 = .ok (.ireturn, 1) := by decide +kernel
theorem gX8_fault_X8_clearTold : GoodIn wsX8_fault (wsV RX8 52 RX8 yX8_clearTold wsX8_clearTold) := gwV aw_305 aw_306 aw_307 aw_3 aw_308
theorem gX8_fault_X8_readItem : GoodIn wsX8_fault (wsV RX8 132 RX8 yX8_readItem wsX8_readItem) := gwV aw_377 aw_378 aw_379 aw_3 aw_380
theorem dX8_fault_0 : decode cX8_fault 0 = .ok (.aload_n 0, 1) := by decide +kernel
theorem dX8_fault_1 : decode cX8_fault 1 = .ok (.iconst 0, 1) := by decide +kernel
theorem dX8_fault_2 : decode cX8_fault 2 = .ok (.putfield 95, 3) := by decide +kernel
theorem dX8_fault_5 : decode cX8_fault 5 = .ok (.aload_n 0, 1) := by decide +kernel
theorem dX8_fault_6 : decode cX8_fault 6 = .ok (.invokevirtual 52, 3) := by decide +kernel
theorem dX8_fault_9 : decode cX8_fault 9 = .ok (.aload_n 0, 1) := by decide +kernel
theorem dX8_fault_10 : decode cX8_fault 10 = .ok (.getfield 95, 3) := by decide +kernel
theorem dX8_fault_13 : decode cX8_fault 13 = .ok (.aload_n 0, 1) := by decide +kernel
theorem dX8_fault_14 : decode cX8_fault 14 = .ok (.getfield 92, 3) := by decide +kernel
theorem dX8_fault_17 : decode cX8_fault 17 = .ok (.if_icmp .ge 20, 3) := by decide +kernel
theorem dX8_fault_20 : decode cX8_fault 20 = .ok (.aload_n 0, 1) := by decide +kernel
theorem dX8_fault_21 : decode cX8_fault 21 = .ok (.getfield 95, 3) := by decide +kernel
theorem dX8_fault_24 : decode cX8_fault 24 = .ok (.istore_n 1, 1) := by decide +kernel
theorem dX8_fault_25 : decode cX8_fault 25 = .ok (.aload_n 0, 1) := by decide +kernel
theorem dX8_fault_26 : decode cX8_fault 26 = .ok (.invokevirtual 132, 3) := by decide +kernel
theorem dX8_fault_29 : decode cX8_fault 29 = .ok (.ifCond .ne 5, 3) := by decide +kernel
theorem dX8_fault_32 : decode cX8_fault 32 = .ok (.iload_n 1, 1) := by decide +kernel
theorem dX8_fault_33 : decode cX8_fault 33 = .ok (.ireturn, 1) := by decide +kernel
theorem dX8_fault_34 : decode cX8_fault 34 = .ok (.goto (-25), 3) := by decide +kernel
theorem dX8_fault_37 : decode cX8_fault 37 = .ok (.bipush (-4), 2) := by decide +kernel
theorem dX8_fault_39 : decode cX8_fault 39 = .ok (.ireturn, 1) := by decide +kernel
theorem gX8_lay_X8_fault : GoodIn wsX8_lay (wsV RX8 135 RX8 yX8_fault wsX8_fault) := gwV aw_426 aw_373 aw_374 aw_3 aw_375
theorem gX8_lay_X8_settles : GoodIn wsX8_lay (wsV RX8 73 RX8 yX8_settles wsX8_settles) := gwV aw_320 aw_321 aw_322 aw_3 aw_323
theorem dX8_lay_0 : decode cX8_lay 0 = .ok (.aload_n 0, 1) := by decide +kernel
theorem dX8_lay_1 : decode cX8_lay 1 = .ok (.invokevirtual 135, 3) := by decide +kernel
theorem dX8_lay_4 : decode cX8_lay 4 = .ok (.bipush (-4), 2) := by decide +kernel
theorem dX8_lay_6 : decode cX8_lay 6 = .ok (.if_icmp .ne 21, 3) := by decide +kernel
theorem dX8_lay_9 : decode cX8_lay 9 = .ok (.aload_n 0, 1) := by decide +kernel
theorem dX8_lay_10 : decode cX8_lay 10 = .ok (.getfield 76, 3) := by decide +kernel
theorem dX8_lay_13 : decode cX8_lay 13 = .ok (.aload_n 0, 1) := by decide +kernel
theorem dX8_lay_14 : decode cX8_lay 14 = .ok (.getfield 55, 3) := by decide +kernel
theorem dX8_lay_17 : decode cX8_lay 17 = .ok (.if_icmp .ne 10, 3) := by decide +kernel
theorem dX8_lay_20 : decode cX8_lay 20 = .ok (.aload_n 0, 1) := by decide +kernel
theorem dX8_lay_21 : decode cX8_lay 21 = .ok (.getfield 79, 3) := by decide +kernel
theorem dX8_lay_24 : decode cX8_lay 24 = .ok (.ifCond .ne 6, 3) := by decide +kernel
theorem dX8_lay_27 : decode cX8_lay 27 = .ok (.bipush (-2), 2) := by decide +kernel
theorem dX8_lay_29 : decode cX8_lay 29 = .ok (.ireturn, 1) := by decide +kernel
theorem dX8_lay_30 : decode cX8_lay 30 = .ok (.aload_n 0, 1) := by decide +kernel
theorem dX8_lay_31 : decode cX8_lay 31 = .ok (.invokevirtual 73, 3) := by decide +kernel
theorem dX8_lay_34 : decode cX8_lay 34 = .ok (.aload_n 0, 1) := by decide +kernel
theorem dX8_lay_35 : decode cX8_lay 35 = .ok (.getfield 89, 3) := by decide +kernel
theorem dX8_lay_38 : decode cX8_lay 38 = .ok (.ireturn, 1) := by decide +kernel
theorem dX8_copies_0 : decode cX8_copies 0 = .ok (.iconst 0, 1) := by decide +kernel
theorem dX8_copies_1 : decode cX8_copies 1 = .ok (.istore 5, 2) := by decide +kernel
theorem dX8_copies_3 : decode cX8_copies 3 = .ok (.iload 5, 2) := by decide +kernel
theorem dX8_copies_5 : decode cX8_copies 5 = .ok (.iload 4, 2) := by decide +kernel
theorem dX8_copies_7 : decode cX8_copies 7 = .ok (.if_icmp .ge 21, 3) := by decide +kernel
theorem dX8_copies_10 : decode cX8_copies 10 = .ok (.aload_n 0, 1) := by decide +kernel
theorem dX8_copies_11 : decode cX8_copies 11 = .ok (.iload_n 1, 1) := by decide +kernel
theorem dX8_copies_12 : decode cX8_copies 12 = .ok (.iload 5, 2) := by decide +kernel
theorem dX8_copies_14 : decode cX8_copies 14 = .ok (.iadd, 1) := by decide +kernel
theorem dX8_copies_15 : decode cX8_copies 15 = .ok (.aload_n 2, 1) := by decide +kernel
theorem dX8_copies_16 : decode cX8_copies 16 = .ok (.iload_n 3, 1) := by decide +kernel
theorem dX8_copies_17 : decode cX8_copies 17 = .ok (.iload 5, 2) := by decide +kernel
theorem dX8_copies_19 : decode cX8_copies 19 = .ok (.iadd, 1) := by decide +kernel
theorem dX8_copies_20 : decode cX8_copies 20 = .ok (.iaload, 1) := by decide +kernel
theorem dX8_copies_21 : decode cX8_copies 21 = .ok (.iastore, 1) := by decide +kernel
theorem dX8_copies_22 : decode cX8_copies 22 = .ok (.iinc 5 1, 3) := by decide +kernel
theorem dX8_copies_25 : decode cX8_copies 25 = .ok (.goto (-22), 3) := by decide +kernel
theorem dX8_copies_28 : decode cX8_copies 28 = .ok (.return_, 1) := by decide +kernel
theorem gX8_settles_X8_copies : GoodIn wsX8_settles (va_wsS RX8 139 yX8_copies wsX8_copies) := gwS aw_331 aw_332 aw_3 aw_333
theorem gX8_settles_X8_calls : GoodIn wsX8_settles (wsV RX8 149 RX8 yX8_calls wsX8_calls) := gwV aw_334 aw_335 aw_336 aw_3 aw_337
theorem dX8_settles_0 : decode cX8_settles 0 = .ok (.aload_n 0, 1) := by decide +kernel
theorem dX8_settles_1 : decode cX8_settles 1 = .ok (.aload_n 0, 1) := by decide +kernel
theorem dX8_settles_2 : decode cX8_settles 2 = .ok (.getfield 55, 3) := by decide +kernel
theorem dX8_settles_5 : decode cX8_settles 5 = .ok (.putfield 82, 3) := by decide +kernel
theorem dX8_settles_8 : decode cX8_settles 8 = .ok (.aload_n 0, 1) := by decide +kernel
theorem dX8_settles_9 : decode cX8_settles 9 = .ok (.getfield 7, 3) := by decide +kernel
theorem dX8_settles_12 : decode cX8_settles 12 = .ok (.iconst 0, 1) := by decide +kernel
theorem dX8_settles_13 : decode cX8_settles 13 = .ok (.aload_n 0, 1) := by decide +kernel
theorem dX8_settles_14 : decode cX8_settles 14 = .ok (.getfield 37, 3) := by decide +kernel
theorem dX8_settles_17 : decode cX8_settles 17 = .ok (.iconst 0, 1) := by decide +kernel
theorem dX8_settles_18 : decode cX8_settles 18 = .ok (.bipush 8, 2) := by decide +kernel
theorem dX8_settles_20 : decode cX8_settles 20 = .ok (.invokestatic 139, 3) := by decide +kernel
theorem dX8_settles_23 : decode cX8_settles 23 = .ok (.aload_n 0, 1) := by decide +kernel
theorem dX8_settles_24 : decode cX8_settles 24 = .ok (.aload_n 0, 1) := by decide +kernel
theorem dX8_settles_25 : decode cX8_settles 25 = .ok (.getfield 79, 3) := by decide +kernel
theorem dX8_settles_28 : decode cX8_settles 28 = .ok (.putfield 89, 3) := by decide +kernel
theorem dX8_settles_31 : decode cX8_settles 31 = .ok (.aload_n 0, 1) := by decide +kernel
theorem dX8_settles_32 : decode cX8_settles 32 = .ok (.getfield 13, 3) := by decide +kernel
theorem dX8_settles_35 : decode cX8_settles 35 = .ok (.iconst 0, 1) := by decide +kernel
theorem dX8_settles_36 : decode cX8_settles 36 = .ok (.aload_n 0, 1) := by decide +kernel
theorem dX8_settles_37 : decode cX8_settles 37 = .ok (.getfield 40, 3) := by decide +kernel
theorem dX8_settles_40 : decode cX8_settles 40 = .ok (.iconst 0, 1) := by decide +kernel
theorem dX8_settles_41 : decode cX8_settles 41 = .ok (.iconst 5, 1) := by decide +kernel
theorem dX8_settles_42 : decode cX8_settles 42 = .ok (.invokestatic 139, 3) := by decide +kernel
theorem dX8_settles_45 : decode cX8_settles 45 = .ok (.aload_n 0, 1) := by decide +kernel
theorem dX8_settles_46 : decode cX8_settles 46 = .ok (.aload_n 0, 1) := by decide +kernel
theorem dX8_settles_47 : decode cX8_settles 47 = .ok (.getfield 67, 3) := by decide +kernel
theorem dX8_settles_50 : decode cX8_settles 50 = .ok (.putfield 143, 3) := by decide +kernel
theorem dX8_settles_53 : decode cX8_settles 53 = .ok (.aload_n 0, 1) := by decide +kernel
theorem dX8_settles_54 : decode cX8_settles 54 = .ok (.getfield 16, 3) := by decide +kernel
theorem dX8_settles_57 : decode cX8_settles 57 = .ok (.iconst 0, 1) := by decide +kernel
theorem dX8_settles_58 : decode cX8_settles 58 = .ok (.aload_n 0, 1) := by decide +kernel
theorem dX8_settles_59 : decode cX8_settles 59 = .ok (.getfield 43, 3) := by decide +kernel
theorem dX8_settles_62 : decode cX8_settles 62 = .ok (.iconst 0, 1) := by decide +kernel
theorem dX8_settles_63 : decode cX8_settles 63 = .ok (.bipush 6, 2) := by decide +kernel
theorem dX8_settles_65 : decode cX8_settles 65 = .ok (.invokestatic 139, 3) := by decide +kernel
theorem dX8_settles_68 : decode cX8_settles 68 = .ok (.aload_n 0, 1) := by decide +kernel
theorem dX8_settles_69 : decode cX8_settles 69 = .ok (.aload_n 0, 1) := by decide +kernel
theorem dX8_settles_70 : decode cX8_settles 70 = .ok (.getfield 70, 3) := by decide +kernel
theorem dX8_settles_73 : decode cX8_settles 73 = .ok (.putfield 146, 3) := by decide +kernel
theorem dX8_settles_76 : decode cX8_settles 76 = .ok (.aload_n 0, 1) := by decide +kernel
theorem dX8_settles_77 : decode cX8_settles 77 = .ok (.getfield 49, 3) := by decide +kernel
theorem dX8_settles_80 : decode cX8_settles 80 = .ok (.iconst 0, 1) := by decide +kernel
theorem dX8_settles_81 : decode cX8_settles 81 = .ok (.aload_n 0, 1) := by decide +kernel
theorem dX8_settles_82 : decode cX8_settles 82 = .ok (.getfield 46, 3) := by decide +kernel
theorem dX8_settles_85 : decode cX8_settles 85 = .ok (.iconst 0, 1) := by decide +kernel
theorem dX8_settles_86 : decode cX8_settles 86 = .ok (.bipush 115, 2) := by decide +kernel
theorem dX8_settles_88 : decode cX8_settles 88 = .ok (.invokestatic 139, 3) := by decide +kernel
theorem dX8_settles_91 : decode cX8_settles 91 = .ok (.iconst 0, 1) := by decide +kernel
theorem dX8_settles_92 : decode cX8_settles 92 = .ok (.istore_n 1, 1) := by decide +kernel
theorem dX8_settles_93 : decode cX8_settles 93 = .ok (.iload_n 1, 1) := by decide +kernel
theorem dX8_settles_94 : decode cX8_settles 94 = .ok (.aload_n 0, 1) := by decide +kernel
theorem dX8_settles_95 : decode cX8_settles 95 = .ok (.getfield 89, 3) := by decide +kernel
theorem dX8_settles_98 : decode cX8_settles 98 = .ok (.if_icmp .ge 23, 3) := by decide +kernel
theorem dX8_settles_101 : decode cX8_settles 101 = .ok (.aload_n 0, 1) := by decide +kernel
theorem dX8_settles_102 : decode cX8_settles 102 = .ok (.aload_n 0, 1) := by decide +kernel
theorem dX8_settles_103 : decode cX8_settles 103 = .ok (.getfield 49, 3) := by decide +kernel
theorem dX8_settles_106 : decode cX8_settles 106 = .ok (.bipush 65, 2) := by decide +kernel
theorem dX8_settles_108 : decode cX8_settles 108 = .ok (.iload_n 1, 1) := by decide +kernel
theorem dX8_settles_109 : decode cX8_settles 109 = .ok (.iadd, 1) := by decide +kernel
theorem dX8_settles_110 : decode cX8_settles 110 = .ok (.iaload, 1) := by decide +kernel
theorem dX8_settles_111 : decode cX8_settles 111 = .ok (.iload_n 1, 1) := by decide +kernel
theorem dX8_settles_112 : decode cX8_settles 112 = .ok (.invokevirtual 149, 3) := by decide +kernel
theorem dX8_settles_115 : decode cX8_settles 115 = .ok (.iinc 1 1, 3) := by decide +kernel
theorem dX8_settles_118 : decode cX8_settles 118 = .ok (.goto (-25), 3) := by decide +kernel
theorem dX8_settles_121 : decode cX8_settles 121 = .ok (.aload_n 0, 1) := by decide +kernel
theorem dX8_settles_122 : decode cX8_settles 122 = .ok (.getfield 19, 3) := by decide +kernel
theorem dX8_settles_125 : decode cX8_settles 125 = .ok (.iconst 0, 1) := by decide +kernel
theorem dX8_settles_126 : decode cX8_settles 126 = .ok (.aload_n 0, 1) := by decide +kernel
theorem dX8_settles_127 : decode cX8_settles 127 = .ok (.getfield 49, 3) := by decide +kernel
theorem dX8_settles_130 : decode cX8_settles 130 = .ok (.iconst 0, 1) := by decide +kernel
theorem dX8_settles_131 : decode cX8_settles 131 = .ok (.bipush 115, 2) := by decide +kernel
theorem dX8_settles_133 : decode cX8_settles 133 = .ok (.invokestatic 139, 3) := by decide +kernel
theorem dX8_settles_136 : decode cX8_settles 136 = .ok (.aload_n 0, 1) := by decide +kernel
theorem dX8_settles_137 : decode cX8_settles 137 = .ok (.iconst 0, 1) := by decide +kernel
theorem dX8_settles_138 : decode cX8_settles 138 = .ok (.putfield 152, 3) := by decide +kernel
theorem dX8_settles_141 : decode cX8_settles 141 = .ok (.aload_n 0, 1) := by decide +kernel
theorem dX8_settles_142 : decode cX8_settles 142 = .ok (.iconst 0, 1) := by decide +kernel
theorem dX8_settles_143 : decode cX8_settles 143 = .ok (.putfield 155, 3) := by decide +kernel
theorem dX8_settles_146 : decode cX8_settles 146 = .ok (.aload_n 0, 1) := by decide +kernel
theorem dX8_settles_147 : decode cX8_settles 147 = .ok (.iconst 0, 1) := by decide +kernel
theorem dX8_settles_148 : decode cX8_settles 148 = .ok (.putfield 158, 3) := by decide +kernel
theorem dX8_settles_151 : decode cX8_settles 151 = .ok (.return_, 1) := by decide +kernel
theorem gX8_asItIs_X8_copies : GoodIn wsX8_asItIs (va_wsS RX8 139 yX8_copies wsX8_copies) := gwS aw_331 aw_332 aw_3 aw_333
theorem dX8_asItIs_0 : decode cX8_asItIs 0 = .ok (.aload_n 0, 1) := by decide +kernel
theorem dX8_asItIs_1 : decode cX8_asItIs 1 = .ok (.getfield 49, 3) := by decide +kernel
theorem dX8_asItIs_4 : decode cX8_asItIs 4 = .ok (.iconst 0, 1) := by decide +kernel
theorem dX8_asItIs_5 : decode cX8_asItIs 5 = .ok (.aload_n 0, 1) := by decide +kernel
theorem dX8_asItIs_6 : decode cX8_asItIs 6 = .ok (.getfield 19, 3) := by decide +kernel
theorem dX8_asItIs_9 : decode cX8_asItIs 9 = .ok (.iconst 0, 1) := by decide +kernel
theorem dX8_asItIs_10 : decode cX8_asItIs 10 = .ok (.bipush 115, 2) := by decide +kernel
theorem dX8_asItIs_12 : decode cX8_asItIs 12 = .ok (.invokestatic 139, 3) := by decide +kernel
theorem dX8_asItIs_15 : decode cX8_asItIs 15 = .ok (.return_, 1) := by decide +kernel
theorem dX8_likingOf_0 : decode cX8_likingOf 0 = .ok (.aload_n 0, 1) := by decide +kernel
theorem dX8_likingOf_1 : decode cX8_likingOf 1 = .ok (.getfield 49, 3) := by decide +kernel
theorem dX8_likingOf_4 : decode cX8_likingOf 4 = .ok (.iconst 1, 1) := by decide +kernel
theorem dX8_likingOf_5 : decode cX8_likingOf 5 = .ok (.bipush 8, 2) := by decide +kernel
theorem dX8_likingOf_7 : decode cX8_likingOf 7 = .ok (.iload_n 1, 1) := by decide +kernel
theorem dX8_likingOf_8 : decode cX8_likingOf 8 = .ok (.imul, 1) := by decide +kernel
theorem dX8_likingOf_9 : decode cX8_likingOf 9 = .ok (.iadd, 1) := by decide +kernel
theorem dX8_likingOf_10 : decode cX8_likingOf 10 = .ok (.iload_n 2, 1) := by decide +kernel
theorem dX8_likingOf_11 : decode cX8_likingOf 11 = .ok (.iadd, 1) := by decide +kernel
theorem dX8_likingOf_12 : decode cX8_likingOf 12 = .ok (.iaload, 1) := by decide +kernel
theorem dX8_likingOf_13 : decode cX8_likingOf 13 = .ok (.ireturn, 1) := by decide +kernel
theorem gX8_dearest_X8_has : GoodIn wsX8_dearest (va_wsS RX8 161 yX8_has wsX8_has) := gwS aw_346 aw_347 aw_3 aw_348
theorem gX8_dearest_X8_likingOf : GoodIn wsX8_dearest (wsV RX8 165 RX8 yX8_likingOf wsX8_likingOf) := gwV aw_349 aw_350 aw_351 aw_3 aw_352
theorem dX8_dearest_0 : decode cX8_dearest 0 = .ok (.bipush (-4), 2) := by decide +kernel
theorem dX8_dearest_2 : decode cX8_dearest 2 = .ok (.istore 4, 2) := by decide +kernel
theorem dX8_dearest_4 : decode cX8_dearest 4 = .ok (.iconst 0, 1) := by decide +kernel
theorem dX8_dearest_5 : decode cX8_dearest 5 = .ok (.istore 5, 2) := by decide +kernel
theorem dX8_dearest_7 : decode cX8_dearest 7 = .ok (.iload 5, 2) := by decide +kernel
theorem dX8_dearest_9 : decode cX8_dearest 9 = .ok (.aload_n 0, 1) := by decide +kernel
theorem dX8_dearest_10 : decode cX8_dearest 10 = .ok (.getfield 82, 3) := by decide +kernel
theorem dX8_dearest_13 : decode cX8_dearest 13 = .ok (.if_icmp .ge 78, 3) := by decide +kernel
theorem dX8_dearest_16 : decode cX8_dearest 16 = .ok (.iload 5, 2) := by decide +kernel
theorem dX8_dearest_18 : decode cX8_dearest 18 = .ok (.iload_n 1, 1) := by decide +kernel
theorem dX8_dearest_19 : decode cX8_dearest 19 = .ok (.if_icmp .eq 27, 3) := by decide +kernel
theorem dX8_dearest_22 : decode cX8_dearest 22 = .ok (.iload_n 2, 1) := by decide +kernel
theorem dX8_dearest_23 : decode cX8_dearest 23 = .ok (.iload 5, 2) := by decide +kernel
theorem dX8_dearest_25 : decode cX8_dearest 25 = .ok (.invokestatic 161, 3) := by decide +kernel
theorem dX8_dearest_28 : decode cX8_dearest 28 = .ok (.ifCond .eq 18, 3) := by decide +kernel
theorem dX8_dearest_31 : decode cX8_dearest 31 = .ok (.aload_n 0, 1) := by decide +kernel
theorem dX8_dearest_32 : decode cX8_dearest 32 = .ok (.iload_n 1, 1) := by decide +kernel
theorem dX8_dearest_33 : decode cX8_dearest 33 = .ok (.iload 5, 2) := by decide +kernel
theorem dX8_dearest_35 : decode cX8_dearest 35 = .ok (.invokevirtual 165, 3) := by decide +kernel
theorem dX8_dearest_38 : decode cX8_dearest 38 = .ok (.iload_n 3, 1) := by decide +kernel
theorem dX8_dearest_39 : decode cX8_dearest 39 = .ok (.if_icmp .lt 7, 3) := by decide +kernel
theorem dX8_dearest_42 : decode cX8_dearest 42 = .ok (.iconst 1, 1) := by decide +kernel
theorem dX8_dearest_43 : decode cX8_dearest 43 = .ok (.goto 4, 3) := by decide +kernel
theorem dX8_dearest_46 : decode cX8_dearest 46 = .ok (.iconst 0, 1) := by decide +kernel
theorem dX8_dearest_47 : decode cX8_dearest 47 = .ok (.istore 6, 2) := by decide +kernel
theorem dX8_dearest_49 : decode cX8_dearest 49 = .ok (.iload 6, 2) := by decide +kernel
theorem dX8_dearest_51 : decode cX8_dearest 51 = .ok (.ifCond .eq 30, 3) := by decide +kernel
theorem dX8_dearest_54 : decode cX8_dearest 54 = .ok (.iload 4, 2) := by decide +kernel
theorem dX8_dearest_56 : decode cX8_dearest 56 = .ok (.ifCond .lt 20, 3) := by decide +kernel
theorem dX8_dearest_59 : decode cX8_dearest 59 = .ok (.aload_n 0, 1) := by decide +kernel
theorem dX8_dearest_60 : decode cX8_dearest 60 = .ok (.iload_n 1, 1) := by decide +kernel
theorem dX8_dearest_61 : decode cX8_dearest 61 = .ok (.iload 5, 2) := by decide +kernel
theorem dX8_dearest_63 : decode cX8_dearest 63 = .ok (.invokevirtual 165, 3) := by decide +kernel
theorem dX8_dearest_66 : decode cX8_dearest 66 = .ok (.aload_n 0, 1) := by decide +kernel
theorem dX8_dearest_67 : decode cX8_dearest 67 = .ok (.iload_n 1, 1) := by decide +kernel
theorem dX8_dearest_68 : decode cX8_dearest 68 = .ok (.iload 4, 2) := by decide +kernel
theorem dX8_dearest_70 : decode cX8_dearest 70 = .ok (.invokevirtual 165, 3) := by decide +kernel
theorem dX8_dearest_73 : decode cX8_dearest 73 = .ok (.if_icmp .le 8, 3) := by decide +kernel
theorem dX8_dearest_76 : decode cX8_dearest 76 = .ok (.iload 5, 2) := by decide +kernel
theorem dX8_dearest_78 : decode cX8_dearest 78 = .ok (.goto 5, 3) := by decide +kernel
theorem dX8_dearest_81 : decode cX8_dearest 81 = .ok (.iload 4, 2) := by decide +kernel
theorem dX8_dearest_83 : decode cX8_dearest 83 = .ok (.istore 4, 2) := by decide +kernel
theorem dX8_dearest_85 : decode cX8_dearest 85 = .ok (.iinc 5 1, 3) := by decide +kernel
theorem dX8_dearest_88 : decode cX8_dearest 88 = .ok (.goto (-81), 3) := by decide +kernel
theorem dX8_dearest_91 : decode cX8_dearest 91 = .ok (.iload 4, 2) := by decide +kernel
theorem dX8_dearest_93 : decode cX8_dearest 93 = .ok (.ireturn, 1) := by decide +kernel
theorem gX8_tellsTo_X8_dearest : GoodIn wsX8_tellsTo (wsV RX8 169 RX8 yX8_dearest wsX8_dearest) := gwV aw_342 aw_343 aw_344 aw_3 aw_345
theorem dX8_tellsTo_0 : decode cX8_tellsTo 0 = .ok (.aload_n 0, 1) := by decide +kernel
theorem dX8_tellsTo_1 : decode cX8_tellsTo 1 = .ok (.getfield 7, 3) := by decide +kernel
theorem dX8_tellsTo_4 : decode cX8_tellsTo 4 = .ok (.iload_n 1, 1) := by decide +kernel
theorem dX8_tellsTo_5 : decode cX8_tellsTo 5 = .ok (.iaload, 1) := by decide +kernel
theorem dX8_tellsTo_6 : decode cX8_tellsTo 6 = .ok (.ifCond .ne 7, 3) := by decide +kernel
theorem dX8_tellsTo_9 : decode cX8_tellsTo 9 = .ok (.iconst 2, 1) := by decide +kernel
theorem dX8_tellsTo_10 : decode cX8_tellsTo 10 = .ok (.goto 33, 3) := by decide +kernel
theorem dX8_tellsTo_13 : decode cX8_tellsTo 13 = .ok (.aload_n 0, 1) := by decide +kernel
theorem dX8_tellsTo_14 : decode cX8_tellsTo 14 = .ok (.getfield 7, 3) := by decide +kernel
theorem dX8_tellsTo_17 : decode cX8_tellsTo 17 = .ok (.iload_n 1, 1) := by decide +kernel
theorem dX8_tellsTo_18 : decode cX8_tellsTo 18 = .ok (.iaload, 1) := by decide +kernel
theorem dX8_tellsTo_19 : decode cX8_tellsTo 19 = .ok (.iconst 1, 1) := by decide +kernel
theorem dX8_tellsTo_20 : decode cX8_tellsTo 20 = .ok (.if_icmp .ne 7, 3) := by decide +kernel
theorem dX8_tellsTo_23 : decode cX8_tellsTo 23 = .ok (.iconst 3, 1) := by decide +kernel
theorem dX8_tellsTo_24 : decode cX8_tellsTo 24 = .ok (.goto 19, 3) := by decide +kernel
theorem dX8_tellsTo_27 : decode cX8_tellsTo 27 = .ok (.aload_n 0, 1) := by decide +kernel
theorem dX8_tellsTo_28 : decode cX8_tellsTo 28 = .ok (.getfield 7, 3) := by decide +kernel
theorem dX8_tellsTo_31 : decode cX8_tellsTo 31 = .ok (.iload_n 1, 1) := by decide +kernel
theorem dX8_tellsTo_32 : decode cX8_tellsTo 32 = .ok (.iaload, 1) := by decide +kernel
theorem dX8_tellsTo_33 : decode cX8_tellsTo 33 = .ok (.iconst 2, 1) := by decide +kernel
theorem dX8_tellsTo_34 : decode cX8_tellsTo 34 = .ok (.if_icmp .ne 7, 3) := by decide +kernel
theorem dX8_tellsTo_37 : decode cX8_tellsTo 37 = .ok (.iconst 0, 1) := by decide +kernel
theorem dX8_tellsTo_38 : decode cX8_tellsTo 38 = .ok (.goto 5, 3) := by decide +kernel
theorem dX8_tellsTo_41 : decode cX8_tellsTo 41 = .ok (.bipush 8, 2) := by decide +kernel
theorem dX8_tellsTo_43 : decode cX8_tellsTo 43 = .ok (.istore_n 2, 1) := by decide +kernel
theorem dX8_tellsTo_44 : decode cX8_tellsTo 44 = .ok (.aload_n 0, 1) := by decide +kernel
theorem dX8_tellsTo_45 : decode cX8_tellsTo 45 = .ok (.getfield 7, 3) := by decide +kernel
theorem dX8_tellsTo_48 : decode cX8_tellsTo 48 = .ok (.iload_n 1, 1) := by decide +kernel
theorem dX8_tellsTo_49 : decode cX8_tellsTo 49 = .ok (.iaload, 1) := by decide +kernel
theorem dX8_tellsTo_50 : decode cX8_tellsTo 50 = .ok (.iconst 3, 1) := by decide +kernel
theorem dX8_tellsTo_51 : decode cX8_tellsTo 51 = .ok (.if_icmp .ne 8, 3) := by decide +kernel
theorem dX8_tellsTo_54 : decode cX8_tellsTo 54 = .ok (.bipush 8, 2) := by decide +kernel
theorem dX8_tellsTo_56 : decode cX8_tellsTo 56 = .ok (.goto 4, 3) := by decide +kernel
theorem dX8_tellsTo_59 : decode cX8_tellsTo 59 = .ok (.iconst 1, 1) := by decide +kernel
theorem dX8_tellsTo_60 : decode cX8_tellsTo 60 = .ok (.istore_n 3, 1) := by decide +kernel
theorem dX8_tellsTo_61 : decode cX8_tellsTo 61 = .ok (.iconst 1, 1) := by decide +kernel
theorem dX8_tellsTo_62 : decode cX8_tellsTo 62 = .ok (.iload_n 1, 1) := by decide +kernel
theorem dX8_tellsTo_63 : decode cX8_tellsTo 63 = .ok (.ishl, 1) := by decide +kernel
theorem dX8_tellsTo_64 : decode cX8_tellsTo 64 = .ok (.istore 4, 2) := by decide +kernel
theorem dX8_tellsTo_66 : decode cX8_tellsTo 66 = .ok (.iconst 0, 1) := by decide +kernel
theorem dX8_tellsTo_67 : decode cX8_tellsTo 67 = .ok (.istore 5, 2) := by decide +kernel
theorem dX8_tellsTo_69 : decode cX8_tellsTo 69 = .ok (.iload 5, 2) := by decide +kernel
theorem dX8_tellsTo_71 : decode cX8_tellsTo 71 = .ok (.iload_n 2, 1) := by decide +kernel
theorem dX8_tellsTo_72 : decode cX8_tellsTo 72 = .ok (.if_icmp .ge 39, 3) := by decide +kernel
theorem dX8_tellsTo_75 : decode cX8_tellsTo 75 = .ok (.aload_n 0, 1) := by decide +kernel
theorem dX8_tellsTo_76 : decode cX8_tellsTo 76 = .ok (.iload_n 1, 1) := by decide +kernel
theorem dX8_tellsTo_77 : decode cX8_tellsTo 77 = .ok (.iload 4, 2) := by decide +kernel
theorem dX8_tellsTo_79 : decode cX8_tellsTo 79 = .ok (.iconst (-1), 1) := by decide +kernel
theorem dX8_tellsTo_80 : decode cX8_tellsTo 80 = .ok (.ixor, 1) := by decide +kernel
theorem dX8_tellsTo_81 : decode cX8_tellsTo 81 = .ok (.iload_n 3, 1) := by decide +kernel
theorem dX8_tellsTo_82 : decode cX8_tellsTo 82 = .ok (.invokevirtual 169, 3) := by decide +kernel
theorem dX8_tellsTo_85 : decode cX8_tellsTo 85 = .ok (.istore 6, 2) := by decide +kernel
theorem dX8_tellsTo_87 : decode cX8_tellsTo 87 = .ok (.iload 4, 2) := by decide +kernel
theorem dX8_tellsTo_89 : decode cX8_tellsTo 89 = .ok (.iload 6, 2) := by decide +kernel
theorem dX8_tellsTo_91 : decode cX8_tellsTo 91 = .ok (.ifCond .ge 7, 3) := by decide +kernel
theorem dX8_tellsTo_94 : decode cX8_tellsTo 94 = .ok (.iconst 0, 1) := by decide +kernel
theorem dX8_tellsTo_95 : decode cX8_tellsTo 95 = .ok (.goto 7, 3) := by decide +kernel
theorem dX8_tellsTo_98 : decode cX8_tellsTo 98 = .ok (.iconst 1, 1) := by decide +kernel
theorem dX8_tellsTo_99 : decode cX8_tellsTo 99 = .ok (.iload 6, 2) := by decide +kernel
theorem dX8_tellsTo_101 : decode cX8_tellsTo 101 = .ok (.ishl, 1) := by decide +kernel
theorem dX8_tellsTo_102 : decode cX8_tellsTo 102 = .ok (.ior, 1) := by decide +kernel
theorem dX8_tellsTo_103 : decode cX8_tellsTo 103 = .ok (.istore 4, 2) := by decide +kernel
theorem dX8_tellsTo_105 : decode cX8_tellsTo 105 = .ok (.iinc 5 1, 3) := by decide +kernel
theorem dX8_tellsTo_108 : decode cX8_tellsTo 108 = .ok (.goto (-39), 3) := by decide +kernel
theorem dX8_tellsTo_111 : decode cX8_tellsTo 111 = .ok (.iload 4, 2) := by decide +kernel
theorem dX8_tellsTo_113 : decode cX8_tellsTo 113 = .ok (.ireturn, 1) := by decide +kernel
theorem gX8_calls_X8_tellsTo : GoodIn wsX8_calls (wsV RX8 173 RX8 yX8_tellsTo wsX8_tellsTo) := gwV aw_338 aw_339 aw_340 aw_3 aw_341
theorem dX8_calls_0 : decode cX8_calls 0 = .ok (.aload_n 0, 1) := by decide +kernel
theorem dX8_calls_1 : decode cX8_calls 1 = .ok (.getfield 49, 3) := by decide +kernel
theorem dX8_calls_4 : decode cX8_calls 4 = .ok (.bipush 65, 2) := by decide +kernel
theorem dX8_calls_6 : decode cX8_calls 6 = .ok (.iload_n 2, 1) := by decide +kernel
theorem dX8_calls_7 : decode cX8_calls 7 = .ok (.iadd, 1) := by decide +kernel
theorem dX8_calls_8 : decode cX8_calls 8 = .ok (.iload_n 1, 1) := by decide +kernel
theorem dX8_calls_9 : decode cX8_calls 9 = .ok (.iastore, 1) := by decide +kernel
theorem dX8_calls_10 : decode cX8_calls 10 = .ok (.aload_n 0, 1) := by decide +kernel
theorem dX8_calls_11 : decode cX8_calls 11 = .ok (.getfield 49, 3) := by decide +kernel
theorem dX8_calls_14 : decode cX8_calls 14 = .ok (.bipush 70, 2) := by decide +kernel
theorem dX8_calls_16 : decode cX8_calls 16 = .ok (.iload_n 2, 1) := by decide +kernel
theorem dX8_calls_17 : decode cX8_calls 17 = .ok (.iadd, 1) := by decide +kernel
theorem dX8_calls_18 : decode cX8_calls 18 = .ok (.aload_n 0, 1) := by decide +kernel
theorem dX8_calls_19 : decode cX8_calls 19 = .ok (.iload_n 1, 1) := by decide +kernel
theorem dX8_calls_20 : decode cX8_calls 20 = .ok (.invokevirtual 173, 3) := by decide +kernel
theorem dX8_calls_23 : decode cX8_calls 23 = .ok (.iastore, 1) := by decide +kernel
theorem dX8_calls_24 : decode cX8_calls 24 = .ok (.return_, 1) := by decide +kernel
theorem gX8_dayAt_X8_has : GoodIn wsX8_dayAt (va_wsS RX8 161 yX8_has wsX8_has) := gwS aw_346 aw_347 aw_3 aw_348
theorem gX8_dayAt_X8_dearest : GoodIn wsX8_dayAt (wsV RX8 169 RX8 yX8_dearest wsX8_dearest) := gwV aw_342 aw_343 aw_344 aw_3 aw_345
theorem dX8_dayAt_0 : decode cX8_dayAt 0 = .ok (.aload_n 0, 1) := by decide +kernel
theorem dX8_dayAt_1 : decode cX8_dayAt 1 = .ok (.getfield 49, 3) := by decide +kernel
theorem dX8_dayAt_4 : decode cX8_dayAt 4 = .ok (.bipush 70, 2) := by decide +kernel
theorem dX8_dayAt_6 : decode cX8_dayAt 6 = .ok (.iload_n 1, 1) := by decide +kernel
theorem dX8_dayAt_7 : decode cX8_dayAt 7 = .ok (.iadd, 1) := by decide +kernel
theorem dX8_dayAt_8 : decode cX8_dayAt 8 = .ok (.iaload, 1) := by decide +kernel
theorem dX8_dayAt_9 : decode cX8_dayAt 9 = .ok (.istore_n 2, 1) := by decide +kernel
theorem dX8_dayAt_10 : decode cX8_dayAt 10 = .ok (.iload_n 2, 1) := by decide +kernel
theorem dX8_dayAt_11 : decode cX8_dayAt 11 = .ok (.istore_n 3, 1) := by decide +kernel
theorem dX8_dayAt_12 : decode cX8_dayAt 12 = .ok (.iconst 0, 1) := by decide +kernel
theorem dX8_dayAt_13 : decode cX8_dayAt 13 = .ok (.istore 4, 2) := by decide +kernel
theorem dX8_dayAt_15 : decode cX8_dayAt 15 = .ok (.iload 4, 2) := by decide +kernel
theorem dX8_dayAt_17 : decode cX8_dayAt 17 = .ok (.aload_n 0, 1) := by decide +kernel
theorem dX8_dayAt_18 : decode cX8_dayAt 18 = .ok (.getfield 82, 3) := by decide +kernel
theorem dX8_dayAt_21 : decode cX8_dayAt 21 = .ok (.if_icmp .ge 57, 3) := by decide +kernel
theorem dX8_dayAt_24 : decode cX8_dayAt 24 = .ok (.aload_n 0, 1) := by decide +kernel
theorem dX8_dayAt_25 : decode cX8_dayAt 25 = .ok (.getfield 7, 3) := by decide +kernel
theorem dX8_dayAt_28 : decode cX8_dayAt 28 = .ok (.iload 4, 2) := by decide +kernel
theorem dX8_dayAt_30 : decode cX8_dayAt 30 = .ok (.iaload, 1) := by decide +kernel
theorem dX8_dayAt_31 : decode cX8_dayAt 31 = .ok (.iconst 1, 1) := by decide +kernel
theorem dX8_dayAt_32 : decode cX8_dayAt 32 = .ok (.if_icmp .ne 40, 3) := by decide +kernel
theorem dX8_dayAt_35 : decode cX8_dayAt 35 = .ok (.iload_n 2, 1) := by decide +kernel
theorem dX8_dayAt_36 : decode cX8_dayAt 36 = .ok (.iload 4, 2) := by decide +kernel
theorem dX8_dayAt_38 : decode cX8_dayAt 38 = .ok (.invokestatic 161, 3) := by decide +kernel
theorem dX8_dayAt_41 : decode cX8_dayAt 41 = .ok (.ifCond .eq 31, 3) := by decide +kernel
theorem dX8_dayAt_44 : decode cX8_dayAt 44 = .ok (.aload_n 0, 1) := by decide +kernel
theorem dX8_dayAt_45 : decode cX8_dayAt 45 = .ok (.iload 4, 2) := by decide +kernel
theorem dX8_dayAt_47 : decode cX8_dayAt 47 = .ok (.iload_n 2, 1) := by decide +kernel
theorem dX8_dayAt_48 : decode cX8_dayAt 48 = .ok (.iconst (-1), 1) := by decide +kernel
theorem dX8_dayAt_49 : decode cX8_dayAt 49 = .ok (.ixor, 1) := by decide +kernel
theorem dX8_dayAt_50 : decode cX8_dayAt 50 = .ok (.iconst 1, 1) := by decide +kernel
theorem dX8_dayAt_51 : decode cX8_dayAt 51 = .ok (.invokevirtual 169, 3) := by decide +kernel
theorem dX8_dayAt_54 : decode cX8_dayAt 54 = .ok (.istore 5, 2) := by decide +kernel
theorem dX8_dayAt_56 : decode cX8_dayAt 56 = .ok (.iload_n 3, 1) := by decide +kernel
theorem dX8_dayAt_57 : decode cX8_dayAt 57 = .ok (.iload 5, 2) := by decide +kernel
theorem dX8_dayAt_59 : decode cX8_dayAt 59 = .ok (.ifCond .ge 7, 3) := by decide +kernel
theorem dX8_dayAt_62 : decode cX8_dayAt 62 = .ok (.iconst 0, 1) := by decide +kernel
theorem dX8_dayAt_63 : decode cX8_dayAt 63 = .ok (.goto 7, 3) := by decide +kernel
theorem dX8_dayAt_66 : decode cX8_dayAt 66 = .ok (.iconst 1, 1) := by decide +kernel
theorem dX8_dayAt_67 : decode cX8_dayAt 67 = .ok (.iload 5, 2) := by decide +kernel
theorem dX8_dayAt_69 : decode cX8_dayAt 69 = .ok (.ishl, 1) := by decide +kernel
theorem dX8_dayAt_70 : decode cX8_dayAt 70 = .ok (.ior, 1) := by decide +kernel
theorem dX8_dayAt_71 : decode cX8_dayAt 71 = .ok (.istore_n 3, 1) := by decide +kernel
theorem dX8_dayAt_72 : decode cX8_dayAt 72 = .ok (.iinc 4 1, 3) := by decide +kernel
theorem dX8_dayAt_75 : decode cX8_dayAt 75 = .ok (.goto (-60), 3) := by decide +kernel
theorem dX8_dayAt_78 : decode cX8_dayAt 78 = .ok (.aload_n 0, 1) := by decide +kernel
theorem dX8_dayAt_79 : decode cX8_dayAt 79 = .ok (.getfield 49, 3) := by decide +kernel
theorem dX8_dayAt_82 : decode cX8_dayAt 82 = .ok (.bipush 70, 2) := by decide +kernel
theorem dX8_dayAt_84 : decode cX8_dayAt 84 = .ok (.iload_n 1, 1) := by decide +kernel
theorem dX8_dayAt_85 : decode cX8_dayAt 85 = .ok (.iadd, 1) := by decide +kernel
theorem dX8_dayAt_86 : decode cX8_dayAt 86 = .ok (.iload_n 3, 1) := by decide +kernel
theorem dX8_dayAt_87 : decode cX8_dayAt 87 = .ok (.iastore, 1) := by decide +kernel
theorem dX8_dayAt_88 : decode cX8_dayAt 88 = .ok (.return_, 1) := by decide +kernel
theorem gX8_goes_X8_dayAt : GoodIn wsX8_goes (wsV RX8 176 RX8 yX8_dayAt wsX8_dayAt) := gwV aw_544 aw_545 aw_546 aw_3 aw_547
theorem dX8_goes_0 : decode cX8_goes 0 = .ok (.aload_n 0, 1) := by decide +kernel
theorem dX8_goes_1 : decode cX8_goes 1 = .ok (.getfield 49, 3) := by decide +kernel
theorem dX8_goes_4 : decode cX8_goes 4 = .ok (.iconst 0, 1) := by decide +kernel
theorem dX8_goes_5 : decode cX8_goes 5 = .ok (.dup2, 1) := by decide +kernel
theorem dX8_goes_6 : decode cX8_goes 6 = .ok (.iaload, 1) := by decide +kernel
theorem dX8_goes_7 : decode cX8_goes 7 = .ok (.iconst 1, 1) := by decide +kernel
theorem dX8_goes_8 : decode cX8_goes 8 = .ok (.iadd, 1) := by decide +kernel
theorem dX8_goes_9 : decode cX8_goes 9 = .ok (.iastore, 1) := by decide +kernel
theorem dX8_goes_10 : decode cX8_goes 10 = .ok (.iconst 0, 1) := by decide +kernel
theorem dX8_goes_11 : decode cX8_goes 11 = .ok (.istore_n 1, 1) := by decide +kernel
theorem dX8_goes_12 : decode cX8_goes 12 = .ok (.iload_n 1, 1) := by decide +kernel
theorem dX8_goes_13 : decode cX8_goes 13 = .ok (.aload_n 0, 1) := by decide +kernel
theorem dX8_goes_14 : decode cX8_goes 14 = .ok (.getfield 89, 3) := by decide +kernel
theorem dX8_goes_17 : decode cX8_goes 17 = .ok (.if_icmp .ge 14, 3) := by decide +kernel
theorem dX8_goes_20 : decode cX8_goes 20 = .ok (.aload_n 0, 1) := by decide +kernel
theorem dX8_goes_21 : decode cX8_goes 21 = .ok (.iload_n 1, 1) := by decide +kernel
theorem dX8_goes_22 : decode cX8_goes 22 = .ok (.invokevirtual 176, 3) := by decide +kernel
theorem dX8_goes_25 : decode cX8_goes 25 = .ok (.iinc 1 1, 3) := by decide +kernel
theorem dX8_goes_28 : decode cX8_goes 28 = .ok (.goto (-16), 3) := by decide +kernel
theorem dX8_goes_31 : decode cX8_goes 31 = .ok (.bipush 75, 2) := by decide +kernel
theorem dX8_goes_33 : decode cX8_goes 33 = .ok (.istore_n 1, 1) := by decide +kernel
theorem dX8_goes_34 : decode cX8_goes 34 = .ok (.iload_n 1, 1) := by decide +kernel
theorem dX8_goes_35 : decode cX8_goes 35 = .ok (.bipush 115, 2) := by decide +kernel
theorem dX8_goes_37 : decode cX8_goes 37 = .ok (.if_icmp .ge 16, 3) := by decide +kernel
theorem dX8_goes_40 : decode cX8_goes 40 = .ok (.aload_n 0, 1) := by decide +kernel
theorem dX8_goes_41 : decode cX8_goes 41 = .ok (.getfield 49, 3) := by decide +kernel
theorem dX8_goes_44 : decode cX8_goes 44 = .ok (.iload_n 1, 1) := by decide +kernel
theorem dX8_goes_45 : decode cX8_goes 45 = .ok (.iconst 0, 1) := by decide +kernel
theorem dX8_goes_46 : decode cX8_goes 46 = .ok (.iastore, 1) := by decide +kernel
theorem dX8_goes_47 : decode cX8_goes 47 = .ok (.iinc 1 1, 3) := by decide +kernel
theorem dX8_goes_50 : decode cX8_goes 50 = .ok (.goto (-16), 3) := by decide +kernel
theorem dX8_goes_53 : decode cX8_goes 53 = .ok (.return_, 1) := by decide +kernel
theorem gX8_isShutOut_X8_has : GoodIn wsX8_isShutOut (va_wsS RX8 161 yX8_has wsX8_has) := gwS aw_346 aw_347 aw_3 aw_348
theorem dX8_isShutOut_0 : decode cX8_isShutOut 0 = .ok (.aload_n 0, 1) := by decide +kernel
theorem dX8_isShutOut_1 : decode cX8_isShutOut 1 = .ok (.getfield 49, 3) := by decide +kernel
theorem dX8_isShutOut_4 : decode cX8_isShutOut 4 = .ok (.bipush 70, 2) := by decide +kernel
theorem dX8_isShutOut_6 : decode cX8_isShutOut 6 = .ok (.iload_n 1, 1) := by decide +kernel
theorem dX8_isShutOut_7 : decode cX8_isShutOut 7 = .ok (.iadd, 1) := by decide +kernel
theorem dX8_isShutOut_8 : decode cX8_isShutOut 8 = .ok (.iaload, 1) := by decide +kernel
theorem dX8_isShutOut_9 : decode cX8_isShutOut 9 = .ok (.aload_n 0, 1) := by decide +kernel
theorem dX8_isShutOut_10 : decode cX8_isShutOut 10 = .ok (.getfield 13, 3) := by decide +kernel
theorem dX8_isShutOut_13 : decode cX8_isShutOut 13 = .ok (.iload_n 1, 1) := by decide +kernel
theorem dX8_isShutOut_14 : decode cX8_isShutOut 14 = .ok (.iaload, 1) := by decide +kernel
theorem dX8_isShutOut_15 : decode cX8_isShutOut 15 = .ok (.invokestatic 161, 3) := by decide +kernel
theorem dX8_isShutOut_18 : decode cX8_isShutOut 18 = .ok (.ifCond .ne 7, 3) := by decide +kernel
theorem dX8_isShutOut_21 : decode cX8_isShutOut 21 = .ok (.iconst 1, 1) := by decide +kernel
theorem dX8_isShutOut_22 : decode cX8_isShutOut 22 = .ok (.goto 4, 3) := by decide +kernel
theorem dX8_isShutOut_25 : decode cX8_isShutOut 25 = .ok (.iconst 0, 1) := by decide +kernel
theorem dX8_isShutOut_26 : decode cX8_isShutOut 26 = .ok (.ireturn, 1) := by decide +kernel
theorem gX8_shutOutNow_X8_isShutOut : GoodIn wsX8_shutOutNow (wsV RX8 180 RX8 yX8_isShutOut wsX8_isShutOut) := gwV aw_579 aw_580 aw_581 aw_3 aw_582
theorem dX8_shutOutNow_0 : decode cX8_shutOutNow 0 = .ok (.iconst 0, 1) := by decide +kernel
theorem dX8_shutOutNow_1 : decode cX8_shutOutNow 1 = .ok (.istore_n 1, 1) := by decide +kernel
theorem dX8_shutOutNow_2 : decode cX8_shutOutNow 2 = .ok (.iconst 0, 1) := by decide +kernel
theorem dX8_shutOutNow_3 : decode cX8_shutOutNow 3 = .ok (.istore_n 2, 1) := by decide +kernel
theorem dX8_shutOutNow_4 : decode cX8_shutOutNow 4 = .ok (.iload_n 2, 1) := by decide +kernel
theorem dX8_shutOutNow_5 : decode cX8_shutOutNow 5 = .ok (.aload_n 0, 1) := by decide +kernel
theorem dX8_shutOutNow_6 : decode cX8_shutOutNow 6 = .ok (.getfield 89, 3) := by decide +kernel
theorem dX8_shutOutNow_9 : decode cX8_shutOutNow 9 = .ok (.if_icmp .ge 27, 3) := by decide +kernel
theorem dX8_shutOutNow_12 : decode cX8_shutOutNow 12 = .ok (.iload_n 1, 1) := by decide +kernel
theorem dX8_shutOutNow_13 : decode cX8_shutOutNow 13 = .ok (.aload_n 0, 1) := by decide +kernel
theorem dX8_shutOutNow_14 : decode cX8_shutOutNow 14 = .ok (.iload_n 2, 1) := by decide +kernel
theorem dX8_shutOutNow_15 : decode cX8_shutOutNow 15 = .ok (.invokevirtual 180, 3) := by decide +kernel
theorem dX8_shutOutNow_18 : decode cX8_shutOutNow 18 = .ok (.ifCond .eq 9, 3) := by decide +kernel
theorem dX8_shutOutNow_21 : decode cX8_shutOutNow 21 = .ok (.iconst 1, 1) := by decide +kernel
theorem dX8_shutOutNow_22 : decode cX8_shutOutNow 22 = .ok (.iload_n 2, 1) := by decide +kernel
theorem dX8_shutOutNow_23 : decode cX8_shutOutNow 23 = .ok (.ishl, 1) := by decide +kernel
theorem dX8_shutOutNow_24 : decode cX8_shutOutNow 24 = .ok (.goto 4, 3) := by decide +kernel
theorem dX8_shutOutNow_27 : decode cX8_shutOutNow 27 = .ok (.iconst 0, 1) := by decide +kernel
theorem dX8_shutOutNow_28 : decode cX8_shutOutNow 28 = .ok (.ior, 1) := by decide +kernel
theorem dX8_shutOutNow_29 : decode cX8_shutOutNow 29 = .ok (.istore_n 1, 1) := by decide +kernel
theorem dX8_shutOutNow_30 : decode cX8_shutOutNow 30 = .ok (.iinc 2 1, 3) := by decide +kernel
theorem dX8_shutOutNow_33 : decode cX8_shutOutNow 33 = .ok (.goto (-29), 3) := by decide +kernel
theorem dX8_shutOutNow_36 : decode cX8_shutOutNow 36 = .ok (.iload_n 1, 1) := by decide +kernel
theorem dX8_shutOutNow_37 : decode cX8_shutOutNow 37 = .ok (.ireturn, 1) := by decide +kernel
theorem gX8_person_X8_isPerson : GoodIn wsX8_person (wsV RX8 183 RX8 yX8_isPerson wsX8_isPerson) := gwV aw_450 aw_451 aw_452 aw_3 aw_453
theorem gX8_person_X8_in : GoodIn wsX8_person (va_wsS RX8 85 yX8_in wsX8_in) := gwS aw_361 aw_362 aw_3 aw_363
theorem gX8_person_X8_asItIs : GoodIn wsX8_person (wsV RX8 186 RX8 yX8_asItIs wsX8_asItIs) := gwV aw_454 aw_455 aw_456 aw_3 aw_457
theorem gX8_person_X8_tellsTo : GoodIn wsX8_person (wsV RX8 173 RX8 yX8_tellsTo wsX8_tellsTo) := gwV aw_338 aw_339 aw_340 aw_3 aw_341
theorem gX8_person_X8_bits : GoodIn wsX8_person (va_wsS RX8 189 yX8_bits wsX8_bits) := gwS aw_458 aw_459 aw_3 aw_460
theorem dX8_person_0 : decode cX8_person 0 = .ok (.aload_n 0, 1) := by decide +kernel
theorem dX8_person_1 : decode cX8_person 1 = .ok (.iload_n 1, 1) := by decide +kernel
theorem dX8_person_2 : decode cX8_person 2 = .ok (.invokevirtual 183, 3) := by decide +kernel
theorem dX8_person_5 : decode cX8_person 5 = .ok (.ifCond .eq 12, 3) := by decide +kernel
theorem dX8_person_8 : decode cX8_person 8 = .ok (.iload_n 2, 1) := by decide +kernel
theorem dX8_person_9 : decode cX8_person 9 = .ok (.iconst 0, 1) := by decide +kernel
theorem dX8_person_10 : decode cX8_person 10 = .ok (.iconst 1, 1) := by decide +kernel
theorem dX8_person_11 : decode cX8_person 11 = .ok (.invokestatic 85, 3) := by decide +kernel
theorem dX8_person_14 : decode cX8_person 14 = .ok (.ifCond .ne 5, 3) := by decide +kernel
theorem dX8_person_17 : decode cX8_person 17 = .ok (.iconst (-1), 1) := by decide +kernel
theorem dX8_person_18 : decode cX8_person 18 = .ok (.ireturn, 1) := by decide +kernel
theorem dX8_person_19 : decode cX8_person 19 = .ok (.aload_n 0, 1) := by decide +kernel
theorem dX8_person_20 : decode cX8_person 20 = .ok (.invokevirtual 186, 3) := by decide +kernel
theorem dX8_person_23 : decode cX8_person 23 = .ok (.iload_n 2, 1) := by decide +kernel
theorem dX8_person_24 : decode cX8_person 24 = .ok (.ifCond .ne 12, 3) := by decide +kernel
theorem dX8_person_27 : decode cX8_person 27 = .ok (.aload_n 0, 1) := by decide +kernel
theorem dX8_person_28 : decode cX8_person 28 = .ok (.getfield 7, 3) := by decide +kernel
theorem dX8_person_31 : decode cX8_person 31 = .ok (.iload_n 1, 1) := by decide +kernel
theorem dX8_person_32 : decode cX8_person 32 = .ok (.iaload, 1) := by decide +kernel
theorem dX8_person_33 : decode cX8_person 33 = .ok (.goto 13, 3) := by decide +kernel
theorem dX8_person_36 : decode cX8_person 36 = .ok (.aload_n 0, 1) := by decide +kernel
theorem dX8_person_37 : decode cX8_person 37 = .ok (.iload_n 1, 1) := by decide +kernel
theorem dX8_person_38 : decode cX8_person 38 = .ok (.invokevirtual 173, 3) := by decide +kernel
theorem dX8_person_41 : decode cX8_person 41 = .ok (.invokestatic 189, 3) := by decide +kernel
theorem dX8_person_44 : decode cX8_person 44 = .ok (.iconst 1, 1) := by decide +kernel
theorem dX8_person_45 : decode cX8_person 45 = .ok (.isub, 1) := by decide +kernel
theorem dX8_person_46 : decode cX8_person 46 = .ok (.ireturn, 1) := by decide +kernel
theorem gX8_likes_X8_isPerson : GoodIn wsX8_likes (wsV RX8 183 RX8 yX8_isPerson wsX8_isPerson) := gwV aw_450 aw_451 aw_452 aw_3 aw_453
theorem dX8_likes_0 : decode cX8_likes 0 = .ok (.aload_n 0, 1) := by decide +kernel
theorem dX8_likes_1 : decode cX8_likes 1 = .ok (.iload_n 1, 1) := by decide +kernel
theorem dX8_likes_2 : decode cX8_likes 2 = .ok (.invokevirtual 183, 3) := by decide +kernel
theorem dX8_likes_5 : decode cX8_likes 5 = .ok (.ifCond .eq 27, 3) := by decide +kernel
theorem dX8_likes_8 : decode cX8_likes 8 = .ok (.aload_n 0, 1) := by decide +kernel
theorem dX8_likes_9 : decode cX8_likes 9 = .ok (.iload_n 2, 1) := by decide +kernel
theorem dX8_likes_10 : decode cX8_likes 10 = .ok (.invokevirtual 183, 3) := by decide +kernel
theorem dX8_likes_13 : decode cX8_likes 13 = .ok (.ifCond .eq 19, 3) := by decide +kernel
theorem dX8_likes_16 : decode cX8_likes 16 = .ok (.aload_n 0, 1) := by decide +kernel
theorem dX8_likes_17 : decode cX8_likes 17 = .ok (.getfield 19, 3) := by decide +kernel
theorem dX8_likes_20 : decode cX8_likes 20 = .ok (.iconst 1, 1) := by decide +kernel
theorem dX8_likes_21 : decode cX8_likes 21 = .ok (.bipush 8, 2) := by decide +kernel
theorem dX8_likes_23 : decode cX8_likes 23 = .ok (.iload_n 1, 1) := by decide +kernel
theorem dX8_likes_24 : decode cX8_likes 24 = .ok (.imul, 1) := by decide +kernel
theorem dX8_likes_25 : decode cX8_likes 25 = .ok (.iadd, 1) := by decide +kernel
theorem dX8_likes_26 : decode cX8_likes 26 = .ok (.iload_n 2, 1) := by decide +kernel
theorem dX8_likes_27 : decode cX8_likes 27 = .ok (.iadd, 1) := by decide +kernel
theorem dX8_likes_28 : decode cX8_likes 28 = .ok (.iaload, 1) := by decide +kernel
theorem dX8_likes_29 : decode cX8_likes 29 = .ok (.goto 4, 3) := by decide +kernel
theorem dX8_likes_32 : decode cX8_likes 32 = .ok (.iconst (-1), 1) := by decide +kernel
theorem dX8_likes_33 : decode cX8_likes 33 = .ok (.ireturn, 1) := by decide +kernel
theorem dX8_barredAt_0 : decode cX8_barredAt 0 = .ok (.iconst 0, 1) := by decide +kernel
theorem dX8_barredAt_1 : decode cX8_barredAt 1 = .ok (.istore_n 2, 1) := by decide +kernel
theorem dX8_barredAt_2 : decode cX8_barredAt 2 = .ok (.iconst 0, 1) := by decide +kernel
theorem dX8_barredAt_3 : decode cX8_barredAt 3 = .ok (.istore_n 3, 1) := by decide +kernel
theorem dX8_barredAt_4 : decode cX8_barredAt 4 = .ok (.iload_n 3, 1) := by decide +kernel
theorem dX8_barredAt_5 : decode cX8_barredAt 5 = .ok (.aload_n 0, 1) := by decide +kernel
theorem dX8_barredAt_6 : decode cX8_barredAt 6 = .ok (.getfield 82, 3) := by decide +kernel
theorem dX8_barredAt_9 : decode cX8_barredAt 9 = .ok (.if_icmp .ge 40, 3) := by decide +kernel
theorem dX8_barredAt_12 : decode cX8_barredAt 12 = .ok (.iload_n 2, 1) := by decide +kernel
theorem dX8_barredAt_13 : decode cX8_barredAt 13 = .ok (.aload_n 0, 1) := by decide +kernel
theorem dX8_barredAt_14 : decode cX8_barredAt 14 = .ok (.getfield 19, 3) := by decide +kernel
theorem dX8_barredAt_17 : decode cX8_barredAt 17 = .ok (.bipush 75, 2) := by decide +kernel
theorem dX8_barredAt_19 : decode cX8_barredAt 19 = .ok (.bipush 8, 2) := by decide +kernel
theorem dX8_barredAt_21 : decode cX8_barredAt 21 = .ok (.iload_n 1, 1) := by decide +kernel
theorem dX8_barredAt_22 : decode cX8_barredAt 22 = .ok (.imul, 1) := by decide +kernel
theorem dX8_barredAt_23 : decode cX8_barredAt 23 = .ok (.iadd, 1) := by decide +kernel
theorem dX8_barredAt_24 : decode cX8_barredAt 24 = .ok (.iload_n 3, 1) := by decide +kernel
theorem dX8_barredAt_25 : decode cX8_barredAt 25 = .ok (.iadd, 1) := by decide +kernel
theorem dX8_barredAt_26 : decode cX8_barredAt 26 = .ok (.iaload, 1) := by decide +kernel
theorem dX8_barredAt_27 : decode cX8_barredAt 27 = .ok (.aload_n 0, 1) := by decide +kernel
theorem dX8_barredAt_28 : decode cX8_barredAt 28 = .ok (.getfield 146, 3) := by decide +kernel
theorem dX8_barredAt_31 : decode cX8_barredAt 31 = .ok (.if_icmp .lt 9, 3) := by decide +kernel
theorem dX8_barredAt_34 : decode cX8_barredAt 34 = .ok (.iconst 1, 1) := by decide +kernel
theorem dX8_barredAt_35 : decode cX8_barredAt 35 = .ok (.iload_n 3, 1) := by decide +kernel
theorem dX8_barredAt_36 : decode cX8_barredAt 36 = .ok (.ishl, 1) := by decide +kernel
theorem dX8_barredAt_37 : decode cX8_barredAt 37 = .ok (.goto 4, 3) := by decide +kernel
theorem dX8_barredAt_40 : decode cX8_barredAt 40 = .ok (.iconst 0, 1) := by decide +kernel
theorem dX8_barredAt_41 : decode cX8_barredAt 41 = .ok (.ior, 1) := by decide +kernel
theorem dX8_barredAt_42 : decode cX8_barredAt 42 = .ok (.istore_n 2, 1) := by decide +kernel
theorem dX8_barredAt_43 : decode cX8_barredAt 43 = .ok (.iinc 3 1, 3) := by decide +kernel
theorem dX8_barredAt_46 : decode cX8_barredAt 46 = .ok (.goto (-42), 3) := by decide +kernel
theorem dX8_barredAt_49 : decode cX8_barredAt 49 = .ok (.iload_n 2, 1) := by decide +kernel
theorem dX8_barredAt_50 : decode cX8_barredAt 50 = .ok (.ireturn, 1) := by decide +kernel
theorem gX8_door_X8_isDoor : GoodIn wsX8_door (wsV RX8 192 RX8 yX8_isDoor wsX8_isDoor) := gwV aw_491 aw_492 aw_493 aw_3 aw_494
theorem gX8_door_X8_in : GoodIn wsX8_door (va_wsS RX8 85 yX8_in wsX8_in) := gwS aw_361 aw_362 aw_3 aw_363
theorem gX8_door_X8_barredAt : GoodIn wsX8_door (wsV RX8 195 RX8 yX8_barredAt wsX8_barredAt) := gwV aw_495 aw_496 aw_497 aw_3 aw_498
theorem dX8_door_0 : decode cX8_door 0 = .ok (.aload_n 0, 1) := by decide +kernel
theorem dX8_door_1 : decode cX8_door 1 = .ok (.iload_n 1, 1) := by decide +kernel
theorem dX8_door_2 : decode cX8_door 2 = .ok (.invokevirtual 192, 3) := by decide +kernel
theorem dX8_door_5 : decode cX8_door 5 = .ok (.ifCond .eq 12, 3) := by decide +kernel
theorem dX8_door_8 : decode cX8_door 8 = .ok (.iload_n 2, 1) := by decide +kernel
theorem dX8_door_9 : decode cX8_door 9 = .ok (.iconst 0, 1) := by decide +kernel
theorem dX8_door_10 : decode cX8_door 10 = .ok (.iconst 3, 1) := by decide +kernel
theorem dX8_door_11 : decode cX8_door 11 = .ok (.invokestatic 85, 3) := by decide +kernel
theorem dX8_door_14 : decode cX8_door 14 = .ok (.ifCond .ne 5, 3) := by decide +kernel
theorem dX8_door_17 : decode cX8_door 17 = .ok (.iconst (-1), 1) := by decide +kernel
theorem dX8_door_18 : decode cX8_door 18 = .ok (.ireturn, 1) := by decide +kernel
theorem dX8_door_19 : decode cX8_door 19 = .ok (.iload_n 2, 1) := by decide +kernel
theorem dX8_door_20 : decode cX8_door 20 = .ok (.ifCond .ne 12, 3) := by decide +kernel
theorem dX8_door_23 : decode cX8_door 23 = .ok (.aload_n 0, 1) := by decide +kernel
theorem dX8_door_24 : decode cX8_door 24 = .ok (.getfield 13, 3) := by decide +kernel
theorem dX8_door_27 : decode cX8_door 27 = .ok (.iload_n 1, 1) := by decide +kernel
theorem dX8_door_28 : decode cX8_door 28 = .ok (.iaload, 1) := by decide +kernel
theorem dX8_door_29 : decode cX8_door 29 = .ok (.goto 42, 3) := by decide +kernel
theorem dX8_door_32 : decode cX8_door 32 = .ok (.iload_n 2, 1) := by decide +kernel
theorem dX8_door_33 : decode cX8_door 33 = .ok (.iconst 1, 1) := by decide +kernel
theorem dX8_door_34 : decode cX8_door 34 = .ok (.if_icmp .ne 15, 3) := by decide +kernel
theorem dX8_door_37 : decode cX8_door 37 = .ok (.aload_n 0, 1) := by decide +kernel
theorem dX8_door_38 : decode cX8_door 38 = .ok (.getfield 19, 3) := by decide +kernel
theorem dX8_door_41 : decode cX8_door 41 = .ok (.bipush 65, 2) := by decide +kernel
theorem dX8_door_43 : decode cX8_door 43 = .ok (.iload_n 1, 1) := by decide +kernel
theorem dX8_door_44 : decode cX8_door 44 = .ok (.iadd, 1) := by decide +kernel
theorem dX8_door_45 : decode cX8_door 45 = .ok (.iaload, 1) := by decide +kernel
theorem dX8_door_46 : decode cX8_door 46 = .ok (.goto 25, 3) := by decide +kernel
theorem dX8_door_49 : decode cX8_door 49 = .ok (.iload_n 2, 1) := by decide +kernel
theorem dX8_door_50 : decode cX8_door 50 = .ok (.iconst 2, 1) := by decide +kernel
theorem dX8_door_51 : decode cX8_door 51 = .ok (.if_icmp .ne 15, 3) := by decide +kernel
theorem dX8_door_54 : decode cX8_door 54 = .ok (.aload_n 0, 1) := by decide +kernel
theorem dX8_door_55 : decode cX8_door 55 = .ok (.getfield 19, 3) := by decide +kernel
theorem dX8_door_58 : decode cX8_door 58 = .ok (.bipush 70, 2) := by decide +kernel
theorem dX8_door_60 : decode cX8_door 60 = .ok (.iload_n 1, 1) := by decide +kernel
theorem dX8_door_61 : decode cX8_door 61 = .ok (.iadd, 1) := by decide +kernel
theorem dX8_door_62 : decode cX8_door 62 = .ok (.iaload, 1) := by decide +kernel
theorem dX8_door_63 : decode cX8_door 63 = .ok (.goto 8, 3) := by decide +kernel
theorem dX8_door_66 : decode cX8_door 66 = .ok (.aload_n 0, 1) := by decide +kernel
theorem dX8_door_67 : decode cX8_door 67 = .ok (.iload_n 1, 1) := by decide +kernel
theorem dX8_door_68 : decode cX8_door 68 = .ok (.invokevirtual 195, 3) := by decide +kernel
theorem dX8_door_71 : decode cX8_door 71 = .ok (.ireturn, 1) := by decide +kernel
theorem gX8_remembers_X8_copies : GoodIn wsX8_remembers (va_wsS RX8 139 yX8_copies wsX8_copies) := gwS aw_331 aw_332 aw_3 aw_333
theorem dX8_remembers_0 : decode cX8_remembers 0 = .ok (.aload_n 0, 1) := by decide +kernel
theorem dX8_remembers_1 : decode cX8_remembers 1 = .ok (.getfield 152, 3) := by decide +kernel
theorem dX8_remembers_4 : decode cX8_remembers 4 = .ok (.bipush 8, 2) := by decide +kernel
theorem dX8_remembers_6 : decode cX8_remembers 6 = .ok (.if_icmp .ne 43, 3) := by decide +kernel
theorem dX8_remembers_9 : decode cX8_remembers 9 = .ok (.iconst 0, 1) := by decide +kernel
theorem dX8_remembers_10 : decode cX8_remembers 10 = .ok (.istore_n 1, 1) := by decide +kernel
theorem dX8_remembers_11 : decode cX8_remembers 11 = .ok (.iload_n 1, 1) := by decide +kernel
theorem dX8_remembers_12 : decode cX8_remembers 12 = .ok (.sipush 805, 3) := by decide +kernel
theorem dX8_remembers_15 : decode cX8_remembers 15 = .ok (.if_icmp .ge 24, 3) := by decide +kernel
theorem dX8_remembers_18 : decode cX8_remembers 18 = .ok (.aload_n 0, 1) := by decide +kernel
theorem dX8_remembers_19 : decode cX8_remembers 19 = .ok (.getfield 22, 3) := by decide +kernel
theorem dX8_remembers_22 : decode cX8_remembers 22 = .ok (.iload_n 1, 1) := by decide +kernel
theorem dX8_remembers_23 : decode cX8_remembers 23 = .ok (.aload_n 0, 1) := by decide +kernel
theorem dX8_remembers_24 : decode cX8_remembers 24 = .ok (.getfield 22, 3) := by decide +kernel
theorem dX8_remembers_27 : decode cX8_remembers 27 = .ok (.iload_n 1, 1) := by decide +kernel
theorem dX8_remembers_28 : decode cX8_remembers 28 = .ok (.bipush 115, 2) := by decide +kernel
theorem dX8_remembers_30 : decode cX8_remembers 30 = .ok (.iadd, 1) := by decide +kernel
theorem dX8_remembers_31 : decode cX8_remembers 31 = .ok (.iaload, 1) := by decide +kernel
theorem dX8_remembers_32 : decode cX8_remembers 32 = .ok (.iastore, 1) := by decide +kernel
theorem dX8_remembers_33 : decode cX8_remembers 33 = .ok (.iinc 1 1, 3) := by decide +kernel
theorem dX8_remembers_36 : decode cX8_remembers 36 = .ok (.goto (-25), 3) := by decide +kernel
theorem dX8_remembers_39 : decode cX8_remembers 39 = .ok (.aload_n 0, 1) := by decide +kernel
theorem dX8_remembers_40 : decode cX8_remembers 40 = .ok (.dup, 1) := by decide +kernel
theorem dX8_remembers_41 : decode cX8_remembers 41 = .ok (.getfield 152, 3) := by decide +kernel
theorem dX8_remembers_44 : decode cX8_remembers 44 = .ok (.iconst 1, 1) := by decide +kernel
theorem dX8_remembers_45 : decode cX8_remembers 45 = .ok (.isub, 1) := by decide +kernel
theorem dX8_remembers_46 : decode cX8_remembers 46 = .ok (.putfield 152, 3) := by decide +kernel
theorem dX8_remembers_49 : decode cX8_remembers 49 = .ok (.aload_n 0, 1) := by decide +kernel
theorem dX8_remembers_50 : decode cX8_remembers 50 = .ok (.getfield 22, 3) := by decide +kernel
theorem dX8_remembers_53 : decode cX8_remembers 53 = .ok (.bipush 115, 2) := by decide +kernel
theorem dX8_remembers_55 : decode cX8_remembers 55 = .ok (.aload_n 0, 1) := by decide +kernel
theorem dX8_remembers_56 : decode cX8_remembers 56 = .ok (.getfield 152, 3) := by decide +kernel
theorem dX8_remembers_59 : decode cX8_remembers 59 = .ok (.imul, 1) := by decide +kernel
theorem dX8_remembers_60 : decode cX8_remembers 60 = .ok (.aload_n 0, 1) := by decide +kernel
theorem dX8_remembers_61 : decode cX8_remembers 61 = .ok (.getfield 19, 3) := by decide +kernel
theorem dX8_remembers_64 : decode cX8_remembers 64 = .ok (.iconst 0, 1) := by decide +kernel
theorem dX8_remembers_65 : decode cX8_remembers 65 = .ok (.bipush 115, 2) := by decide +kernel
theorem dX8_remembers_67 : decode cX8_remembers 67 = .ok (.invokestatic 139, 3) := by decide +kernel
theorem dX8_remembers_70 : decode cX8_remembers 70 = .ok (.aload_n 0, 1) := by decide +kernel
theorem dX8_remembers_71 : decode cX8_remembers 71 = .ok (.dup, 1) := by decide +kernel
theorem dX8_remembers_72 : decode cX8_remembers 72 = .ok (.getfield 152, 3) := by decide +kernel
theorem dX8_remembers_75 : decode cX8_remembers 75 = .ok (.iconst 1, 1) := by decide +kernel
theorem dX8_remembers_76 : decode cX8_remembers 76 = .ok (.iadd, 1) := by decide +kernel
theorem dX8_remembers_77 : decode cX8_remembers 77 = .ok (.putfield 152, 3) := by decide +kernel
theorem dX8_remembers_80 : decode cX8_remembers 80 = .ok (.return_, 1) := by decide +kernel
theorem gX8_call_X8_isPerson : GoodIn wsX8_call (wsV RX8 183 RX8 yX8_isPerson wsX8_isPerson) := gwV aw_450 aw_451 aw_452 aw_3 aw_453
theorem gX8_call_X8_isDoor : GoodIn wsX8_call (wsV RX8 192 RX8 yX8_isDoor wsX8_isDoor) := gwV aw_491 aw_492 aw_493 aw_3 aw_494
theorem gX8_call_X8_remembers : GoodIn wsX8_call (wsV RX8 198 RX8 yX8_remembers wsX8_remembers) := gwV aw_517 aw_518 aw_519 aw_3 aw_520
theorem gX8_call_X8_asItIs : GoodIn wsX8_call (wsV RX8 186 RX8 yX8_asItIs wsX8_asItIs) := gwV aw_454 aw_455 aw_456 aw_3 aw_457
theorem gX8_call_X8_calls : GoodIn wsX8_call (wsV RX8 149 RX8 yX8_calls wsX8_calls) := gwV aw_334 aw_335 aw_336 aw_3 aw_337
theorem gX8_call_X8_copies : GoodIn wsX8_call (va_wsS RX8 139 yX8_copies wsX8_copies) := gwS aw_331 aw_332 aw_3 aw_333
theorem gX8_call_X8_bits : GoodIn wsX8_call (va_wsS RX8 189 yX8_bits wsX8_bits) := gwS aw_458 aw_459 aw_3 aw_460
theorem dX8_call_0 : decode cX8_call 0 = .ok (.aload_n 0, 1) := by decide +kernel
theorem dX8_call_1 : decode cX8_call 1 = .ok (.iload_n 1, 1) := by decide +kernel
theorem dX8_call_2 : decode cX8_call 2 = .ok (.invokevirtual 183, 3) := by decide +kernel
theorem dX8_call_5 : decode cX8_call 5 = .ok (.ifCond .eq 11, 3) := by decide +kernel
theorem dX8_call_8 : decode cX8_call 8 = .ok (.aload_n 0, 1) := by decide +kernel
theorem dX8_call_9 : decode cX8_call 9 = .ok (.iload_n 2, 1) := by decide +kernel
theorem dX8_call_10 : decode cX8_call 10 = .ok (.invokevirtual 192, 3) := by decide +kernel
theorem dX8_call_13 : decode cX8_call 13 = .ok (.ifCond .ne 5, 3) := by decide +kernel
theorem dX8_call_16 : decode cX8_call 16 = .ok (.iconst (-1), 1) := by decide +kernel
theorem dX8_call_17 : decode cX8_call 17 = .ok (.ireturn, 1) := by decide +kernel
theorem dX8_call_18 : decode cX8_call 18 = .ok (.aload_n 0, 1) := by decide +kernel
theorem dX8_call_19 : decode cX8_call 19 = .ok (.invokevirtual 198, 3) := by decide +kernel
theorem dX8_call_22 : decode cX8_call 22 = .ok (.aload_n 0, 1) := by decide +kernel
theorem dX8_call_23 : decode cX8_call 23 = .ok (.invokevirtual 186, 3) := by decide +kernel
theorem dX8_call_26 : decode cX8_call 26 = .ok (.aload_n 0, 1) := by decide +kernel
theorem dX8_call_27 : decode cX8_call 27 = .ok (.iload_n 1, 1) := by decide +kernel
theorem dX8_call_28 : decode cX8_call 28 = .ok (.iload_n 2, 1) := by decide +kernel
theorem dX8_call_29 : decode cX8_call 29 = .ok (.invokevirtual 149, 3) := by decide +kernel
theorem dX8_call_32 : decode cX8_call 32 = .ok (.aload_n 0, 1) := by decide +kernel
theorem dX8_call_33 : decode cX8_call 33 = .ok (.getfield 19, 3) := by decide +kernel
theorem dX8_call_36 : decode cX8_call 36 = .ok (.iconst 0, 1) := by decide +kernel
theorem dX8_call_37 : decode cX8_call 37 = .ok (.aload_n 0, 1) := by decide +kernel
theorem dX8_call_38 : decode cX8_call 38 = .ok (.getfield 49, 3) := by decide +kernel
theorem dX8_call_41 : decode cX8_call 41 = .ok (.iconst 0, 1) := by decide +kernel
theorem dX8_call_42 : decode cX8_call 42 = .ok (.bipush 115, 2) := by decide +kernel
theorem dX8_call_44 : decode cX8_call 44 = .ok (.invokestatic 139, 3) := by decide +kernel
theorem dX8_call_47 : decode cX8_call 47 = .ok (.aload_n 0, 1) := by decide +kernel
theorem dX8_call_48 : decode cX8_call 48 = .ok (.getfield 19, 3) := by decide +kernel
theorem dX8_call_51 : decode cX8_call 51 = .ok (.bipush 70, 2) := by decide +kernel
theorem dX8_call_53 : decode cX8_call 53 = .ok (.iload_n 2, 1) := by decide +kernel
theorem dX8_call_54 : decode cX8_call 54 = .ok (.iadd, 1) := by decide +kernel
theorem dX8_call_55 : decode cX8_call 55 = .ok (.iaload, 1) := by decide +kernel
theorem dX8_call_56 : decode cX8_call 56 = .ok (.invokestatic 189, 3) := by decide +kernel
theorem dX8_call_59 : decode cX8_call 59 = .ok (.ireturn, 1) := by decide +kernel
theorem gX8_tries_X8_isPerson : GoodIn wsX8_tries (wsV RX8 183 RX8 yX8_isPerson wsX8_isPerson) := gwV aw_450 aw_451 aw_452 aw_3 aw_453
theorem gX8_tries_X8_isDoor : GoodIn wsX8_tries (wsV RX8 192 RX8 yX8_isDoor wsX8_isDoor) := gwV aw_491 aw_492 aw_493 aw_3 aw_494
theorem gX8_tries_X8_barredAt : GoodIn wsX8_tries (wsV RX8 195 RX8 yX8_barredAt wsX8_barredAt) := gwV aw_495 aw_496 aw_497 aw_3 aw_498
theorem gX8_tries_X8_has : GoodIn wsX8_tries (va_wsS RX8 161 yX8_has wsX8_has) := gwS aw_346 aw_347 aw_3 aw_348
theorem gX8_tries_X8_remembers : GoodIn wsX8_tries (wsV RX8 198 RX8 yX8_remembers wsX8_remembers) := gwV aw_517 aw_518 aw_519 aw_3 aw_520
theorem dX8_tries_0 : decode cX8_tries 0 = .ok (.aload_n 0, 1) := by decide +kernel
theorem dX8_tries_1 : decode cX8_tries 1 = .ok (.iload_n 1, 1) := by decide +kernel
theorem dX8_tries_2 : decode cX8_tries 2 = .ok (.invokevirtual 183, 3) := by decide +kernel
theorem dX8_tries_5 : decode cX8_tries 5 = .ok (.ifCond .eq 11, 3) := by decide +kernel
theorem dX8_tries_8 : decode cX8_tries 8 = .ok (.aload_n 0, 1) := by decide +kernel
theorem dX8_tries_9 : decode cX8_tries 9 = .ok (.iload_n 2, 1) := by decide +kernel
theorem dX8_tries_10 : decode cX8_tries 10 = .ok (.invokevirtual 192, 3) := by decide +kernel
theorem dX8_tries_13 : decode cX8_tries 13 = .ok (.ifCond .ne 5, 3) := by decide +kernel
theorem dX8_tries_16 : decode cX8_tries 16 = .ok (.iconst (-1), 1) := by decide +kernel
theorem dX8_tries_17 : decode cX8_tries 17 = .ok (.ireturn, 1) := by decide +kernel
theorem dX8_tries_18 : decode cX8_tries 18 = .ok (.aload_n 0, 1) := by decide +kernel
theorem dX8_tries_19 : decode cX8_tries 19 = .ok (.iload_n 2, 1) := by decide +kernel
theorem dX8_tries_20 : decode cX8_tries 20 = .ok (.invokevirtual 195, 3) := by decide +kernel
theorem dX8_tries_23 : decode cX8_tries 23 = .ok (.iload_n 1, 1) := by decide +kernel
theorem dX8_tries_24 : decode cX8_tries 24 = .ok (.invokestatic 161, 3) := by decide +kernel
theorem dX8_tries_27 : decode cX8_tries 27 = .ok (.ifCond .eq 6, 3) := by decide +kernel
theorem dX8_tries_30 : decode cX8_tries 30 = .ok (.bipush (-2), 2) := by decide +kernel
theorem dX8_tries_32 : decode cX8_tries 32 = .ok (.ireturn, 1) := by decide +kernel
theorem dX8_tries_33 : decode cX8_tries 33 = .ok (.aload_n 0, 1) := by decide +kernel
theorem dX8_tries_34 : decode cX8_tries 34 = .ok (.invokevirtual 198, 3) := by decide +kernel
theorem dX8_tries_37 : decode cX8_tries 37 = .ok (.aload_n 0, 1) := by decide +kernel
theorem dX8_tries_38 : decode cX8_tries 38 = .ok (.getfield 19, 3) := by decide +kernel
theorem dX8_tries_41 : decode cX8_tries 41 = .ok (.bipush 70, 2) := by decide +kernel
theorem dX8_tries_43 : decode cX8_tries 43 = .ok (.iload_n 2, 1) := by decide +kernel
theorem dX8_tries_44 : decode cX8_tries 44 = .ok (.iadd, 1) := by decide +kernel
theorem dX8_tries_45 : decode cX8_tries 45 = .ok (.iaload, 1) := by decide +kernel
theorem dX8_tries_46 : decode cX8_tries 46 = .ok (.iload_n 1, 1) := by decide +kernel
theorem dX8_tries_47 : decode cX8_tries 47 = .ok (.invokestatic 161, 3) := by decide +kernel
theorem dX8_tries_50 : decode cX8_tries 50 = .ok (.ifCond .eq 5, 3) := by decide +kernel
theorem dX8_tries_53 : decode cX8_tries 53 = .ok (.iconst 1, 1) := by decide +kernel
theorem dX8_tries_54 : decode cX8_tries 54 = .ok (.ireturn, 1) := by decide +kernel
theorem dX8_tries_55 : decode cX8_tries 55 = .ok (.aload_n 0, 1) := by decide +kernel
theorem dX8_tries_56 : decode cX8_tries 56 = .ok (.getfield 19, 3) := by decide +kernel
theorem dX8_tries_59 : decode cX8_tries 59 = .ok (.bipush 75, 2) := by decide +kernel
theorem dX8_tries_61 : decode cX8_tries 61 = .ok (.bipush 8, 2) := by decide +kernel
theorem dX8_tries_63 : decode cX8_tries 63 = .ok (.iload_n 2, 1) := by decide +kernel
theorem dX8_tries_64 : decode cX8_tries 64 = .ok (.imul, 1) := by decide +kernel
theorem dX8_tries_65 : decode cX8_tries 65 = .ok (.iadd, 1) := by decide +kernel
theorem dX8_tries_66 : decode cX8_tries 66 = .ok (.iload_n 1, 1) := by decide +kernel
theorem dX8_tries_67 : decode cX8_tries 67 = .ok (.iadd, 1) := by decide +kernel
theorem dX8_tries_68 : decode cX8_tries 68 = .ok (.dup2, 1) := by decide +kernel
theorem dX8_tries_69 : decode cX8_tries 69 = .ok (.iaload, 1) := by decide +kernel
theorem dX8_tries_70 : decode cX8_tries 70 = .ok (.iconst 1, 1) := by decide +kernel
theorem dX8_tries_71 : decode cX8_tries 71 = .ok (.iadd, 1) := by decide +kernel
theorem dX8_tries_72 : decode cX8_tries 72 = .ok (.iastore, 1) := by decide +kernel
theorem dX8_tries_73 : decode cX8_tries 73 = .ok (.iconst 0, 1) := by decide +kernel
theorem dX8_tries_74 : decode cX8_tries 74 = .ok (.ireturn, 1) := by decide +kernel
theorem gX8_day_X8_remembers : GoodIn wsX8_day (wsV RX8 198 RX8 yX8_remembers wsX8_remembers) := gwV aw_517 aw_518 aw_519 aw_3 aw_520
theorem gX8_day_X8_asItIs : GoodIn wsX8_day (wsV RX8 186 RX8 yX8_asItIs wsX8_asItIs) := gwV aw_454 aw_455 aw_456 aw_3 aw_457
theorem gX8_day_X8_goes : GoodIn wsX8_day (wsV RX8 201 RX8 yX8_goes wsX8_goes) := gwV aw_540 aw_541 aw_542 aw_3 aw_543
theorem gX8_day_X8_copies : GoodIn wsX8_day (va_wsS RX8 139 yX8_copies wsX8_copies) := gwS aw_331 aw_332 aw_3 aw_333
theorem dX8_day_0 : decode cX8_day 0 = .ok (.aload_n 0, 1) := by decide +kernel
theorem dX8_day_1 : decode cX8_day 1 = .ok (.invokevirtual 198, 3) := by decide +kernel
theorem dX8_day_4 : decode cX8_day 4 = .ok (.aload_n 0, 1) := by decide +kernel
theorem dX8_day_5 : decode cX8_day 5 = .ok (.invokevirtual 186, 3) := by decide +kernel
theorem dX8_day_8 : decode cX8_day 8 = .ok (.aload_n 0, 1) := by decide +kernel
theorem dX8_day_9 : decode cX8_day 9 = .ok (.invokevirtual 201, 3) := by decide +kernel
theorem dX8_day_12 : decode cX8_day 12 = .ok (.aload_n 0, 1) := by decide +kernel
theorem dX8_day_13 : decode cX8_day 13 = .ok (.getfield 19, 3) := by decide +kernel
theorem dX8_day_16 : decode cX8_day 16 = .ok (.iconst 0, 1) := by decide +kernel
theorem dX8_day_17 : decode cX8_day 17 = .ok (.aload_n 0, 1) := by decide +kernel
theorem dX8_day_18 : decode cX8_day 18 = .ok (.getfield 49, 3) := by decide +kernel
theorem dX8_day_21 : decode cX8_day 21 = .ok (.iconst 0, 1) := by decide +kernel
theorem dX8_day_22 : decode cX8_day 22 = .ok (.bipush 115, 2) := by decide +kernel
theorem dX8_day_24 : decode cX8_day 24 = .ok (.invokestatic 139, 3) := by decide +kernel
theorem dX8_day_27 : decode cX8_day 27 = .ok (.aload_n 0, 1) := by decide +kernel
theorem dX8_day_28 : decode cX8_day 28 = .ok (.getfield 19, 3) := by decide +kernel
theorem dX8_day_31 : decode cX8_day 31 = .ok (.iconst 0, 1) := by decide +kernel
theorem dX8_day_32 : decode cX8_day 32 = .ok (.iaload, 1) := by decide +kernel
theorem dX8_day_33 : decode cX8_day 33 = .ok (.ireturn, 1) := by decide +kernel
theorem gX8_alter_X8_isPerson : GoodIn wsX8_alter (wsV RX8 183 RX8 yX8_isPerson wsX8_isPerson) := gwV aw_450 aw_451 aw_452 aw_3 aw_453
theorem gX8_alter_X8_in : GoodIn wsX8_alter (va_wsS RX8 85 yX8_in wsX8_in) := gwS aw_361 aw_362 aw_3 aw_363
theorem gX8_alter_X8_remembers : GoodIn wsX8_alter (wsV RX8 198 RX8 yX8_remembers wsX8_remembers) := gwV aw_517 aw_518 aw_519 aw_3 aw_520
theorem dX8_alter_0 : decode cX8_alter 0 = .ok (.aload_n 0, 1) := by decide +kernel
theorem dX8_alter_1 : decode cX8_alter 1 = .ok (.iload_n 1, 1) := by decide +kernel
theorem dX8_alter_2 : decode cX8_alter 2 = .ok (.invokevirtual 183, 3) := by decide +kernel
theorem dX8_alter_5 : decode cX8_alter 5 = .ok (.ifCond .eq 21, 3) := by decide +kernel
theorem dX8_alter_8 : decode cX8_alter 8 = .ok (.aload_n 0, 1) := by decide +kernel
theorem dX8_alter_9 : decode cX8_alter 9 = .ok (.iload_n 2, 1) := by decide +kernel
theorem dX8_alter_10 : decode cX8_alter 10 = .ok (.invokevirtual 183, 3) := by decide +kernel
theorem dX8_alter_13 : decode cX8_alter 13 = .ok (.ifCond .eq 13, 3) := by decide +kernel
theorem dX8_alter_16 : decode cX8_alter 16 = .ok (.iload_n 3, 1) := by decide +kernel
theorem dX8_alter_17 : decode cX8_alter 17 = .ok (.iconst 0, 1) := by decide +kernel
theorem dX8_alter_18 : decode cX8_alter 18 = .ok (.bipush 9, 2) := by decide +kernel
theorem dX8_alter_20 : decode cX8_alter 20 = .ok (.invokestatic 85, 3) := by decide +kernel
theorem dX8_alter_23 : decode cX8_alter 23 = .ok (.ifCond .ne 5, 3) := by decide +kernel
theorem dX8_alter_26 : decode cX8_alter 26 = .ok (.iconst (-1), 1) := by decide +kernel
theorem dX8_alter_27 : decode cX8_alter 27 = .ok (.ireturn, 1) := by decide +kernel
theorem dX8_alter_28 : decode cX8_alter 28 = .ok (.aload_n 0, 1) := by decide +kernel
theorem dX8_alter_29 : decode cX8_alter 29 = .ok (.invokevirtual 198, 3) := by decide +kernel
theorem dX8_alter_32 : decode cX8_alter 32 = .ok (.aload_n 0, 1) := by decide +kernel
theorem dX8_alter_33 : decode cX8_alter 33 = .ok (.getfield 19, 3) := by decide +kernel
theorem dX8_alter_36 : decode cX8_alter 36 = .ok (.iconst 1, 1) := by decide +kernel
theorem dX8_alter_37 : decode cX8_alter 37 = .ok (.bipush 8, 2) := by decide +kernel
theorem dX8_alter_39 : decode cX8_alter 39 = .ok (.iload_n 1, 1) := by decide +kernel
theorem dX8_alter_40 : decode cX8_alter 40 = .ok (.imul, 1) := by decide +kernel
theorem dX8_alter_41 : decode cX8_alter 41 = .ok (.iadd, 1) := by decide +kernel
theorem dX8_alter_42 : decode cX8_alter 42 = .ok (.iload_n 2, 1) := by decide +kernel
theorem dX8_alter_43 : decode cX8_alter 43 = .ok (.iadd, 1) := by decide +kernel
theorem dX8_alter_44 : decode cX8_alter 44 = .ok (.iaload, 1) := by decide +kernel
theorem dX8_alter_45 : decode cX8_alter 45 = .ok (.istore 4, 2) := by decide +kernel
theorem dX8_alter_47 : decode cX8_alter 47 = .ok (.aload_n 0, 1) := by decide +kernel
theorem dX8_alter_48 : decode cX8_alter 48 = .ok (.getfield 19, 3) := by decide +kernel
theorem dX8_alter_51 : decode cX8_alter 51 = .ok (.iconst 1, 1) := by decide +kernel
theorem dX8_alter_52 : decode cX8_alter 52 = .ok (.bipush 8, 2) := by decide +kernel
theorem dX8_alter_54 : decode cX8_alter 54 = .ok (.iload_n 1, 1) := by decide +kernel
theorem dX8_alter_55 : decode cX8_alter 55 = .ok (.imul, 1) := by decide +kernel
theorem dX8_alter_56 : decode cX8_alter 56 = .ok (.iadd, 1) := by decide +kernel
theorem dX8_alter_57 : decode cX8_alter 57 = .ok (.iload_n 2, 1) := by decide +kernel
theorem dX8_alter_58 : decode cX8_alter 58 = .ok (.iadd, 1) := by decide +kernel
theorem dX8_alter_59 : decode cX8_alter 59 = .ok (.iload_n 3, 1) := by decide +kernel
theorem dX8_alter_60 : decode cX8_alter 60 = .ok (.iastore, 1) := by decide +kernel
theorem dX8_alter_61 : decode cX8_alter 61 = .ok (.iload 4, 2) := by decide +kernel
theorem dX8_alter_63 : decode cX8_alter 63 = .ok (.ireturn, 1) := by decide +kernel
theorem gX8_undo_X8_copies : GoodIn wsX8_undo (va_wsS RX8 139 yX8_copies wsX8_copies) := gwS aw_331 aw_332 aw_3 aw_333
theorem dX8_undo_0 : decode cX8_undo 0 = .ok (.aload_n 0, 1) := by decide +kernel
theorem dX8_undo_1 : decode cX8_undo 1 = .ok (.getfield 152, 3) := by decide +kernel
theorem dX8_undo_4 : decode cX8_undo 4 = .ok (.ifCond .ne 6, 3) := by decide +kernel
theorem dX8_undo_7 : decode cX8_undo 7 = .ok (.bipush (-2), 2) := by decide +kernel
theorem dX8_undo_9 : decode cX8_undo 9 = .ok (.ireturn, 1) := by decide +kernel
theorem dX8_undo_10 : decode cX8_undo 10 = .ok (.aload_n 0, 1) := by decide +kernel
theorem dX8_undo_11 : decode cX8_undo 11 = .ok (.dup, 1) := by decide +kernel
theorem dX8_undo_12 : decode cX8_undo 12 = .ok (.getfield 152, 3) := by decide +kernel
theorem dX8_undo_15 : decode cX8_undo 15 = .ok (.iconst 1, 1) := by decide +kernel
theorem dX8_undo_16 : decode cX8_undo 16 = .ok (.isub, 1) := by decide +kernel
theorem dX8_undo_17 : decode cX8_undo 17 = .ok (.putfield 152, 3) := by decide +kernel
theorem dX8_undo_20 : decode cX8_undo 20 = .ok (.aload_n 0, 1) := by decide +kernel
theorem dX8_undo_21 : decode cX8_undo 21 = .ok (.getfield 19, 3) := by decide +kernel
theorem dX8_undo_24 : decode cX8_undo 24 = .ok (.iconst 0, 1) := by decide +kernel
theorem dX8_undo_25 : decode cX8_undo 25 = .ok (.aload_n 0, 1) := by decide +kernel
theorem dX8_undo_26 : decode cX8_undo 26 = .ok (.getfield 22, 3) := by decide +kernel
theorem dX8_undo_29 : decode cX8_undo 29 = .ok (.bipush 115, 2) := by decide +kernel
theorem dX8_undo_31 : decode cX8_undo 31 = .ok (.aload_n 0, 1) := by decide +kernel
theorem dX8_undo_32 : decode cX8_undo 32 = .ok (.getfield 152, 3) := by decide +kernel
theorem dX8_undo_35 : decode cX8_undo 35 = .ok (.imul, 1) := by decide +kernel
theorem dX8_undo_36 : decode cX8_undo 36 = .ok (.bipush 115, 2) := by decide +kernel
theorem dX8_undo_38 : decode cX8_undo 38 = .ok (.invokestatic 139, 3) := by decide +kernel
theorem dX8_undo_41 : decode cX8_undo 41 = .ok (.aload_n 0, 1) := by decide +kernel
theorem dX8_undo_42 : decode cX8_undo 42 = .ok (.getfield 152, 3) := by decide +kernel
theorem dX8_undo_45 : decode cX8_undo 45 = .ok (.ireturn, 1) := by decide +kernel
theorem gX8_shutOut_X8_asItIs : GoodIn wsX8_shutOut (wsV RX8 186 RX8 yX8_asItIs wsX8_asItIs) := gwV aw_454 aw_455 aw_456 aw_3 aw_457
theorem gX8_shutOut_X8_shutOutNow : GoodIn wsX8_shutOut (wsV RX8 204 RX8 yX8_shutOutNow wsX8_shutOutNow) := gwV aw_575 aw_576 aw_577 aw_3 aw_578
theorem dX8_shutOut_0 : decode cX8_shutOut 0 = .ok (.aload_n 0, 1) := by decide +kernel
theorem dX8_shutOut_1 : decode cX8_shutOut 1 = .ok (.invokevirtual 186, 3) := by decide +kernel
theorem dX8_shutOut_4 : decode cX8_shutOut 4 = .ok (.aload_n 0, 1) := by decide +kernel
theorem dX8_shutOut_5 : decode cX8_shutOut 5 = .ok (.invokevirtual 204, 3) := by decide +kernel
theorem dX8_shutOut_8 : decode cX8_shutOut 8 = .ok (.ireturn, 1) := by decide +kernel
theorem gX8_knownBehind_X8_dayAt : GoodIn wsX8_knownBehind (wsV RX8 176 RX8 yX8_dayAt wsX8_dayAt) := gwV aw_544 aw_545 aw_546 aw_3 aw_547
theorem dX8_knownBehind_0 : decode cX8_knownBehind 0 = .ok (.iconst 0, 1) := by decide +kernel
theorem dX8_knownBehind_1 : decode cX8_knownBehind 1 = .ok (.istore_n 3, 1) := by decide +kernel
theorem dX8_knownBehind_2 : decode cX8_knownBehind 2 = .ok (.iload_n 3, 1) := by decide +kernel
theorem dX8_knownBehind_3 : decode cX8_knownBehind 3 = .ok (.iload_n 2, 1) := by decide +kernel
theorem dX8_knownBehind_4 : decode cX8_knownBehind 4 = .ok (.if_icmp .ge 14, 3) := by decide +kernel
theorem dX8_knownBehind_7 : decode cX8_knownBehind 7 = .ok (.aload_n 0, 1) := by decide +kernel
theorem dX8_knownBehind_8 : decode cX8_knownBehind 8 = .ok (.iload_n 1, 1) := by decide +kernel
theorem dX8_knownBehind_9 : decode cX8_knownBehind 9 = .ok (.invokevirtual 176, 3) := by decide +kernel
theorem dX8_knownBehind_12 : decode cX8_knownBehind 12 = .ok (.iinc 3 1, 3) := by decide +kernel
theorem dX8_knownBehind_15 : decode cX8_knownBehind 15 = .ok (.goto (-13), 3) := by decide +kernel
theorem dX8_knownBehind_18 : decode cX8_knownBehind 18 = .ok (.aload_n 0, 1) := by decide +kernel
theorem dX8_knownBehind_19 : decode cX8_knownBehind 19 = .ok (.getfield 49, 3) := by decide +kernel
theorem dX8_knownBehind_22 : decode cX8_knownBehind 22 = .ok (.bipush 70, 2) := by decide +kernel
theorem dX8_knownBehind_24 : decode cX8_knownBehind 24 = .ok (.iload_n 1, 1) := by decide +kernel
theorem dX8_knownBehind_25 : decode cX8_knownBehind 25 = .ok (.iadd, 1) := by decide +kernel
theorem dX8_knownBehind_26 : decode cX8_knownBehind 26 = .ok (.iaload, 1) := by decide +kernel
theorem dX8_knownBehind_27 : decode cX8_knownBehind 27 = .ok (.ireturn, 1) := by decide +kernel
theorem gX8_knowsBy_X8_isDoor : GoodIn wsX8_knowsBy (wsV RX8 192 RX8 yX8_isDoor wsX8_isDoor) := gwV aw_491 aw_492 aw_493 aw_3 aw_494
theorem gX8_knowsBy_X8_in : GoodIn wsX8_knowsBy (va_wsS RX8 85 yX8_in wsX8_in) := gwS aw_361 aw_362 aw_3 aw_363
theorem gX8_knowsBy_X8_asItIs : GoodIn wsX8_knowsBy (wsV RX8 186 RX8 yX8_asItIs wsX8_asItIs) := gwV aw_454 aw_455 aw_456 aw_3 aw_457
theorem gX8_knowsBy_X8_knownBehind : GoodIn wsX8_knowsBy (wsV RX8 207 RX8 yX8_knownBehind wsX8_knownBehind) := gwV aw_594 aw_595 aw_596 aw_3 aw_597
theorem dX8_knowsBy_0 : decode cX8_knowsBy 0 = .ok (.aload_n 0, 1) := by decide +kernel
theorem dX8_knowsBy_1 : decode cX8_knowsBy 1 = .ok (.iload_n 1, 1) := by decide +kernel
theorem dX8_knowsBy_2 : decode cX8_knowsBy 2 = .ok (.invokevirtual 192, 3) := by decide +kernel
theorem dX8_knowsBy_5 : decode cX8_knowsBy 5 = .ok (.ifCond .eq 13, 3) := by decide +kernel
theorem dX8_knowsBy_8 : decode cX8_knowsBy 8 = .ok (.iload_n 2, 1) := by decide +kernel
theorem dX8_knowsBy_9 : decode cX8_knowsBy 9 = .ok (.iconst 0, 1) := by decide +kernel
theorem dX8_knowsBy_10 : decode cX8_knowsBy 10 = .ok (.bipush 20, 2) := by decide +kernel
theorem dX8_knowsBy_12 : decode cX8_knowsBy 12 = .ok (.invokestatic 85, 3) := by decide +kernel
theorem dX8_knowsBy_15 : decode cX8_knowsBy 15 = .ok (.ifCond .ne 5, 3) := by decide +kernel
theorem dX8_knowsBy_18 : decode cX8_knowsBy 18 = .ok (.iconst (-1), 1) := by decide +kernel
theorem dX8_knowsBy_19 : decode cX8_knowsBy 19 = .ok (.ireturn, 1) := by decide +kernel
theorem dX8_knowsBy_20 : decode cX8_knowsBy 20 = .ok (.aload_n 0, 1) := by decide +kernel
theorem dX8_knowsBy_21 : decode cX8_knowsBy 21 = .ok (.invokevirtual 186, 3) := by decide +kernel
theorem dX8_knowsBy_24 : decode cX8_knowsBy 24 = .ok (.aload_n 0, 1) := by decide +kernel
theorem dX8_knowsBy_25 : decode cX8_knowsBy 25 = .ok (.iload_n 1, 1) := by decide +kernel
theorem dX8_knowsBy_26 : decode cX8_knowsBy 26 = .ok (.iload_n 2, 1) := by decide +kernel
theorem dX8_knowsBy_27 : decode cX8_knowsBy 27 = .ok (.invokevirtual 207, 3) := by decide +kernel
theorem dX8_knowsBy_30 : decode cX8_knowsBy 30 = .ok (.ireturn, 1) := by decide +kernel
theorem gX8_when_X8_isPerson : GoodIn wsX8_when (wsV RX8 183 RX8 yX8_isPerson wsX8_isPerson) := gwV aw_450 aw_451 aw_452 aw_3 aw_453
theorem gX8_when_X8_isDoor : GoodIn wsX8_when (wsV RX8 192 RX8 yX8_isDoor wsX8_isDoor) := gwV aw_491 aw_492 aw_493 aw_3 aw_494
theorem gX8_when_X8_asItIs : GoodIn wsX8_when (wsV RX8 186 RX8 yX8_asItIs wsX8_asItIs) := gwV aw_454 aw_455 aw_456 aw_3 aw_457
theorem gX8_when_X8_has : GoodIn wsX8_when (va_wsS RX8 161 yX8_has wsX8_has) := gwS aw_346 aw_347 aw_3 aw_348
theorem gX8_when_X8_dayAt : GoodIn wsX8_when (wsV RX8 176 RX8 yX8_dayAt wsX8_dayAt) := gwV aw_544 aw_545 aw_546 aw_3 aw_547
theorem dX8_when_0 : decode cX8_when 0 = .ok (.aload_n 0, 1) := by decide +kernel
theorem dX8_when_1 : decode cX8_when 1 = .ok (.iload_n 1, 1) := by decide +kernel
theorem dX8_when_2 : decode cX8_when 2 = .ok (.invokevirtual 183, 3) := by decide +kernel
theorem dX8_when_5 : decode cX8_when 5 = .ok (.ifCond .eq 11, 3) := by decide +kernel
theorem dX8_when_8 : decode cX8_when 8 = .ok (.aload_n 0, 1) := by decide +kernel
theorem dX8_when_9 : decode cX8_when 9 = .ok (.iload_n 2, 1) := by decide +kernel
theorem dX8_when_10 : decode cX8_when 10 = .ok (.invokevirtual 192, 3) := by decide +kernel
theorem dX8_when_13 : decode cX8_when 13 = .ok (.ifCond .ne 5, 3) := by decide +kernel
theorem dX8_when_16 : decode cX8_when 16 = .ok (.iconst (-1), 1) := by decide +kernel
theorem dX8_when_17 : decode cX8_when 17 = .ok (.ireturn, 1) := by decide +kernel
theorem dX8_when_18 : decode cX8_when 18 = .ok (.aload_n 0, 1) := by decide +kernel
theorem dX8_when_19 : decode cX8_when 19 = .ok (.invokevirtual 186, 3) := by decide +kernel
theorem dX8_when_22 : decode cX8_when 22 = .ok (.iconst 0, 1) := by decide +kernel
theorem dX8_when_23 : decode cX8_when 23 = .ok (.istore_n 3, 1) := by decide +kernel
theorem dX8_when_24 : decode cX8_when 24 = .ok (.iload_n 3, 1) := by decide +kernel
theorem dX8_when_25 : decode cX8_when 25 = .ok (.bipush 20, 2) := by decide +kernel
theorem dX8_when_27 : decode cX8_when 27 = .ok (.if_icmp .gt 32, 3) := by decide +kernel
theorem dX8_when_30 : decode cX8_when 30 = .ok (.aload_n 0, 1) := by decide +kernel
theorem dX8_when_31 : decode cX8_when 31 = .ok (.getfield 49, 3) := by decide +kernel
theorem dX8_when_34 : decode cX8_when 34 = .ok (.bipush 70, 2) := by decide +kernel
theorem dX8_when_36 : decode cX8_when 36 = .ok (.iload_n 2, 1) := by decide +kernel
theorem dX8_when_37 : decode cX8_when 37 = .ok (.iadd, 1) := by decide +kernel
theorem dX8_when_38 : decode cX8_when 38 = .ok (.iaload, 1) := by decide +kernel
theorem dX8_when_39 : decode cX8_when 39 = .ok (.iload_n 1, 1) := by decide +kernel
theorem dX8_when_40 : decode cX8_when 40 = .ok (.invokestatic 161, 3) := by decide +kernel
theorem dX8_when_43 : decode cX8_when 43 = .ok (.ifCond .eq 5, 3) := by decide +kernel
theorem dX8_when_46 : decode cX8_when 46 = .ok (.iload_n 3, 1) := by decide +kernel
theorem dX8_when_47 : decode cX8_when 47 = .ok (.ireturn, 1) := by decide +kernel
theorem dX8_when_48 : decode cX8_when 48 = .ok (.aload_n 0, 1) := by decide +kernel
theorem dX8_when_49 : decode cX8_when 49 = .ok (.iload_n 2, 1) := by decide +kernel
theorem dX8_when_50 : decode cX8_when 50 = .ok (.invokevirtual 176, 3) := by decide +kernel
theorem dX8_when_53 : decode cX8_when 53 = .ok (.iinc 3 1, 3) := by decide +kernel
theorem dX8_when_56 : decode cX8_when 56 = .ok (.goto (-32), 3) := by decide +kernel
theorem dX8_when_59 : decode cX8_when 59 = .ok (.bipush (-4), 2) := by decide +kernel
theorem dX8_when_61 : decode cX8_when 61 = .ok (.ireturn, 1) := by decide +kernel
theorem gX8_letsIn_X8_asItIs : GoodIn wsX8_letsIn (wsV RX8 186 RX8 yX8_asItIs wsX8_asItIs) := gwV aw_454 aw_455 aw_456 aw_3 aw_457
theorem gX8_letsIn_X8_calls : GoodIn wsX8_letsIn (wsV RX8 149 RX8 yX8_calls wsX8_calls) := gwV aw_334 aw_335 aw_336 aw_3 aw_337
theorem gX8_letsIn_X8_knownBehind : GoodIn wsX8_letsIn (wsV RX8 207 RX8 yX8_knownBehind wsX8_knownBehind) := gwV aw_594 aw_595 aw_596 aw_3 aw_597
theorem gX8_letsIn_X8_has : GoodIn wsX8_letsIn (va_wsS RX8 161 yX8_has wsX8_has) := gwS aw_346 aw_347 aw_3 aw_348
theorem dX8_letsIn_0 : decode cX8_letsIn 0 = .ok (.iconst 0, 1) := by decide +kernel
theorem dX8_letsIn_1 : decode cX8_letsIn 1 = .ok (.istore 4, 2) := by decide +kernel
theorem dX8_letsIn_3 : decode cX8_letsIn 3 = .ok (.iconst 0, 1) := by decide +kernel
theorem dX8_letsIn_4 : decode cX8_letsIn 4 = .ok (.istore 5, 2) := by decide +kernel
theorem dX8_letsIn_6 : decode cX8_letsIn 6 = .ok (.iload 5, 2) := by decide +kernel
theorem dX8_letsIn_8 : decode cX8_letsIn 8 = .ok (.aload_n 0, 1) := by decide +kernel
theorem dX8_letsIn_9 : decode cX8_letsIn 9 = .ok (.getfield 82, 3) := by decide +kernel
theorem dX8_letsIn_12 : decode cX8_letsIn 12 = .ok (.if_icmp .ge 46, 3) := by decide +kernel
theorem dX8_letsIn_15 : decode cX8_letsIn 15 = .ok (.aload_n 0, 1) := by decide +kernel
theorem dX8_letsIn_16 : decode cX8_letsIn 16 = .ok (.invokevirtual 186, 3) := by decide +kernel
theorem dX8_letsIn_19 : decode cX8_letsIn 19 = .ok (.aload_n 0, 1) := by decide +kernel
theorem dX8_letsIn_20 : decode cX8_letsIn 20 = .ok (.iload 5, 2) := by decide +kernel
theorem dX8_letsIn_22 : decode cX8_letsIn 22 = .ok (.iload_n 2, 1) := by decide +kernel
theorem dX8_letsIn_23 : decode cX8_letsIn 23 = .ok (.invokevirtual 149, 3) := by decide +kernel
theorem dX8_letsIn_26 : decode cX8_letsIn 26 = .ok (.iload 4, 2) := by decide +kernel
theorem dX8_letsIn_28 : decode cX8_letsIn 28 = .ok (.aload_n 0, 1) := by decide +kernel
theorem dX8_letsIn_29 : decode cX8_letsIn 29 = .ok (.iload_n 2, 1) := by decide +kernel
theorem dX8_letsIn_30 : decode cX8_letsIn 30 = .ok (.iload_n 3, 1) := by decide +kernel
theorem dX8_letsIn_31 : decode cX8_letsIn 31 = .ok (.invokevirtual 207, 3) := by decide +kernel
theorem dX8_letsIn_34 : decode cX8_letsIn 34 = .ok (.iload_n 1, 1) := by decide +kernel
theorem dX8_letsIn_35 : decode cX8_letsIn 35 = .ok (.invokestatic 161, 3) := by decide +kernel
theorem dX8_letsIn_38 : decode cX8_letsIn 38 = .ok (.ifCond .eq 10, 3) := by decide +kernel
theorem dX8_letsIn_41 : decode cX8_letsIn 41 = .ok (.iconst 1, 1) := by decide +kernel
theorem dX8_letsIn_42 : decode cX8_letsIn 42 = .ok (.iload 5, 2) := by decide +kernel
theorem dX8_letsIn_44 : decode cX8_letsIn 44 = .ok (.ishl, 1) := by decide +kernel
theorem dX8_letsIn_45 : decode cX8_letsIn 45 = .ok (.goto 4, 3) := by decide +kernel
theorem dX8_letsIn_48 : decode cX8_letsIn 48 = .ok (.iconst 0, 1) := by decide +kernel
theorem dX8_letsIn_49 : decode cX8_letsIn 49 = .ok (.ior, 1) := by decide +kernel
theorem dX8_letsIn_50 : decode cX8_letsIn 50 = .ok (.istore 4, 2) := by decide +kernel
theorem dX8_letsIn_52 : decode cX8_letsIn 52 = .ok (.iinc 5 1, 3) := by decide +kernel
theorem dX8_letsIn_55 : decode cX8_letsIn 55 = .ok (.goto (-49), 3) := by decide +kernel
theorem dX8_letsIn_58 : decode cX8_letsIn 58 = .ok (.iload 4, 2) := by decide +kernel
theorem dX8_letsIn_60 : decode cX8_letsIn 60 = .ok (.ireturn, 1) := by decide +kernel
theorem gX8_lets_X8_isDoor : GoodIn wsX8_lets (wsV RX8 192 RX8 yX8_isDoor wsX8_isDoor) := gwV aw_491 aw_492 aw_493 aw_3 aw_494
theorem gX8_lets_X8_in : GoodIn wsX8_lets (va_wsS RX8 85 yX8_in wsX8_in) := gwS aw_361 aw_362 aw_3 aw_363
theorem gX8_lets_X8_letsIn : GoodIn wsX8_lets (wsV RX8 210 RX8 yX8_letsIn wsX8_letsIn) := gwV aw_614 aw_615 aw_616 aw_3 aw_617
theorem dX8_lets_0 : decode cX8_lets 0 = .ok (.aload_n 0, 1) := by decide +kernel
theorem dX8_lets_1 : decode cX8_lets 1 = .ok (.iload_n 1, 1) := by decide +kernel
theorem dX8_lets_2 : decode cX8_lets 2 = .ok (.invokevirtual 192, 3) := by decide +kernel
theorem dX8_lets_5 : decode cX8_lets 5 = .ok (.ifCond .eq 27, 3) := by decide +kernel
theorem dX8_lets_8 : decode cX8_lets 8 = .ok (.iload_n 2, 1) := by decide +kernel
theorem dX8_lets_9 : decode cX8_lets 9 = .ok (.iconst 0, 1) := by decide +kernel
theorem dX8_lets_10 : decode cX8_lets 10 = .ok (.iconst 5, 1) := by decide +kernel
theorem dX8_lets_11 : decode cX8_lets 11 = .ok (.invokestatic 85, 3) := by decide +kernel
theorem dX8_lets_14 : decode cX8_lets 14 = .ok (.ifCond .eq 18, 3) := by decide +kernel
theorem dX8_lets_17 : decode cX8_lets 17 = .ok (.aload_n 0, 1) := by decide +kernel
theorem dX8_lets_18 : decode cX8_lets 18 = .ok (.aload_n 0, 1) := by decide +kernel
theorem dX8_lets_19 : decode cX8_lets 19 = .ok (.getfield 13, 3) := by decide +kernel
theorem dX8_lets_22 : decode cX8_lets 22 = .ok (.iload_n 1, 1) := by decide +kernel
theorem dX8_lets_23 : decode cX8_lets 23 = .ok (.iaload, 1) := by decide +kernel
theorem dX8_lets_24 : decode cX8_lets 24 = .ok (.iload_n 1, 1) := by decide +kernel
theorem dX8_lets_25 : decode cX8_lets 25 = .ok (.iload_n 2, 1) := by decide +kernel
theorem dX8_lets_26 : decode cX8_lets 26 = .ok (.invokevirtual 210, 3) := by decide +kernel
theorem dX8_lets_29 : decode cX8_lets 29 = .ok (.goto 4, 3) := by decide +kernel
theorem dX8_lets_32 : decode cX8_lets 32 = .ok (.iconst (-1), 1) := by decide +kernel
theorem dX8_lets_33 : decode cX8_lets 33 = .ok (.ireturn, 1) := by decide +kernel
theorem gX8_keeps_X8_isPerson : GoodIn wsX8_keeps (wsV RX8 183 RX8 yX8_isPerson wsX8_isPerson) := gwV aw_450 aw_451 aw_452 aw_3 aw_453
theorem gX8_keeps_X8_isDoor : GoodIn wsX8_keeps (wsV RX8 192 RX8 yX8_isDoor wsX8_isDoor) := gwV aw_491 aw_492 aw_493 aw_3 aw_494
theorem gX8_keeps_X8_in : GoodIn wsX8_keeps (va_wsS RX8 85 yX8_in wsX8_in) := gwS aw_361 aw_362 aw_3 aw_363
theorem gX8_keeps_X8_letsIn : GoodIn wsX8_keeps (wsV RX8 210 RX8 yX8_letsIn wsX8_letsIn) := gwV aw_614 aw_615 aw_616 aw_3 aw_617
theorem dX8_keeps_0 : decode cX8_keeps 0 = .ok (.aload_n 0, 1) := by decide +kernel
theorem dX8_keeps_1 : decode cX8_keeps 1 = .ok (.iload_n 1, 1) := by decide +kernel
theorem dX8_keeps_2 : decode cX8_keeps 2 = .ok (.invokevirtual 183, 3) := by decide +kernel
theorem dX8_keeps_5 : decode cX8_keeps 5 = .ok (.ifCond .eq 20, 3) := by decide +kernel
theorem dX8_keeps_8 : decode cX8_keeps 8 = .ok (.aload_n 0, 1) := by decide +kernel
theorem dX8_keeps_9 : decode cX8_keeps 9 = .ok (.iload_n 2, 1) := by decide +kernel
theorem dX8_keeps_10 : decode cX8_keeps 10 = .ok (.invokevirtual 192, 3) := by decide +kernel
theorem dX8_keeps_13 : decode cX8_keeps 13 = .ok (.ifCond .eq 12, 3) := by decide +kernel
theorem dX8_keeps_16 : decode cX8_keeps 16 = .ok (.iload_n 3, 1) := by decide +kernel
theorem dX8_keeps_17 : decode cX8_keeps 17 = .ok (.iconst 0, 1) := by decide +kernel
theorem dX8_keeps_18 : decode cX8_keeps 18 = .ok (.iconst 5, 1) := by decide +kernel
theorem dX8_keeps_19 : decode cX8_keeps 19 = .ok (.invokestatic 85, 3) := by decide +kernel
theorem dX8_keeps_22 : decode cX8_keeps 22 = .ok (.ifCond .ne 5, 3) := by decide +kernel
theorem dX8_keeps_25 : decode cX8_keeps 25 = .ok (.iconst (-1), 1) := by decide +kernel
theorem dX8_keeps_26 : decode cX8_keeps 26 = .ok (.ireturn, 1) := by decide +kernel
theorem dX8_keeps_27 : decode cX8_keeps 27 = .ok (.iconst 1, 1) := by decide +kernel
theorem dX8_keeps_28 : decode cX8_keeps 28 = .ok (.aload_n 0, 1) := by decide +kernel
theorem dX8_keeps_29 : decode cX8_keeps 29 = .ok (.getfield 82, 3) := by decide +kernel
theorem dX8_keeps_32 : decode cX8_keeps 32 = .ok (.ishl, 1) := by decide +kernel
theorem dX8_keeps_33 : decode cX8_keeps 33 = .ok (.iconst 1, 1) := by decide +kernel
theorem dX8_keeps_34 : decode cX8_keeps 34 = .ok (.isub, 1) := by decide +kernel
theorem dX8_keeps_35 : decode cX8_keeps 35 = .ok (.aload_n 0, 1) := by decide +kernel
theorem dX8_keeps_36 : decode cX8_keeps 36 = .ok (.iload_n 1, 1) := by decide +kernel
theorem dX8_keeps_37 : decode cX8_keeps 37 = .ok (.iload_n 2, 1) := by decide +kernel
theorem dX8_keeps_38 : decode cX8_keeps 38 = .ok (.iload_n 3, 1) := by decide +kernel
theorem dX8_keeps_39 : decode cX8_keeps 39 = .ok (.invokevirtual 210, 3) := by decide +kernel
theorem dX8_keeps_42 : decode cX8_keeps 42 = .ok (.iconst (-1), 1) := by decide +kernel
theorem dX8_keeps_43 : decode cX8_keeps 43 = .ok (.ixor, 1) := by decide +kernel
theorem dX8_keeps_44 : decode cX8_keeps 44 = .ok (.iand, 1) := by decide +kernel
theorem dX8_keeps_45 : decode cX8_keeps 45 = .ok (.ireturn, 1) := by decide +kernel
theorem gX8_allIn_X8_in : GoodIn wsX8_allIn (va_wsS RX8 85 yX8_in wsX8_in) := gwS aw_361 aw_362 aw_3 aw_363
theorem gX8_allIn_X8_asItIs : GoodIn wsX8_allIn (wsV RX8 186 RX8 yX8_asItIs wsX8_asItIs) := gwV aw_454 aw_455 aw_456 aw_3 aw_457
theorem gX8_allIn_X8_shutOutNow : GoodIn wsX8_allIn (wsV RX8 204 RX8 yX8_shutOutNow wsX8_shutOutNow) := gwV aw_575 aw_576 aw_577 aw_3 aw_578
theorem gX8_allIn_X8_bits : GoodIn wsX8_allIn (va_wsS RX8 189 yX8_bits wsX8_bits) := gwS aw_458 aw_459 aw_3 aw_460
theorem gX8_allIn_X8_isShutOut : GoodIn wsX8_allIn (wsV RX8 180 RX8 yX8_isShutOut wsX8_isShutOut) := gwV aw_579 aw_580 aw_581 aw_3 aw_582
theorem gX8_allIn_X8_letsIn : GoodIn wsX8_allIn (wsV RX8 210 RX8 yX8_letsIn wsX8_letsIn) := gwV aw_614 aw_615 aw_616 aw_3 aw_617
theorem gX8_allIn_X8_has : GoodIn wsX8_allIn (va_wsS RX8 161 yX8_has wsX8_has) := gwS aw_346 aw_347 aw_3 aw_348
theorem dX8_allIn_0 : decode cX8_allIn 0 = .ok (.iload_n 1, 1) := by decide +kernel
theorem dX8_allIn_1 : decode cX8_allIn 1 = .ok (.iconst (-1), 1) := by decide +kernel
theorem dX8_allIn_2 : decode cX8_allIn 2 = .ok (.aload_n 0, 1) := by decide +kernel
theorem dX8_allIn_3 : decode cX8_allIn 3 = .ok (.getfield 89, 3) := by decide +kernel
theorem dX8_allIn_6 : decode cX8_allIn 6 = .ok (.iconst 1, 1) := by decide +kernel
theorem dX8_allIn_7 : decode cX8_allIn 7 = .ok (.isub, 1) := by decide +kernel
theorem dX8_allIn_8 : decode cX8_allIn 8 = .ok (.invokestatic 85, 3) := by decide +kernel
theorem dX8_allIn_11 : decode cX8_allIn 11 = .ok (.ifCond .ne 5, 3) := by decide +kernel
theorem dX8_allIn_14 : decode cX8_allIn 14 = .ok (.iconst (-1), 1) := by decide +kernel
theorem dX8_allIn_15 : decode cX8_allIn 15 = .ok (.ireturn, 1) := by decide +kernel
theorem dX8_allIn_16 : decode cX8_allIn 16 = .ok (.aload_n 0, 1) := by decide +kernel
theorem dX8_allIn_17 : decode cX8_allIn 17 = .ok (.invokevirtual 186, 3) := by decide +kernel
theorem dX8_allIn_20 : decode cX8_allIn 20 = .ok (.iload_n 1, 1) := by decide +kernel
theorem dX8_allIn_21 : decode cX8_allIn 21 = .ok (.ifCond .ge 11, 3) := by decide +kernel
theorem dX8_allIn_24 : decode cX8_allIn 24 = .ok (.aload_n 0, 1) := by decide +kernel
theorem dX8_allIn_25 : decode cX8_allIn 25 = .ok (.invokevirtual 204, 3) := by decide +kernel
theorem dX8_allIn_28 : decode cX8_allIn 28 = .ok (.invokestatic 189, 3) := by decide +kernel
theorem dX8_allIn_31 : decode cX8_allIn 31 = .ok (.ireturn, 1) := by decide +kernel
theorem dX8_allIn_32 : decode cX8_allIn 32 = .ok (.aload_n 0, 1) := by decide +kernel
theorem dX8_allIn_33 : decode cX8_allIn 33 = .ok (.iload_n 1, 1) := by decide +kernel
theorem dX8_allIn_34 : decode cX8_allIn 34 = .ok (.invokevirtual 180, 3) := by decide +kernel
theorem dX8_allIn_37 : decode cX8_allIn 37 = .ok (.ifCond .ne 6, 3) := by decide +kernel
theorem dX8_allIn_40 : decode cX8_allIn 40 = .ok (.bipush (-4), 2) := by decide +kernel
theorem dX8_allIn_42 : decode cX8_allIn 42 = .ok (.ireturn, 1) := by decide +kernel
theorem dX8_allIn_43 : decode cX8_allIn 43 = .ok (.aload_n 0, 1) := by decide +kernel
theorem dX8_allIn_44 : decode cX8_allIn 44 = .ok (.aload_n 0, 1) := by decide +kernel
theorem dX8_allIn_45 : decode cX8_allIn 45 = .ok (.getfield 13, 3) := by decide +kernel
theorem dX8_allIn_48 : decode cX8_allIn 48 = .ok (.iload_n 1, 1) := by decide +kernel
theorem dX8_allIn_49 : decode cX8_allIn 49 = .ok (.iaload, 1) := by decide +kernel
theorem dX8_allIn_50 : decode cX8_allIn 50 = .ok (.iload_n 1, 1) := by decide +kernel
theorem dX8_allIn_51 : decode cX8_allIn 51 = .ok (.iconst 0, 1) := by decide +kernel
theorem dX8_allIn_52 : decode cX8_allIn 52 = .ok (.invokevirtual 210, 3) := by decide +kernel
theorem dX8_allIn_55 : decode cX8_allIn 55 = .ok (.istore_n 2, 1) := by decide +kernel
theorem dX8_allIn_56 : decode cX8_allIn 56 = .ok (.iconst 0, 1) := by decide +kernel
theorem dX8_allIn_57 : decode cX8_allIn 57 = .ok (.istore_n 3, 1) := by decide +kernel
theorem dX8_allIn_58 : decode cX8_allIn 58 = .ok (.iload_n 2, 1) := by decide +kernel
theorem dX8_allIn_59 : decode cX8_allIn 59 = .ok (.iload_n 3, 1) := by decide +kernel
theorem dX8_allIn_60 : decode cX8_allIn 60 = .ok (.invokestatic 161, 3) := by decide +kernel
theorem dX8_allIn_63 : decode cX8_allIn 63 = .ok (.ifCond .ne 9, 3) := by decide +kernel
theorem dX8_allIn_66 : decode cX8_allIn 66 = .ok (.iinc 3 1, 3) := by decide +kernel
theorem dX8_allIn_69 : decode cX8_allIn 69 = .ok (.goto (-11), 3) := by decide +kernel
theorem dX8_allIn_72 : decode cX8_allIn 72 = .ok (.iload_n 3, 1) := by decide +kernel
theorem dX8_allIn_73 : decode cX8_allIn 73 = .ok (.ireturn, 1) := by decide +kernel
theorem gX8_friend_X8_isPerson : GoodIn wsX8_friend (wsV RX8 183 RX8 yX8_isPerson wsX8_isPerson) := gwV aw_450 aw_451 aw_452 aw_3 aw_453
theorem gX8_friend_X8_in : GoodIn wsX8_friend (va_wsS RX8 85 yX8_in wsX8_in) := gwS aw_361 aw_362 aw_3 aw_363
theorem dX8_friend_0 : decode cX8_friend 0 = .ok (.aload_n 0, 1) := by decide +kernel
theorem dX8_friend_1 : decode cX8_friend 1 = .ok (.iload_n 1, 1) := by decide +kernel
theorem dX8_friend_2 : decode cX8_friend 2 = .ok (.invokevirtual 183, 3) := by decide +kernel
theorem dX8_friend_5 : decode cX8_friend 5 = .ok (.ifCond .eq 12, 3) := by decide +kernel
theorem dX8_friend_8 : decode cX8_friend 8 = .ok (.iload_n 2, 1) := by decide +kernel
theorem dX8_friend_9 : decode cX8_friend 9 = .ok (.iconst 0, 1) := by decide +kernel
theorem dX8_friend_10 : decode cX8_friend 10 = .ok (.iconst 1, 1) := by decide +kernel
theorem dX8_friend_11 : decode cX8_friend 11 = .ok (.invokestatic 85, 3) := by decide +kernel
theorem dX8_friend_14 : decode cX8_friend 14 = .ok (.ifCond .ne 5, 3) := by decide +kernel
theorem dX8_friend_17 : decode cX8_friend 17 = .ok (.iconst (-1), 1) := by decide +kernel
theorem dX8_friend_18 : decode cX8_friend 18 = .ok (.ireturn, 1) := by decide +kernel
theorem dX8_friend_19 : decode cX8_friend 19 = .ok (.bipush (-4), 2) := by decide +kernel
theorem dX8_friend_21 : decode cX8_friend 21 = .ok (.istore_n 3, 1) := by decide +kernel
theorem dX8_friend_22 : decode cX8_friend 22 = .ok (.bipush (-4), 2) := by decide +kernel
theorem dX8_friend_24 : decode cX8_friend 24 = .ok (.istore 4, 2) := by decide +kernel
theorem dX8_friend_26 : decode cX8_friend 26 = .ok (.iconst 0, 1) := by decide +kernel
theorem dX8_friend_27 : decode cX8_friend 27 = .ok (.istore 5, 2) := by decide +kernel
theorem dX8_friend_29 : decode cX8_friend 29 = .ok (.iload 5, 2) := by decide +kernel
theorem dX8_friend_31 : decode cX8_friend 31 = .ok (.aload_n 0, 1) := by decide +kernel
theorem dX8_friend_32 : decode cX8_friend 32 = .ok (.getfield 82, 3) := by decide +kernel
theorem dX8_friend_35 : decode cX8_friend 35 = .ok (.if_icmp .ge 71, 3) := by decide +kernel
theorem dX8_friend_38 : decode cX8_friend 38 = .ok (.aload_n 0, 1) := by decide +kernel
theorem dX8_friend_39 : decode cX8_friend 39 = .ok (.getfield 19, 3) := by decide +kernel
theorem dX8_friend_42 : decode cX8_friend 42 = .ok (.iconst 1, 1) := by decide +kernel
theorem dX8_friend_43 : decode cX8_friend 43 = .ok (.bipush 8, 2) := by decide +kernel
theorem dX8_friend_45 : decode cX8_friend 45 = .ok (.iload 5, 2) := by decide +kernel
theorem dX8_friend_47 : decode cX8_friend 47 = .ok (.imul, 1) := by decide +kernel
theorem dX8_friend_48 : decode cX8_friend 48 = .ok (.iadd, 1) := by decide +kernel
theorem dX8_friend_49 : decode cX8_friend 49 = .ok (.iload_n 1, 1) := by decide +kernel
theorem dX8_friend_50 : decode cX8_friend 50 = .ok (.iadd, 1) := by decide +kernel
theorem dX8_friend_51 : decode cX8_friend 51 = .ok (.iaload, 1) := by decide +kernel
theorem dX8_friend_52 : decode cX8_friend 52 = .ok (.istore 6, 2) := by decide +kernel
theorem dX8_friend_54 : decode cX8_friend 54 = .ok (.iload 5, 2) := by decide +kernel
theorem dX8_friend_56 : decode cX8_friend 56 = .ok (.iload_n 1, 1) := by decide +kernel
theorem dX8_friend_57 : decode cX8_friend 57 = .ok (.if_icmp .eq 14, 3) := by decide +kernel
theorem dX8_friend_60 : decode cX8_friend 60 = .ok (.iload 6, 2) := by decide +kernel
theorem dX8_friend_62 : decode cX8_friend 62 = .ok (.iload 4, 2) := by decide +kernel
theorem dX8_friend_64 : decode cX8_friend 64 = .ok (.if_icmp .le 7, 3) := by decide +kernel
theorem dX8_friend_67 : decode cX8_friend 67 = .ok (.iconst 1, 1) := by decide +kernel
theorem dX8_friend_68 : decode cX8_friend 68 = .ok (.goto 4, 3) := by decide +kernel
theorem dX8_friend_71 : decode cX8_friend 71 = .ok (.iconst 0, 1) := by decide +kernel
theorem dX8_friend_72 : decode cX8_friend 72 = .ok (.istore 7, 2) := by decide +kernel
theorem dX8_friend_74 : decode cX8_friend 74 = .ok (.iload 7, 2) := by decide +kernel
theorem dX8_friend_76 : decode cX8_friend 76 = .ok (.ifCond .eq 8, 3) := by decide +kernel
theorem dX8_friend_79 : decode cX8_friend 79 = .ok (.iload 5, 2) := by decide +kernel
theorem dX8_friend_81 : decode cX8_friend 81 = .ok (.goto 4, 3) := by decide +kernel
theorem dX8_friend_84 : decode cX8_friend 84 = .ok (.iload_n 3, 1) := by decide +kernel
theorem dX8_friend_85 : decode cX8_friend 85 = .ok (.istore_n 3, 1) := by decide +kernel
theorem dX8_friend_86 : decode cX8_friend 86 = .ok (.iload 7, 2) := by decide +kernel
theorem dX8_friend_88 : decode cX8_friend 88 = .ok (.ifCond .eq 8, 3) := by decide +kernel
theorem dX8_friend_91 : decode cX8_friend 91 = .ok (.iload 6, 2) := by decide +kernel
theorem dX8_friend_93 : decode cX8_friend 93 = .ok (.goto 5, 3) := by decide +kernel
theorem dX8_friend_96 : decode cX8_friend 96 = .ok (.iload 4, 2) := by decide +kernel
theorem dX8_friend_98 : decode cX8_friend 98 = .ok (.istore 4, 2) := by decide +kernel
theorem dX8_friend_100 : decode cX8_friend 100 = .ok (.iinc 5 1, 3) := by decide +kernel
theorem dX8_friend_103 : decode cX8_friend 103 = .ok (.goto (-74), 3) := by decide +kernel
theorem dX8_friend_106 : decode cX8_friend 106 = .ok (.iload_n 2, 1) := by decide +kernel
theorem dX8_friend_107 : decode cX8_friend 107 = .ok (.ifCond .ne 7, 3) := by decide +kernel
theorem dX8_friend_110 : decode cX8_friend 110 = .ok (.iload_n 3, 1) := by decide +kernel
theorem dX8_friend_111 : decode cX8_friend 111 = .ok (.goto 5, 3) := by decide +kernel
theorem dX8_friend_114 : decode cX8_friend 114 = .ok (.iload 4, 2) := by decide +kernel
theorem dX8_friend_116 : decode cX8_friend 116 = .ok (.ireturn, 1) := by decide +kernel
theorem gX8_seen_X8_isPerson : GoodIn wsX8_seen (wsV RX8 183 RX8 yX8_isPerson wsX8_isPerson) := gwV aw_450 aw_451 aw_452 aw_3 aw_453
theorem gX8_seen_X8_isDoor : GoodIn wsX8_seen (wsV RX8 192 RX8 yX8_isDoor wsX8_isDoor) := gwV aw_491 aw_492 aw_493 aw_3 aw_494
theorem gX8_seen_X8_in : GoodIn wsX8_seen (va_wsS RX8 85 yX8_in wsX8_in) := gwS aw_361 aw_362 aw_3 aw_363
theorem dX8_seen_0 : decode cX8_seen 0 = .ok (.aload_n 0, 1) := by decide +kernel
theorem dX8_seen_1 : decode cX8_seen 1 = .ok (.iload_n 1, 1) := by decide +kernel
theorem dX8_seen_2 : decode cX8_seen 2 = .ok (.invokevirtual 183, 3) := by decide +kernel
theorem dX8_seen_5 : decode cX8_seen 5 = .ok (.ifCond .eq 20, 3) := by decide +kernel
theorem dX8_seen_8 : decode cX8_seen 8 = .ok (.aload_n 0, 1) := by decide +kernel
theorem dX8_seen_9 : decode cX8_seen 9 = .ok (.iload_n 2, 1) := by decide +kernel
theorem dX8_seen_10 : decode cX8_seen 10 = .ok (.invokevirtual 192, 3) := by decide +kernel
theorem dX8_seen_13 : decode cX8_seen 13 = .ok (.ifCond .eq 12, 3) := by decide +kernel
theorem dX8_seen_16 : decode cX8_seen 16 = .ok (.iload_n 3, 1) := by decide +kernel
theorem dX8_seen_17 : decode cX8_seen 17 = .ok (.iconst 0, 1) := by decide +kernel
theorem dX8_seen_18 : decode cX8_seen 18 = .ok (.iconst 1, 1) := by decide +kernel
theorem dX8_seen_19 : decode cX8_seen 19 = .ok (.invokestatic 85, 3) := by decide +kernel
theorem dX8_seen_22 : decode cX8_seen 22 = .ok (.ifCond .ne 5, 3) := by decide +kernel
theorem dX8_seen_25 : decode cX8_seen 25 = .ok (.iconst (-1), 1) := by decide +kernel
theorem dX8_seen_26 : decode cX8_seen 26 = .ok (.ireturn, 1) := by decide +kernel
theorem dX8_seen_27 : decode cX8_seen 27 = .ok (.aload_n 0, 1) := by decide +kernel
theorem dX8_seen_28 : decode cX8_seen 28 = .ok (.getfield 158, 3) := by decide +kernel
theorem dX8_seen_31 : decode cX8_seen 31 = .ok (.bipush 8, 2) := by decide +kernel
theorem dX8_seen_33 : decode cX8_seen 33 = .ok (.if_icmp .ne 6, 3) := by decide +kernel
theorem dX8_seen_36 : decode cX8_seen 36 = .ok (.bipush (-3), 2) := by decide +kernel
theorem dX8_seen_38 : decode cX8_seen 38 = .ok (.ireturn, 1) := by decide +kernel
theorem dX8_seen_39 : decode cX8_seen 39 = .ok (.aload_n 0, 1) := by decide +kernel
theorem dX8_seen_40 : decode cX8_seen 40 = .ok (.getfield 28, 3) := by decide +kernel
theorem dX8_seen_43 : decode cX8_seen 43 = .ok (.iconst 3, 1) := by decide +kernel
theorem dX8_seen_44 : decode cX8_seen 44 = .ok (.aload_n 0, 1) := by decide +kernel
theorem dX8_seen_45 : decode cX8_seen 45 = .ok (.getfield 158, 3) := by decide +kernel
theorem dX8_seen_48 : decode cX8_seen 48 = .ok (.imul, 1) := by decide +kernel
theorem dX8_seen_49 : decode cX8_seen 49 = .ok (.iload_n 1, 1) := by decide +kernel
theorem dX8_seen_50 : decode cX8_seen 50 = .ok (.iastore, 1) := by decide +kernel
theorem dX8_seen_51 : decode cX8_seen 51 = .ok (.aload_n 0, 1) := by decide +kernel
theorem dX8_seen_52 : decode cX8_seen 52 = .ok (.getfield 28, 3) := by decide +kernel
theorem dX8_seen_55 : decode cX8_seen 55 = .ok (.iconst 3, 1) := by decide +kernel
theorem dX8_seen_56 : decode cX8_seen 56 = .ok (.aload_n 0, 1) := by decide +kernel
theorem dX8_seen_57 : decode cX8_seen 57 = .ok (.getfield 158, 3) := by decide +kernel
theorem dX8_seen_60 : decode cX8_seen 60 = .ok (.imul, 1) := by decide +kernel
theorem dX8_seen_61 : decode cX8_seen 61 = .ok (.iconst 1, 1) := by decide +kernel
theorem dX8_seen_62 : decode cX8_seen 62 = .ok (.iadd, 1) := by decide +kernel
theorem dX8_seen_63 : decode cX8_seen 63 = .ok (.iload_n 2, 1) := by decide +kernel
theorem dX8_seen_64 : decode cX8_seen 64 = .ok (.iastore, 1) := by decide +kernel
theorem dX8_seen_65 : decode cX8_seen 65 = .ok (.aload_n 0, 1) := by decide +kernel
theorem dX8_seen_66 : decode cX8_seen 66 = .ok (.getfield 28, 3) := by decide +kernel
theorem dX8_seen_69 : decode cX8_seen 69 = .ok (.iconst 3, 1) := by decide +kernel
theorem dX8_seen_70 : decode cX8_seen 70 = .ok (.aload_n 0, 1) := by decide +kernel
theorem dX8_seen_71 : decode cX8_seen 71 = .ok (.getfield 158, 3) := by decide +kernel
theorem dX8_seen_74 : decode cX8_seen 74 = .ok (.imul, 1) := by decide +kernel
theorem dX8_seen_75 : decode cX8_seen 75 = .ok (.iconst 2, 1) := by decide +kernel
theorem dX8_seen_76 : decode cX8_seen 76 = .ok (.iadd, 1) := by decide +kernel
theorem dX8_seen_77 : decode cX8_seen 77 = .ok (.iload_n 3, 1) := by decide +kernel
theorem dX8_seen_78 : decode cX8_seen 78 = .ok (.iastore, 1) := by decide +kernel
theorem dX8_seen_79 : decode cX8_seen 79 = .ok (.aload_n 0, 1) := by decide +kernel
theorem dX8_seen_80 : decode cX8_seen 80 = .ok (.dup, 1) := by decide +kernel
theorem dX8_seen_81 : decode cX8_seen 81 = .ok (.getfield 158, 3) := by decide +kernel
theorem dX8_seen_84 : decode cX8_seen 84 = .ok (.iconst 1, 1) := by decide +kernel
theorem dX8_seen_85 : decode cX8_seen 85 = .ok (.iadd, 1) := by decide +kernel
theorem dX8_seen_86 : decode cX8_seen 86 = .ok (.putfield 158, 3) := by decide +kernel
theorem dX8_seen_89 : decode cX8_seen 89 = .ok (.aload_n 0, 1) := by decide +kernel
theorem dX8_seen_90 : decode cX8_seen 90 = .ok (.getfield 158, 3) := by decide +kernel
theorem dX8_seen_93 : decode cX8_seen 93 = .ok (.ireturn, 1) := by decide +kernel
theorem dX8_forget_0 : decode cX8_forget 0 = .ok (.aload_n 0, 1) := by decide +kernel
theorem dX8_forget_1 : decode cX8_forget 1 = .ok (.getfield 158, 3) := by decide +kernel
theorem dX8_forget_4 : decode cX8_forget 4 = .ok (.istore_n 1, 1) := by decide +kernel
theorem dX8_forget_5 : decode cX8_forget 5 = .ok (.aload_n 0, 1) := by decide +kernel
theorem dX8_forget_6 : decode cX8_forget 6 = .ok (.iconst 0, 1) := by decide +kernel
theorem dX8_forget_7 : decode cX8_forget 7 = .ok (.putfield 158, 3) := by decide +kernel
theorem dX8_forget_10 : decode cX8_forget 10 = .ok (.iload_n 1, 1) := by decide +kernel
theorem dX8_forget_11 : decode cX8_forget 11 = .ok (.ireturn, 1) := by decide +kernel
theorem gX8_called_X8_isDoor : GoodIn wsX8_called (wsV RX8 192 RX8 yX8_isDoor wsX8_isDoor) := gwV aw_491 aw_492 aw_493 aw_3 aw_494
theorem gX8_called_X8_asItIs : GoodIn wsX8_called (wsV RX8 186 RX8 yX8_asItIs wsX8_asItIs) := gwV aw_454 aw_455 aw_456 aw_3 aw_457
theorem gX8_called_X8_tellsTo : GoodIn wsX8_called (wsV RX8 173 RX8 yX8_tellsTo wsX8_tellsTo) := gwV aw_338 aw_339 aw_340 aw_3 aw_341
theorem gX8_called_X8_has : GoodIn wsX8_called (va_wsS RX8 161 yX8_has wsX8_has) := gwS aw_346 aw_347 aw_3 aw_348
theorem dX8_called_0 : decode cX8_called 0 = .ok (.aload_n 0, 1) := by decide +kernel
theorem dX8_called_1 : decode cX8_called 1 = .ok (.iload_n 1, 1) := by decide +kernel
theorem dX8_called_2 : decode cX8_called 2 = .ok (.invokevirtual 192, 3) := by decide +kernel
theorem dX8_called_5 : decode cX8_called 5 = .ok (.ifCond .ne 5, 3) := by decide +kernel
theorem dX8_called_8 : decode cX8_called 8 = .ok (.iconst (-1), 1) := by decide +kernel
theorem dX8_called_9 : decode cX8_called 9 = .ok (.ireturn, 1) := by decide +kernel
theorem dX8_called_10 : decode cX8_called 10 = .ok (.aload_n 0, 1) := by decide +kernel
theorem dX8_called_11 : decode cX8_called 11 = .ok (.invokevirtual 186, 3) := by decide +kernel
theorem dX8_called_14 : decode cX8_called 14 = .ok (.iconst 0, 1) := by decide +kernel
theorem dX8_called_15 : decode cX8_called 15 = .ok (.istore_n 2, 1) := by decide +kernel
theorem dX8_called_16 : decode cX8_called 16 = .ok (.iconst 0, 1) := by decide +kernel
theorem dX8_called_17 : decode cX8_called 17 = .ok (.istore_n 3, 1) := by decide +kernel
theorem dX8_called_18 : decode cX8_called 18 = .ok (.iload_n 3, 1) := by decide +kernel
theorem dX8_called_19 : decode cX8_called 19 = .ok (.aload_n 0, 1) := by decide +kernel
theorem dX8_called_20 : decode cX8_called 20 = .ok (.getfield 82, 3) := by decide +kernel
theorem dX8_called_23 : decode cX8_called 23 = .ok (.if_icmp .ge 116, 3) := by decide +kernel
theorem dX8_called_26 : decode cX8_called 26 = .ok (.aload_n 0, 1) := by decide +kernel
theorem dX8_called_27 : decode cX8_called 27 = .ok (.iload_n 3, 1) := by decide +kernel
theorem dX8_called_28 : decode cX8_called 28 = .ok (.invokevirtual 173, 3) := by decide +kernel
theorem dX8_called_31 : decode cX8_called 31 = .ok (.istore 4, 2) := by decide +kernel
theorem dX8_called_33 : decode cX8_called 33 = .ok (.iconst 1, 1) := by decide +kernel
theorem dX8_called_34 : decode cX8_called 34 = .ok (.istore 5, 2) := by decide +kernel
theorem dX8_called_36 : decode cX8_called 36 = .ok (.iconst 0, 1) := by decide +kernel
theorem dX8_called_37 : decode cX8_called 37 = .ok (.istore 6, 2) := by decide +kernel
theorem dX8_called_39 : decode cX8_called 39 = .ok (.iload 6, 2) := by decide +kernel
theorem dX8_called_41 : decode cX8_called 41 = .ok (.aload_n 0, 1) := by decide +kernel
theorem dX8_called_42 : decode cX8_called 42 = .ok (.getfield 158, 3) := by decide +kernel
theorem dX8_called_45 : decode cX8_called 45 = .ok (.if_icmp .ge 73, 3) := by decide +kernel
theorem dX8_called_48 : decode cX8_called 48 = .ok (.iload 5, 2) := by decide +kernel
theorem dX8_called_50 : decode cX8_called 50 = .ok (.ifCond .eq 59, 3) := by decide +kernel
theorem dX8_called_53 : decode cX8_called 53 = .ok (.aload_n 0, 1) := by decide +kernel
theorem dX8_called_54 : decode cX8_called 54 = .ok (.getfield 28, 3) := by decide +kernel
theorem dX8_called_57 : decode cX8_called 57 = .ok (.iconst 3, 1) := by decide +kernel
theorem dX8_called_58 : decode cX8_called 58 = .ok (.iload 6, 2) := by decide +kernel
theorem dX8_called_60 : decode cX8_called 60 = .ok (.imul, 1) := by decide +kernel
theorem dX8_called_61 : decode cX8_called 61 = .ok (.iconst 1, 1) := by decide +kernel
theorem dX8_called_62 : decode cX8_called 62 = .ok (.iadd, 1) := by decide +kernel
theorem dX8_called_63 : decode cX8_called 63 = .ok (.iaload, 1) := by decide +kernel
theorem dX8_called_64 : decode cX8_called 64 = .ok (.iload_n 1, 1) := by decide +kernel
theorem dX8_called_65 : decode cX8_called 65 = .ok (.if_icmp .ne 40, 3) := by decide +kernel
theorem dX8_called_68 : decode cX8_called 68 = .ok (.iload 4, 2) := by decide +kernel
theorem dX8_called_70 : decode cX8_called 70 = .ok (.aload_n 0, 1) := by decide +kernel
theorem dX8_called_71 : decode cX8_called 71 = .ok (.getfield 28, 3) := by decide +kernel
theorem dX8_called_74 : decode cX8_called 74 = .ok (.iconst 3, 1) := by decide +kernel
theorem dX8_called_75 : decode cX8_called 75 = .ok (.iload 6, 2) := by decide +kernel
theorem dX8_called_77 : decode cX8_called 77 = .ok (.imul, 1) := by decide +kernel
theorem dX8_called_78 : decode cX8_called 78 = .ok (.iaload, 1) := by decide +kernel
theorem dX8_called_79 : decode cX8_called 79 = .ok (.invokestatic 161, 3) := by decide +kernel
theorem dX8_called_82 : decode cX8_called 82 = .ok (.aload_n 0, 1) := by decide +kernel
theorem dX8_called_83 : decode cX8_called 83 = .ok (.getfield 28, 3) := by decide +kernel
theorem dX8_called_86 : decode cX8_called 86 = .ok (.iconst 3, 1) := by decide +kernel
theorem dX8_called_87 : decode cX8_called 87 = .ok (.iload 6, 2) := by decide +kernel
theorem dX8_called_89 : decode cX8_called 89 = .ok (.imul, 1) := by decide +kernel
theorem dX8_called_90 : decode cX8_called 90 = .ok (.iconst 2, 1) := by decide +kernel
theorem dX8_called_91 : decode cX8_called 91 = .ok (.iadd, 1) := by decide +kernel
theorem dX8_called_92 : decode cX8_called 92 = .ok (.iaload, 1) := by decide +kernel
theorem dX8_called_93 : decode cX8_called 93 = .ok (.iconst 1, 1) := by decide +kernel
theorem dX8_called_94 : decode cX8_called 94 = .ok (.if_icmp .ne 7, 3) := by decide +kernel
theorem dX8_called_97 : decode cX8_called 97 = .ok (.iconst 1, 1) := by decide +kernel
theorem dX8_called_98 : decode cX8_called 98 = .ok (.goto 4, 3) := by decide +kernel
theorem dX8_called_101 : decode cX8_called 101 = .ok (.iconst 0, 1) := by decide +kernel
theorem dX8_called_102 : decode cX8_called 102 = .ok (.if_icmp .ne 7, 3) := by decide +kernel
theorem dX8_called_105 : decode cX8_called 105 = .ok (.iconst 1, 1) := by decide +kernel
theorem dX8_called_106 : decode cX8_called 106 = .ok (.goto 4, 3) := by decide +kernel
theorem dX8_called_109 : decode cX8_called 109 = .ok (.iconst 0, 1) := by decide +kernel
theorem dX8_called_110 : decode cX8_called 110 = .ok (.istore 5, 2) := by decide +kernel
theorem dX8_called_112 : decode cX8_called 112 = .ok (.iinc 6 1, 3) := by decide +kernel
theorem dX8_called_115 : decode cX8_called 115 = .ok (.goto (-76), 3) := by decide +kernel
theorem dX8_called_118 : decode cX8_called 118 = .ok (.iload_n 2, 1) := by decide +kernel
theorem dX8_called_119 : decode cX8_called 119 = .ok (.iload 5, 2) := by decide +kernel
theorem dX8_called_121 : decode cX8_called 121 = .ok (.ifCond .eq 9, 3) := by decide +kernel
theorem dX8_called_124 : decode cX8_called 124 = .ok (.iconst 1, 1) := by decide +kernel
theorem dX8_called_125 : decode cX8_called 125 = .ok (.iload_n 3, 1) := by decide +kernel
theorem dX8_called_126 : decode cX8_called 126 = .ok (.ishl, 1) := by decide +kernel
theorem dX8_called_127 : decode cX8_called 127 = .ok (.goto 4, 3) := by decide +kernel
theorem dX8_called_130 : decode cX8_called 130 = .ok (.iconst 0, 1) := by decide +kernel
theorem dX8_called_131 : decode cX8_called 131 = .ok (.ior, 1) := by decide +kernel
theorem dX8_called_132 : decode cX8_called 132 = .ok (.istore_n 2, 1) := by decide +kernel
theorem dX8_called_133 : decode cX8_called 133 = .ok (.iinc 3 1, 3) := by decide +kernel
theorem dX8_called_136 : decode cX8_called 136 = .ok (.goto (-118), 3) := by decide +kernel
theorem dX8_called_139 : decode cX8_called 139 = .ok (.iload_n 2, 1) := by decide +kernel
theorem dX8_called_140 : decode cX8_called 140 = .ok (.ireturn, 1) := by decide +kernel
theorem dX8_rankOf_0 : decode cX8_rankOf 0 = .ok (.iconst 0, 1) := by decide +kernel
theorem dX8_rankOf_1 : decode cX8_rankOf 1 = .ok (.istore_n 2, 1) := by decide +kernel
theorem dX8_rankOf_2 : decode cX8_rankOf 2 = .ok (.iconst 0, 1) := by decide +kernel
theorem dX8_rankOf_3 : decode cX8_rankOf 3 = .ok (.istore_n 3, 1) := by decide +kernel
theorem dX8_rankOf_4 : decode cX8_rankOf 4 = .ok (.iload_n 3, 1) := by decide +kernel
theorem dX8_rankOf_5 : decode cX8_rankOf 5 = .ok (.aload_n 0, 1) := by decide +kernel
theorem dX8_rankOf_6 : decode cX8_rankOf 6 = .ok (.getfield 143, 3) := by decide +kernel
theorem dX8_rankOf_9 : decode cX8_rankOf 9 = .ok (.if_icmp .ge 52, 3) := by decide +kernel
theorem dX8_rankOf_12 : decode cX8_rankOf 12 = .ok (.iload_n 2, 1) := by decide +kernel
theorem dX8_rankOf_13 : decode cX8_rankOf 13 = .ok (.aload_n 0, 1) := by decide +kernel
theorem dX8_rankOf_14 : decode cX8_rankOf 14 = .ok (.getfield 16, 3) := by decide +kernel
theorem dX8_rankOf_17 : decode cX8_rankOf 17 = .ok (.iload_n 3, 1) := by decide +kernel
theorem dX8_rankOf_18 : decode cX8_rankOf 18 = .ok (.iaload, 1) := by decide +kernel
theorem dX8_rankOf_19 : decode cX8_rankOf 19 = .ok (.aload_n 0, 1) := by decide +kernel
theorem dX8_rankOf_20 : decode cX8_rankOf 20 = .ok (.getfield 16, 3) := by decide +kernel
theorem dX8_rankOf_23 : decode cX8_rankOf 23 = .ok (.iload_n 1, 1) := by decide +kernel
theorem dX8_rankOf_24 : decode cX8_rankOf 24 = .ok (.iaload, 1) := by decide +kernel
theorem dX8_rankOf_25 : decode cX8_rankOf 25 = .ok (.if_icmp .gt 23, 3) := by decide +kernel
theorem dX8_rankOf_28 : decode cX8_rankOf 28 = .ok (.aload_n 0, 1) := by decide +kernel
theorem dX8_rankOf_29 : decode cX8_rankOf 29 = .ok (.getfield 16, 3) := by decide +kernel
theorem dX8_rankOf_32 : decode cX8_rankOf 32 = .ok (.iload_n 3, 1) := by decide +kernel
theorem dX8_rankOf_33 : decode cX8_rankOf 33 = .ok (.iaload, 1) := by decide +kernel
theorem dX8_rankOf_34 : decode cX8_rankOf 34 = .ok (.aload_n 0, 1) := by decide +kernel
theorem dX8_rankOf_35 : decode cX8_rankOf 35 = .ok (.getfield 16, 3) := by decide +kernel
theorem dX8_rankOf_38 : decode cX8_rankOf 38 = .ok (.iload_n 1, 1) := by decide +kernel
theorem dX8_rankOf_39 : decode cX8_rankOf 39 = .ok (.iaload, 1) := by decide +kernel
theorem dX8_rankOf_40 : decode cX8_rankOf 40 = .ok (.if_icmp .ne 12, 3) := by decide +kernel
theorem dX8_rankOf_43 : decode cX8_rankOf 43 = .ok (.iload_n 3, 1) := by decide +kernel
theorem dX8_rankOf_44 : decode cX8_rankOf 44 = .ok (.iload_n 1, 1) := by decide +kernel
theorem dX8_rankOf_45 : decode cX8_rankOf 45 = .ok (.if_icmp .ge 7, 3) := by decide +kernel
theorem dX8_rankOf_48 : decode cX8_rankOf 48 = .ok (.iconst 1, 1) := by decide +kernel
theorem dX8_rankOf_49 : decode cX8_rankOf 49 = .ok (.goto 4, 3) := by decide +kernel
theorem dX8_rankOf_52 : decode cX8_rankOf 52 = .ok (.iconst 0, 1) := by decide +kernel
theorem dX8_rankOf_53 : decode cX8_rankOf 53 = .ok (.iadd, 1) := by decide +kernel
theorem dX8_rankOf_54 : decode cX8_rankOf 54 = .ok (.istore_n 2, 1) := by decide +kernel
theorem dX8_rankOf_55 : decode cX8_rankOf 55 = .ok (.iinc 3 1, 3) := by decide +kernel
theorem dX8_rankOf_58 : decode cX8_rankOf 58 = .ok (.goto (-54), 3) := by decide +kernel
theorem dX8_rankOf_61 : decode cX8_rankOf 61 = .ok (.iload_n 2, 1) := by decide +kernel
theorem dX8_rankOf_62 : decode cX8_rankOf 62 = .ok (.ireturn, 1) := by decide +kernel
theorem gX8_guess_X8_rankOf : GoodIn wsX8_guess (wsV RX8 213 RX8 yX8_rankOf wsX8_rankOf) := gwV aw_686 aw_687 aw_688 aw_3 aw_689
theorem dX8_guess_0 : decode cX8_guess 0 = .ok (.iload_n 1, 1) := by decide +kernel
theorem dX8_guess_1 : decode cX8_guess 1 = .ok (.ifCond .ge 5, 3) := by decide +kernel
theorem dX8_guess_4 : decode cX8_guess 4 = .ok (.iconst (-1), 1) := by decide +kernel
theorem dX8_guess_5 : decode cX8_guess 5 = .ok (.ireturn, 1) := by decide +kernel
theorem dX8_guess_6 : decode cX8_guess 6 = .ok (.iconst 0, 1) := by decide +kernel
theorem dX8_guess_7 : decode cX8_guess 7 = .ok (.istore_n 2, 1) := by decide +kernel
theorem dX8_guess_8 : decode cX8_guess 8 = .ok (.iload_n 2, 1) := by decide +kernel
theorem dX8_guess_9 : decode cX8_guess 9 = .ok (.aload_n 0, 1) := by decide +kernel
theorem dX8_guess_10 : decode cX8_guess 10 = .ok (.getfield 143, 3) := by decide +kernel
theorem dX8_guess_13 : decode cX8_guess 13 = .ok (.if_icmp .ge 20, 3) := by decide +kernel
theorem dX8_guess_16 : decode cX8_guess 16 = .ok (.aload_n 0, 1) := by decide +kernel
theorem dX8_guess_17 : decode cX8_guess 17 = .ok (.iload_n 2, 1) := by decide +kernel
theorem dX8_guess_18 : decode cX8_guess 18 = .ok (.invokevirtual 213, 3) := by decide +kernel
theorem dX8_guess_21 : decode cX8_guess 21 = .ok (.iload_n 1, 1) := by decide +kernel
theorem dX8_guess_22 : decode cX8_guess 22 = .ok (.if_icmp .ne 5, 3) := by decide +kernel
theorem dX8_guess_25 : decode cX8_guess 25 = .ok (.iload_n 2, 1) := by decide +kernel
theorem dX8_guess_26 : decode cX8_guess 26 = .ok (.ireturn, 1) := by decide +kernel
theorem dX8_guess_27 : decode cX8_guess 27 = .ok (.iinc 2 1, 3) := by decide +kernel
theorem dX8_guess_30 : decode cX8_guess 30 = .ok (.goto (-22), 3) := by decide +kernel
theorem dX8_guess_33 : decode cX8_guess 33 = .ok (.bipush (-4), 2) := by decide +kernel
theorem dX8_guess_35 : decode cX8_guess 35 = .ok (.ireturn, 1) := by decide +kernel
theorem dX8_lowest_0 : decode cX8_lowest 0 = .ok (.iload_n 0, 1) := by decide +kernel
theorem dX8_lowest_1 : decode cX8_lowest 1 = .ok (.istore_n 3, 1) := by decide +kernel
theorem dX8_lowest_2 : decode cX8_lowest 2 = .ok (.iload_n 1, 1) := by decide +kernel
theorem dX8_lowest_3 : decode cX8_lowest 3 = .ok (.istore 4, 2) := by decide +kernel
theorem dX8_lowest_5 : decode cX8_lowest 5 = .ok (.iload 4, 2) := by decide +kernel
theorem dX8_lowest_7 : decode cX8_lowest 7 = .ok (.ifCond .le 19, 3) := by decide +kernel
theorem dX8_lowest_10 : decode cX8_lowest 10 = .ok (.iload_n 3, 1) := by decide +kernel
theorem dX8_lowest_11 : decode cX8_lowest 11 = .ok (.iload 4, 2) := by decide +kernel
theorem dX8_lowest_13 : decode cX8_lowest 13 = .ok (.irem, 1) := by decide +kernel
theorem dX8_lowest_14 : decode cX8_lowest 14 = .ok (.istore 5, 2) := by decide +kernel
theorem dX8_lowest_16 : decode cX8_lowest 16 = .ok (.iload 4, 2) := by decide +kernel
theorem dX8_lowest_18 : decode cX8_lowest 18 = .ok (.istore_n 3, 1) := by decide +kernel
theorem dX8_lowest_19 : decode cX8_lowest 19 = .ok (.iload 5, 2) := by decide +kernel
theorem dX8_lowest_21 : decode cX8_lowest 21 = .ok (.istore 4, 2) := by decide +kernel
theorem dX8_lowest_23 : decode cX8_lowest 23 = .ok (.goto (-18), 3) := by decide +kernel
theorem dX8_lowest_26 : decode cX8_lowest 26 = .ok (.iload_n 2, 1) := by decide +kernel
theorem dX8_lowest_27 : decode cX8_lowest 27 = .ok (.ifCond .ne 7, 3) := by decide +kernel
theorem dX8_lowest_30 : decode cX8_lowest 30 = .ok (.iload_n 0, 1) := by decide +kernel
theorem dX8_lowest_31 : decode cX8_lowest 31 = .ok (.goto 4, 3) := by decide +kernel
theorem dX8_lowest_34 : decode cX8_lowest 34 = .ok (.iload_n 1, 1) := by decide +kernel
theorem dX8_lowest_35 : decode cX8_lowest 35 = .ok (.iload_n 3, 1) := by decide +kernel
theorem dX8_lowest_36 : decode cX8_lowest 36 = .ok (.idiv, 1) := by decide +kernel
theorem dX8_lowest_37 : decode cX8_lowest 37 = .ok (.ireturn, 1) := by decide +kernel
theorem dX8_allParts_0 : decode cX8_allParts 0 = .ok (.iconst 0, 1) := by decide +kernel
theorem dX8_allParts_1 : decode cX8_allParts 1 = .ok (.istore_n 1, 1) := by decide +kernel
theorem dX8_allParts_2 : decode cX8_allParts 2 = .ok (.iconst 0, 1) := by decide +kernel
theorem dX8_allParts_3 : decode cX8_allParts 3 = .ok (.istore_n 2, 1) := by decide +kernel
theorem dX8_allParts_4 : decode cX8_allParts 4 = .ok (.iload_n 2, 1) := by decide +kernel
theorem dX8_allParts_5 : decode cX8_allParts 5 = .ok (.aload_n 0, 1) := by decide +kernel
theorem dX8_allParts_6 : decode cX8_allParts 6 = .ok (.getfield 143, 3) := by decide +kernel
theorem dX8_allParts_9 : decode cX8_allParts 9 = .ok (.if_icmp .ge 18, 3) := by decide +kernel
theorem dX8_allParts_12 : decode cX8_allParts 12 = .ok (.iload_n 1, 1) := by decide +kernel
theorem dX8_allParts_13 : decode cX8_allParts 13 = .ok (.aload_n 0, 1) := by decide +kernel
theorem dX8_allParts_14 : decode cX8_allParts 14 = .ok (.getfield 16, 3) := by decide +kernel
theorem dX8_allParts_17 : decode cX8_allParts 17 = .ok (.iload_n 2, 1) := by decide +kernel
theorem dX8_allParts_18 : decode cX8_allParts 18 = .ok (.iaload, 1) := by decide +kernel
theorem dX8_allParts_19 : decode cX8_allParts 19 = .ok (.iadd, 1) := by decide +kernel
theorem dX8_allParts_20 : decode cX8_allParts 20 = .ok (.istore_n 1, 1) := by decide +kernel
theorem dX8_allParts_21 : decode cX8_allParts 21 = .ok (.iinc 2 1, 3) := by decide +kernel
theorem dX8_allParts_24 : decode cX8_allParts 24 = .ok (.goto (-20), 3) := by decide +kernel
theorem dX8_allParts_27 : decode cX8_allParts 27 = .ok (.iload_n 1, 1) := by decide +kernel
theorem dX8_allParts_28 : decode cX8_allParts 28 = .ok (.ireturn, 1) := by decide +kernel
theorem gX8_mean_X8_in : GoodIn wsX8_mean (va_wsS RX8 85 yX8_in wsX8_in) := gwS aw_361 aw_362 aw_3 aw_363
theorem gX8_mean_X8_rankOf : GoodIn wsX8_mean (wsV RX8 213 RX8 yX8_rankOf wsX8_rankOf) := gwV aw_686 aw_687 aw_688 aw_3 aw_689
theorem gX8_mean_X8_allParts : GoodIn wsX8_mean (wsV RX8 216 RX8 yX8_allParts wsX8_allParts) := gwV aw_710 aw_711 aw_712 aw_3 aw_713
theorem gX8_mean_X8_lowest : GoodIn wsX8_mean (va_wsS RX8 219 yX8_lowest wsX8_lowest) := gwS aw_714 aw_715 aw_3 aw_716
theorem dX8_mean_0 : decode cX8_mean 0 = .ok (.iload_n 1, 1) := by decide +kernel
theorem dX8_mean_1 : decode cX8_mean 1 = .ok (.iconst 0, 1) := by decide +kernel
theorem dX8_mean_2 : decode cX8_mean 2 = .ok (.iconst 1, 1) := by decide +kernel
theorem dX8_mean_3 : decode cX8_mean 3 = .ok (.invokestatic 85, 3) := by decide +kernel
theorem dX8_mean_6 : decode cX8_mean 6 = .ok (.ifCond .ne 5, 3) := by decide +kernel
theorem dX8_mean_9 : decode cX8_mean 9 = .ok (.iconst (-1), 1) := by decide +kernel
theorem dX8_mean_10 : decode cX8_mean 10 = .ok (.ireturn, 1) := by decide +kernel
theorem dX8_mean_11 : decode cX8_mean 11 = .ok (.iconst 0, 1) := by decide +kernel
theorem dX8_mean_12 : decode cX8_mean 12 = .ok (.istore_n 2, 1) := by decide +kernel
theorem dX8_mean_13 : decode cX8_mean 13 = .ok (.iconst 0, 1) := by decide +kernel
theorem dX8_mean_14 : decode cX8_mean 14 = .ok (.istore_n 3, 1) := by decide +kernel
theorem dX8_mean_15 : decode cX8_mean 15 = .ok (.iload_n 3, 1) := by decide +kernel
theorem dX8_mean_16 : decode cX8_mean 16 = .ok (.aload_n 0, 1) := by decide +kernel
theorem dX8_mean_17 : decode cX8_mean 17 = .ok (.getfield 143, 3) := by decide +kernel
theorem dX8_mean_20 : decode cX8_mean 20 = .ok (.if_icmp .ge 26, 3) := by decide +kernel
theorem dX8_mean_23 : decode cX8_mean 23 = .ok (.iload_n 2, 1) := by decide +kernel
theorem dX8_mean_24 : decode cX8_mean 24 = .ok (.aload_n 0, 1) := by decide +kernel
theorem dX8_mean_25 : decode cX8_mean 25 = .ok (.iload_n 3, 1) := by decide +kernel
theorem dX8_mean_26 : decode cX8_mean 26 = .ok (.invokevirtual 213, 3) := by decide +kernel
theorem dX8_mean_29 : decode cX8_mean 29 = .ok (.iconst 1, 1) := by decide +kernel
theorem dX8_mean_30 : decode cX8_mean 30 = .ok (.iadd, 1) := by decide +kernel
theorem dX8_mean_31 : decode cX8_mean 31 = .ok (.aload_n 0, 1) := by decide +kernel
theorem dX8_mean_32 : decode cX8_mean 32 = .ok (.getfield 16, 3) := by decide +kernel
theorem dX8_mean_35 : decode cX8_mean 35 = .ok (.iload_n 3, 1) := by decide +kernel
theorem dX8_mean_36 : decode cX8_mean 36 = .ok (.iaload, 1) := by decide +kernel
theorem dX8_mean_37 : decode cX8_mean 37 = .ok (.imul, 1) := by decide +kernel
theorem dX8_mean_38 : decode cX8_mean 38 = .ok (.iadd, 1) := by decide +kernel
theorem dX8_mean_39 : decode cX8_mean 39 = .ok (.istore_n 2, 1) := by decide +kernel
theorem dX8_mean_40 : decode cX8_mean 40 = .ok (.iinc 3 1, 3) := by decide +kernel
theorem dX8_mean_43 : decode cX8_mean 43 = .ok (.goto (-28), 3) := by decide +kernel
theorem dX8_mean_46 : decode cX8_mean 46 = .ok (.aload_n 0, 1) := by decide +kernel
theorem dX8_mean_47 : decode cX8_mean 47 = .ok (.getfield 143, 3) := by decide +kernel
theorem dX8_mean_50 : decode cX8_mean 50 = .ok (.ifCond .ne 8, 3) := by decide +kernel
theorem dX8_mean_53 : decode cX8_mean 53 = .ok (.bipush (-4), 2) := by decide +kernel
theorem dX8_mean_55 : decode cX8_mean 55 = .ok (.goto 12, 3) := by decide +kernel
theorem dX8_mean_58 : decode cX8_mean 58 = .ok (.iload_n 2, 1) := by decide +kernel
theorem dX8_mean_59 : decode cX8_mean 59 = .ok (.aload_n 0, 1) := by decide +kernel
theorem dX8_mean_60 : decode cX8_mean 60 = .ok (.invokevirtual 216, 3) := by decide +kernel
theorem dX8_mean_63 : decode cX8_mean 63 = .ok (.iload_n 1, 1) := by decide +kernel
theorem dX8_mean_64 : decode cX8_mean 64 = .ok (.invokestatic 219, 3) := by decide +kernel
theorem dX8_mean_67 : decode cX8_mean 67 = .ok (.ireturn, 1) := by decide +kernel
theorem gX8_inTime_X8_in : GoodIn wsX8_inTime (va_wsS RX8 85 yX8_in wsX8_in) := gwS aw_361 aw_362 aw_3 aw_363
theorem gX8_inTime_X8_rankOf : GoodIn wsX8_inTime (wsV RX8 213 RX8 yX8_rankOf wsX8_rankOf) := gwV aw_686 aw_687 aw_688 aw_3 aw_689
theorem gX8_inTime_X8_allParts : GoodIn wsX8_inTime (wsV RX8 216 RX8 yX8_allParts wsX8_allParts) := gwV aw_710 aw_711 aw_712 aw_3 aw_713
theorem gX8_inTime_X8_lowest : GoodIn wsX8_inTime (va_wsS RX8 219 yX8_lowest wsX8_lowest) := gwS aw_714 aw_715 aw_3 aw_716
theorem dX8_inTime_0 : decode cX8_inTime 0 = .ok (.iload_n 1, 1) := by decide +kernel
theorem dX8_inTime_1 : decode cX8_inTime 1 = .ok (.iconst 0, 1) := by decide +kernel
theorem dX8_inTime_2 : decode cX8_inTime 2 = .ok (.iconst 1, 1) := by decide +kernel
theorem dX8_inTime_3 : decode cX8_inTime 3 = .ok (.invokestatic 85, 3) := by decide +kernel
theorem dX8_inTime_6 : decode cX8_inTime 6 = .ok (.ifCond .ne 5, 3) := by decide +kernel
theorem dX8_inTime_9 : decode cX8_inTime 9 = .ok (.iconst (-1), 1) := by decide +kernel
theorem dX8_inTime_10 : decode cX8_inTime 10 = .ok (.ireturn, 1) := by decide +kernel
theorem dX8_inTime_11 : decode cX8_inTime 11 = .ok (.iconst 0, 1) := by decide +kernel
theorem dX8_inTime_12 : decode cX8_inTime 12 = .ok (.istore_n 2, 1) := by decide +kernel
theorem dX8_inTime_13 : decode cX8_inTime 13 = .ok (.iconst 0, 1) := by decide +kernel
theorem dX8_inTime_14 : decode cX8_inTime 14 = .ok (.istore_n 3, 1) := by decide +kernel
theorem dX8_inTime_15 : decode cX8_inTime 15 = .ok (.iload_n 3, 1) := by decide +kernel
theorem dX8_inTime_16 : decode cX8_inTime 16 = .ok (.aload_n 0, 1) := by decide +kernel
theorem dX8_inTime_17 : decode cX8_inTime 17 = .ok (.getfield 143, 3) := by decide +kernel
theorem dX8_inTime_20 : decode cX8_inTime 20 = .ok (.if_icmp .ge 34, 3) := by decide +kernel
theorem dX8_inTime_23 : decode cX8_inTime 23 = .ok (.iload_n 2, 1) := by decide +kernel
theorem dX8_inTime_24 : decode cX8_inTime 24 = .ok (.aload_n 0, 1) := by decide +kernel
theorem dX8_inTime_25 : decode cX8_inTime 25 = .ok (.iload_n 3, 1) := by decide +kernel
theorem dX8_inTime_26 : decode cX8_inTime 26 = .ok (.invokevirtual 213, 3) := by decide +kernel
theorem dX8_inTime_29 : decode cX8_inTime 29 = .ok (.aload_n 0, 1) := by decide +kernel
theorem dX8_inTime_30 : decode cX8_inTime 30 = .ok (.getfield 146, 3) := by decide +kernel
theorem dX8_inTime_33 : decode cX8_inTime 33 = .ok (.if_icmp .ge 12, 3) := by decide +kernel
theorem dX8_inTime_36 : decode cX8_inTime 36 = .ok (.aload_n 0, 1) := by decide +kernel
theorem dX8_inTime_37 : decode cX8_inTime 37 = .ok (.getfield 16, 3) := by decide +kernel
theorem dX8_inTime_40 : decode cX8_inTime 40 = .ok (.iload_n 3, 1) := by decide +kernel
theorem dX8_inTime_41 : decode cX8_inTime 41 = .ok (.iaload, 1) := by decide +kernel
theorem dX8_inTime_42 : decode cX8_inTime 42 = .ok (.goto 4, 3) := by decide +kernel
theorem dX8_inTime_45 : decode cX8_inTime 45 = .ok (.iconst 0, 1) := by decide +kernel
theorem dX8_inTime_46 : decode cX8_inTime 46 = .ok (.iadd, 1) := by decide +kernel
theorem dX8_inTime_47 : decode cX8_inTime 47 = .ok (.istore_n 2, 1) := by decide +kernel
theorem dX8_inTime_48 : decode cX8_inTime 48 = .ok (.iinc 3 1, 3) := by decide +kernel
theorem dX8_inTime_51 : decode cX8_inTime 51 = .ok (.goto (-36), 3) := by decide +kernel
theorem dX8_inTime_54 : decode cX8_inTime 54 = .ok (.aload_n 0, 1) := by decide +kernel
theorem dX8_inTime_55 : decode cX8_inTime 55 = .ok (.getfield 143, 3) := by decide +kernel
theorem dX8_inTime_58 : decode cX8_inTime 58 = .ok (.ifCond .ne 8, 3) := by decide +kernel
theorem dX8_inTime_61 : decode cX8_inTime 61 = .ok (.bipush (-4), 2) := by decide +kernel
theorem dX8_inTime_63 : decode cX8_inTime 63 = .ok (.goto 12, 3) := by decide +kernel
theorem dX8_inTime_66 : decode cX8_inTime 66 = .ok (.iload_n 2, 1) := by decide +kernel
theorem dX8_inTime_67 : decode cX8_inTime 67 = .ok (.aload_n 0, 1) := by decide +kernel
theorem dX8_inTime_68 : decode cX8_inTime 68 = .ok (.invokevirtual 216, 3) := by decide +kernel
theorem dX8_inTime_71 : decode cX8_inTime 71 = .ok (.iload_n 1, 1) := by decide +kernel
theorem dX8_inTime_72 : decode cX8_inTime 72 = .ok (.invokestatic 219, 3) := by decide +kernel
theorem dX8_inTime_75 : decode cX8_inTime 75 = .ok (.ireturn, 1) := by decide +kernel
theorem gX8_likely_X8_isDoor : GoodIn wsX8_likely (wsV RX8 192 RX8 yX8_isDoor wsX8_isDoor) := gwV aw_491 aw_492 aw_493 aw_3 aw_494
theorem gX8_likely_X8_in : GoodIn wsX8_likely (va_wsS RX8 85 yX8_in wsX8_in) := gwS aw_361 aw_362 aw_3 aw_363
theorem gX8_likely_X8_asItIs : GoodIn wsX8_likely (wsV RX8 186 RX8 yX8_asItIs wsX8_asItIs) := gwV aw_454 aw_455 aw_456 aw_3 aw_457
theorem gX8_likely_X8_has : GoodIn wsX8_likely (va_wsS RX8 161 yX8_has wsX8_has) := gwS aw_346 aw_347 aw_3 aw_348
theorem gX8_likely_X8_calls : GoodIn wsX8_likely (wsV RX8 149 RX8 yX8_calls wsX8_calls) := gwV aw_334 aw_335 aw_336 aw_3 aw_337
theorem gX8_likely_X8_dayAt : GoodIn wsX8_likely (wsV RX8 176 RX8 yX8_dayAt wsX8_dayAt) := gwV aw_544 aw_545 aw_546 aw_3 aw_547
theorem gX8_likely_X8_isShutOut : GoodIn wsX8_likely (wsV RX8 180 RX8 yX8_isShutOut wsX8_isShutOut) := gwV aw_579 aw_580 aw_581 aw_3 aw_582
theorem gX8_likely_X8_lowest : GoodIn wsX8_likely (va_wsS RX8 219 yX8_lowest wsX8_lowest) := gwS aw_714 aw_715 aw_3 aw_716
theorem dX8_likely_0 : decode cX8_likely 0 = .ok (.aload_n 0, 1) := by decide +kernel
theorem dX8_likely_1 : decode cX8_likely 1 = .ok (.iload_n 1, 1) := by decide +kernel
theorem dX8_likely_2 : decode cX8_likely 2 = .ok (.invokevirtual 192, 3) := by decide +kernel
theorem dX8_likely_5 : decode cX8_likely 5 = .ok (.ifCond .eq 21, 3) := by decide +kernel
theorem dX8_likely_8 : decode cX8_likely 8 = .ok (.iload_n 2, 1) := by decide +kernel
theorem dX8_likely_9 : decode cX8_likely 9 = .ok (.iconst 0, 1) := by decide +kernel
theorem dX8_likely_10 : decode cX8_likely 10 = .ok (.iconst 3, 1) := by decide +kernel
theorem dX8_likely_11 : decode cX8_likely 11 = .ok (.invokestatic 85, 3) := by decide +kernel
theorem dX8_likely_14 : decode cX8_likely 14 = .ok (.ifCond .eq 12, 3) := by decide +kernel
theorem dX8_likely_17 : decode cX8_likely 17 = .ok (.iload_n 3, 1) := by decide +kernel
theorem dX8_likely_18 : decode cX8_likely 18 = .ok (.iconst 0, 1) := by decide +kernel
theorem dX8_likely_19 : decode cX8_likely 19 = .ok (.iconst 1, 1) := by decide +kernel
theorem dX8_likely_20 : decode cX8_likely 20 = .ok (.invokestatic 85, 3) := by decide +kernel
theorem dX8_likely_23 : decode cX8_likely 23 = .ok (.ifCond .ne 5, 3) := by decide +kernel
theorem dX8_likely_26 : decode cX8_likely 26 = .ok (.iconst (-1), 1) := by decide +kernel
theorem dX8_likely_27 : decode cX8_likely 27 = .ok (.ireturn, 1) := by decide +kernel
theorem dX8_likely_28 : decode cX8_likely 28 = .ok (.iconst 1, 1) := by decide +kernel
theorem dX8_likely_29 : decode cX8_likely 29 = .ok (.istore 4, 2) := by decide +kernel
theorem dX8_likely_31 : decode cX8_likely 31 = .ok (.iconst 0, 1) := by decide +kernel
theorem dX8_likely_32 : decode cX8_likely 32 = .ok (.istore 5, 2) := by decide +kernel
theorem dX8_likely_34 : decode cX8_likely 34 = .ok (.iload 5, 2) := by decide +kernel
theorem dX8_likely_36 : decode cX8_likely 36 = .ok (.iload_n 2, 1) := by decide +kernel
theorem dX8_likely_37 : decode cX8_likely 37 = .ok (.if_icmp .ge 18, 3) := by decide +kernel
theorem dX8_likely_40 : decode cX8_likely 40 = .ok (.iload 4, 2) := by decide +kernel
theorem dX8_likely_42 : decode cX8_likely 42 = .ok (.aload_n 0, 1) := by decide +kernel
theorem dX8_likely_43 : decode cX8_likely 43 = .ok (.getfield 82, 3) := by decide +kernel
theorem dX8_likely_46 : decode cX8_likely 46 = .ok (.imul, 1) := by decide +kernel
theorem dX8_likely_47 : decode cX8_likely 47 = .ok (.istore 4, 2) := by decide +kernel
theorem dX8_likely_49 : decode cX8_likely 49 = .ok (.iinc 5 1, 3) := by decide +kernel
theorem dX8_likely_52 : decode cX8_likely 52 = .ok (.goto (-18), 3) := by decide +kernel
theorem dX8_likely_55 : decode cX8_likely 55 = .ok (.iconst 0, 1) := by decide +kernel
theorem dX8_likely_56 : decode cX8_likely 56 = .ok (.istore 5, 2) := by decide +kernel
theorem dX8_likely_58 : decode cX8_likely 58 = .ok (.iconst 0, 1) := by decide +kernel
theorem dX8_likely_59 : decode cX8_likely 59 = .ok (.istore 6, 2) := by decide +kernel
theorem dX8_likely_61 : decode cX8_likely 61 = .ok (.iload 6, 2) := by decide +kernel
theorem dX8_likely_63 : decode cX8_likely 63 = .ok (.iload 4, 2) := by decide +kernel
theorem dX8_likely_65 : decode cX8_likely 65 = .ok (.if_icmp .ge 97, 3) := by decide +kernel
theorem dX8_likely_68 : decode cX8_likely 68 = .ok (.iload 6, 2) := by decide +kernel
theorem dX8_likely_70 : decode cX8_likely 70 = .ok (.istore 7, 2) := by decide +kernel
theorem dX8_likely_72 : decode cX8_likely 72 = .ok (.aload_n 0, 1) := by decide +kernel
theorem dX8_likely_73 : decode cX8_likely 73 = .ok (.invokevirtual 186, 3) := by decide +kernel
theorem dX8_likely_76 : decode cX8_likely 76 = .ok (.iconst 0, 1) := by decide +kernel
theorem dX8_likely_77 : decode cX8_likely 77 = .ok (.istore 8, 2) := by decide +kernel
theorem dX8_likely_79 : decode cX8_likely 79 = .ok (.iload 8, 2) := by decide +kernel
theorem dX8_likely_81 : decode cX8_likely 81 = .ok (.iload_n 2, 1) := by decide +kernel
theorem dX8_likely_82 : decode cX8_likely 82 = .ok (.if_icmp .ge 56, 3) := by decide +kernel
theorem dX8_likely_85 : decode cX8_likely 85 = .ok (.iload 7, 2) := by decide +kernel
theorem dX8_likely_87 : decode cX8_likely 87 = .ok (.aload_n 0, 1) := by decide +kernel
theorem dX8_likely_88 : decode cX8_likely 88 = .ok (.getfield 82, 3) := by decide +kernel
theorem dX8_likely_91 : decode cX8_likely 91 = .ok (.irem, 1) := by decide +kernel
theorem dX8_likely_92 : decode cX8_likely 92 = .ok (.istore 9, 2) := by decide +kernel
theorem dX8_likely_94 : decode cX8_likely 94 = .ok (.iload 7, 2) := by decide +kernel
theorem dX8_likely_96 : decode cX8_likely 96 = .ok (.aload_n 0, 1) := by decide +kernel
theorem dX8_likely_97 : decode cX8_likely 97 = .ok (.getfield 82, 3) := by decide +kernel
theorem dX8_likely_100 : decode cX8_likely 100 = .ok (.idiv, 1) := by decide +kernel
theorem dX8_likely_101 : decode cX8_likely 101 = .ok (.istore 7, 2) := by decide +kernel
theorem dX8_likely_103 : decode cX8_likely 103 = .ok (.aload_n 0, 1) := by decide +kernel
theorem dX8_likely_104 : decode cX8_likely 104 = .ok (.getfield 49, 3) := by decide +kernel
theorem dX8_likely_107 : decode cX8_likely 107 = .ok (.bipush 70, 2) := by decide +kernel
theorem dX8_likely_109 : decode cX8_likely 109 = .ok (.iload_n 1, 1) := by decide +kernel
theorem dX8_likely_110 : decode cX8_likely 110 = .ok (.iadd, 1) := by decide +kernel
theorem dX8_likely_111 : decode cX8_likely 111 = .ok (.iaload, 1) := by decide +kernel
theorem dX8_likely_112 : decode cX8_likely 112 = .ok (.iload 9, 2) := by decide +kernel
theorem dX8_likely_114 : decode cX8_likely 114 = .ok (.invokestatic 161, 3) := by decide +kernel
theorem dX8_likely_117 : decode cX8_likely 117 = .ok (.ifCond .eq 10, 3) := by decide +kernel
theorem dX8_likely_120 : decode cX8_likely 120 = .ok (.aload_n 0, 1) := by decide +kernel
theorem dX8_likely_121 : decode cX8_likely 121 = .ok (.iload 9, 2) := by decide +kernel
theorem dX8_likely_123 : decode cX8_likely 123 = .ok (.iload_n 1, 1) := by decide +kernel
theorem dX8_likely_124 : decode cX8_likely 124 = .ok (.invokevirtual 149, 3) := by decide +kernel
theorem dX8_likely_127 : decode cX8_likely 127 = .ok (.aload_n 0, 1) := by decide +kernel
theorem dX8_likely_128 : decode cX8_likely 128 = .ok (.iload_n 1, 1) := by decide +kernel
theorem dX8_likely_129 : decode cX8_likely 129 = .ok (.invokevirtual 176, 3) := by decide +kernel
theorem dX8_likely_132 : decode cX8_likely 132 = .ok (.iinc 8 1, 3) := by decide +kernel
theorem dX8_likely_135 : decode cX8_likely 135 = .ok (.goto (-56), 3) := by decide +kernel
theorem dX8_likely_138 : decode cX8_likely 138 = .ok (.iload 5, 2) := by decide +kernel
theorem dX8_likely_140 : decode cX8_likely 140 = .ok (.aload_n 0, 1) := by decide +kernel
theorem dX8_likely_141 : decode cX8_likely 141 = .ok (.iload_n 1, 1) := by decide +kernel
theorem dX8_likely_142 : decode cX8_likely 142 = .ok (.invokevirtual 180, 3) := by decide +kernel
theorem dX8_likely_145 : decode cX8_likely 145 = .ok (.ifCond .eq 7, 3) := by decide +kernel
theorem dX8_likely_148 : decode cX8_likely 148 = .ok (.iconst 1, 1) := by decide +kernel
theorem dX8_likely_149 : decode cX8_likely 149 = .ok (.goto 4, 3) := by decide +kernel
theorem dX8_likely_152 : decode cX8_likely 152 = .ok (.iconst 0, 1) := by decide +kernel
theorem dX8_likely_153 : decode cX8_likely 153 = .ok (.iadd, 1) := by decide +kernel
theorem dX8_likely_154 : decode cX8_likely 154 = .ok (.istore 5, 2) := by decide +kernel
theorem dX8_likely_156 : decode cX8_likely 156 = .ok (.iinc 6 1, 3) := by decide +kernel
theorem dX8_likely_159 : decode cX8_likely 159 = .ok (.goto (-98), 3) := by decide +kernel
theorem dX8_likely_162 : decode cX8_likely 162 = .ok (.iload 5, 2) := by decide +kernel
theorem dX8_likely_164 : decode cX8_likely 164 = .ok (.iload 4, 2) := by decide +kernel
theorem dX8_likely_166 : decode cX8_likely 166 = .ok (.iload_n 3, 1) := by decide +kernel
theorem dX8_likely_167 : decode cX8_likely 167 = .ok (.invokestatic 219, 3) := by decide +kernel
theorem dX8_likely_170 : decode cX8_likely 170 = .ok (.ireturn, 1) := by decide +kernel
theorem gX8_street_X8_in : GoodIn wsX8_street (va_wsS RX8 85 yX8_in wsX8_in) := gwS aw_361 aw_362 aw_3 aw_363
theorem gX8_street_X8_asItIs : GoodIn wsX8_street (wsV RX8 186 RX8 yX8_asItIs wsX8_asItIs) := gwV aw_454 aw_455 aw_456 aw_3 aw_457
theorem gX8_street_X8_calls : GoodIn wsX8_street (wsV RX8 149 RX8 yX8_calls wsX8_calls) := gwV aw_334 aw_335 aw_336 aw_3 aw_337
theorem gX8_street_X8_goes : GoodIn wsX8_street (wsV RX8 201 RX8 yX8_goes wsX8_goes) := gwV aw_540 aw_541 aw_542 aw_3 aw_543
theorem gX8_street_X8_shutOutNow : GoodIn wsX8_street (wsV RX8 204 RX8 yX8_shutOutNow wsX8_shutOutNow) := gwV aw_575 aw_576 aw_577 aw_3 aw_578
theorem dX8_street_0 : decode cX8_street 0 = .ok (.iload_n 1, 1) := by decide +kernel
theorem dX8_street_1 : decode cX8_street 1 = .ok (.iconst 0, 1) := by decide +kernel
theorem dX8_street_2 : decode cX8_street 2 = .ok (.sipush 9999, 3) := by decide +kernel
theorem dX8_street_5 : decode cX8_street 5 = .ok (.invokestatic 85, 3) := by decide +kernel
theorem dX8_street_8 : decode cX8_street 8 = .ok (.ifCond .eq 22, 3) := by decide +kernel
theorem dX8_street_11 : decode cX8_street 11 = .ok (.iload_n 2, 1) := by decide +kernel
theorem dX8_street_12 : decode cX8_street 12 = .ok (.iconst 1, 1) := by decide +kernel
theorem dX8_street_13 : decode cX8_street 13 = .ok (.bipush 60, 2) := by decide +kernel
theorem dX8_street_15 : decode cX8_street 15 = .ok (.invokestatic 85, 3) := by decide +kernel
theorem dX8_street_18 : decode cX8_street 18 = .ok (.ifCond .eq 12, 3) := by decide +kernel
theorem dX8_street_21 : decode cX8_street 21 = .ok (.iload_n 3, 1) := by decide +kernel
theorem dX8_street_22 : decode cX8_street 22 = .ok (.iconst 0, 1) := by decide +kernel
theorem dX8_street_23 : decode cX8_street 23 = .ok (.iconst 1, 1) := by decide +kernel
theorem dX8_street_24 : decode cX8_street 24 = .ok (.invokestatic 85, 3) := by decide +kernel
theorem dX8_street_27 : decode cX8_street 27 = .ok (.ifCond .ne 5, 3) := by decide +kernel
theorem dX8_street_30 : decode cX8_street 30 = .ok (.iconst (-1), 1) := by decide +kernel
theorem dX8_street_31 : decode cX8_street 31 = .ok (.ireturn, 1) := by decide +kernel
theorem dX8_street_32 : decode cX8_street 32 = .ok (.aload_n 0, 1) := by decide +kernel
theorem dX8_street_33 : decode cX8_street 33 = .ok (.invokevirtual 186, 3) := by decide +kernel
theorem dX8_street_36 : decode cX8_street 36 = .ok (.iconst 0, 1) := by decide +kernel
theorem dX8_street_37 : decode cX8_street 37 = .ok (.istore 4, 2) := by decide +kernel
theorem dX8_street_39 : decode cX8_street 39 = .ok (.iconst 0, 1) := by decide +kernel
theorem dX8_street_40 : decode cX8_street 40 = .ok (.istore 5, 2) := by decide +kernel
theorem dX8_street_42 : decode cX8_street 42 = .ok (.iload 5, 2) := by decide +kernel
theorem dX8_street_44 : decode cX8_street 44 = .ok (.iload_n 2, 1) := by decide +kernel
theorem dX8_street_45 : decode cX8_street 45 = .ok (.if_icmp .ge 98, 3) := by decide +kernel
theorem dX8_street_48 : decode cX8_street 48 = .ok (.ldc2_w 222, 3) := by decide +kernel
theorem dX8_street_51 : decode cX8_street 51 = .ok (.iload_n 1, 1) := by decide +kernel
theorem dX8_street_52 : decode cX8_street 52 = .ok (.i2l, 1) := by decide +kernel
theorem dX8_street_53 : decode cX8_street 53 = .ok (.lmul, 1) := by decide +kernel
theorem dX8_street_54 : decode cX8_street 54 = .ok (.ldc2_w 224, 3) := by decide +kernel
theorem dX8_street_57 : decode cX8_street 57 = .ok (.iload 5, 2) := by decide +kernel
theorem dX8_street_59 : decode cX8_street 59 = .ok (.i2l, 1) := by decide +kernel
theorem dX8_street_60 : decode cX8_street 60 = .ok (.lmul, 1) := by decide +kernel
theorem dX8_street_61 : decode cX8_street 61 = .ok (.ladd, 1) := by decide +kernel
theorem dX8_street_62 : decode cX8_street 62 = .ok (.lconst 1, 1) := by decide +kernel
theorem dX8_street_63 : decode cX8_street 63 = .ok (.ladd, 1) := by decide +kernel
theorem dX8_street_64 : decode cX8_street 64 = .ok (.lstore 6, 2) := by decide +kernel
theorem dX8_street_66 : decode cX8_street 66 = .ok (.lload 6, 2) := by decide +kernel
theorem dX8_street_68 : decode cX8_street 68 = .ok (.lload 6, 2) := by decide +kernel
theorem dX8_street_70 : decode cX8_street 70 = .ok (.lmul, 1) := by decide +kernel
theorem dX8_street_71 : decode cX8_street 71 = .ok (.ldc2_w 226, 3) := by decide +kernel
theorem dX8_street_74 : decode cX8_street 74 = .ok (.lrem, 1) := by decide +kernel
theorem dX8_street_75 : decode cX8_street 75 = .ok (.ldc2_w 228, 3) := by decide +kernel
theorem dX8_street_78 : decode cX8_street 78 = .ok (.ldiv, 1) := by decide +kernel
theorem dX8_street_79 : decode cX8_street 79 = .ok (.l2i, 1) := by decide +kernel
theorem dX8_street_80 : decode cX8_street 80 = .ok (.istore 8, 2) := by decide +kernel
theorem dX8_street_82 : decode cX8_street 82 = .ok (.iload 8, 2) := by decide +kernel
theorem dX8_street_84 : decode cX8_street 84 = .ok (.bipush 64, 2) := by decide +kernel
theorem dX8_street_86 : decode cX8_street 86 = .ok (.idiv, 1) := by decide +kernel
theorem dX8_street_87 : decode cX8_street 87 = .ok (.iconst 3, 1) := by decide +kernel
theorem dX8_street_88 : decode cX8_street 88 = .ok (.irem, 1) := by decide +kernel
theorem dX8_street_89 : decode cX8_street 89 = .ok (.ifCond .eq 27, 3) := by decide +kernel
theorem dX8_street_92 : decode cX8_street 92 = .ok (.aload_n 0, 1) := by decide +kernel
theorem dX8_street_93 : decode cX8_street 93 = .ok (.iload 8, 2) := by decide +kernel
theorem dX8_street_95 : decode cX8_street 95 = .ok (.aload_n 0, 1) := by decide +kernel
theorem dX8_street_96 : decode cX8_street 96 = .ok (.getfield 82, 3) := by decide +kernel
theorem dX8_street_99 : decode cX8_street 99 = .ok (.irem, 1) := by decide +kernel
theorem dX8_street_100 : decode cX8_street 100 = .ok (.iload 8, 2) := by decide +kernel
theorem dX8_street_102 : decode cX8_street 102 = .ok (.bipush 8, 2) := by decide +kernel
theorem dX8_street_104 : decode cX8_street 104 = .ok (.idiv, 1) := by decide +kernel
theorem dX8_street_105 : decode cX8_street 105 = .ok (.aload_n 0, 1) := by decide +kernel
theorem dX8_street_106 : decode cX8_street 106 = .ok (.getfield 89, 3) := by decide +kernel
theorem dX8_street_109 : decode cX8_street 109 = .ok (.irem, 1) := by decide +kernel
theorem dX8_street_110 : decode cX8_street 110 = .ok (.invokevirtual 149, 3) := by decide +kernel
theorem dX8_street_113 : decode cX8_street 113 = .ok (.goto 7, 3) := by decide +kernel
theorem dX8_street_116 : decode cX8_street 116 = .ok (.aload_n 0, 1) := by decide +kernel
theorem dX8_street_117 : decode cX8_street 117 = .ok (.invokevirtual 201, 3) := by decide +kernel
theorem dX8_street_120 : decode cX8_street 120 = .ok (.iload 4, 2) := by decide +kernel
theorem dX8_street_122 : decode cX8_street 122 = .ok (.aload_n 0, 1) := by decide +kernel
theorem dX8_street_123 : decode cX8_street 123 = .ok (.invokevirtual 204, 3) := by decide +kernel
theorem dX8_street_126 : decode cX8_street 126 = .ok (.ifCond .ne 7, 3) := by decide +kernel
theorem dX8_street_129 : decode cX8_street 129 = .ok (.iconst 1, 1) := by decide +kernel
theorem dX8_street_130 : decode cX8_street 130 = .ok (.goto 4, 3) := by decide +kernel
theorem dX8_street_133 : decode cX8_street 133 = .ok (.iconst 0, 1) := by decide +kernel
theorem dX8_street_134 : decode cX8_street 134 = .ok (.iadd, 1) := by decide +kernel
theorem dX8_street_135 : decode cX8_street 135 = .ok (.istore 4, 2) := by decide +kernel
theorem dX8_street_137 : decode cX8_street 137 = .ok (.iinc 5 1, 3) := by decide +kernel
theorem dX8_street_140 : decode cX8_street 140 = .ok (.goto (-98), 3) := by decide +kernel
theorem dX8_street_143 : decode cX8_street 143 = .ok (.iload_n 3, 1) := by decide +kernel
theorem dX8_street_144 : decode cX8_street 144 = .ok (.ifCond .ne 10, 3) := by decide +kernel
theorem dX8_street_147 : decode cX8_street 147 = .ok (.aload_n 0, 1) := by decide +kernel
theorem dX8_street_148 : decode cX8_street 148 = .ok (.invokevirtual 204, 3) := by decide +kernel
theorem dX8_street_151 : decode cX8_street 151 = .ok (.goto 5, 3) := by decide +kernel
theorem dX8_street_154 : decode cX8_street 154 = .ok (.iload 4, 2) := by decide +kernel
theorem dX8_street_156 : decode cX8_street 156 = .ok (.ireturn, 1) := by decide +kernel
theorem gX8_keep_X8_copies : GoodIn wsX8_keep (va_wsS RX8 139 yX8_copies wsX8_copies) := gwS aw_331 aw_332 aw_3 aw_333
theorem dX8_keep_0 : decode cX8_keep 0 = .ok (.aload_n 0, 1) := by decide +kernel
theorem dX8_keep_1 : decode cX8_keep 1 = .ok (.getfield 155, 3) := by decide +kernel
theorem dX8_keep_4 : decode cX8_keep 4 = .ok (.iconst 2, 1) := by decide +kernel
theorem dX8_keep_5 : decode cX8_keep 5 = .ok (.if_icmp .ne 6, 3) := by decide +kernel
theorem dX8_keep_8 : decode cX8_keep 8 = .ok (.bipush (-3), 2) := by decide +kernel
theorem dX8_keep_10 : decode cX8_keep 10 = .ok (.ireturn, 1) := by decide +kernel
theorem dX8_keep_11 : decode cX8_keep 11 = .ok (.aload_n 0, 1) := by decide +kernel
theorem dX8_keep_12 : decode cX8_keep 12 = .ok (.getfield 25, 3) := by decide +kernel
theorem dX8_keep_15 : decode cX8_keep 15 = .ok (.bipush 115, 2) := by decide +kernel
theorem dX8_keep_17 : decode cX8_keep 17 = .ok (.aload_n 0, 1) := by decide +kernel
theorem dX8_keep_18 : decode cX8_keep 18 = .ok (.getfield 155, 3) := by decide +kernel
theorem dX8_keep_21 : decode cX8_keep 21 = .ok (.imul, 1) := by decide +kernel
theorem dX8_keep_22 : decode cX8_keep 22 = .ok (.aload_n 0, 1) := by decide +kernel
theorem dX8_keep_23 : decode cX8_keep 23 = .ok (.getfield 19, 3) := by decide +kernel
theorem dX8_keep_26 : decode cX8_keep 26 = .ok (.iconst 0, 1) := by decide +kernel
theorem dX8_keep_27 : decode cX8_keep 27 = .ok (.bipush 115, 2) := by decide +kernel
theorem dX8_keep_29 : decode cX8_keep 29 = .ok (.invokestatic 139, 3) := by decide +kernel
theorem dX8_keep_32 : decode cX8_keep 32 = .ok (.aload_n 0, 1) := by decide +kernel
theorem dX8_keep_33 : decode cX8_keep 33 = .ok (.dup, 1) := by decide +kernel
theorem dX8_keep_34 : decode cX8_keep 34 = .ok (.getfield 155, 3) := by decide +kernel
theorem dX8_keep_37 : decode cX8_keep 37 = .ok (.iconst 1, 1) := by decide +kernel
theorem dX8_keep_38 : decode cX8_keep 38 = .ok (.iadd, 1) := by decide +kernel
theorem dX8_keep_39 : decode cX8_keep 39 = .ok (.putfield 155, 3) := by decide +kernel
theorem dX8_keep_42 : decode cX8_keep 42 = .ok (.aload_n 0, 1) := by decide +kernel
theorem dX8_keep_43 : decode cX8_keep 43 = .ok (.getfield 155, 3) := by decide +kernel
theorem dX8_keep_46 : decode cX8_keep 46 = .ok (.ireturn, 1) := by decide +kernel
theorem gX8_back_X8_copies : GoodIn wsX8_back (va_wsS RX8 139 yX8_copies wsX8_copies) := gwS aw_331 aw_332 aw_3 aw_333
theorem dX8_back_0 : decode cX8_back 0 = .ok (.aload_n 0, 1) := by decide +kernel
theorem dX8_back_1 : decode cX8_back 1 = .ok (.getfield 155, 3) := by decide +kernel
theorem dX8_back_4 : decode cX8_back 4 = .ok (.ifCond .ne 6, 3) := by decide +kernel
theorem dX8_back_7 : decode cX8_back 7 = .ok (.bipush (-2), 2) := by decide +kernel
theorem dX8_back_9 : decode cX8_back 9 = .ok (.ireturn, 1) := by decide +kernel
theorem dX8_back_10 : decode cX8_back 10 = .ok (.aload_n 0, 1) := by decide +kernel
theorem dX8_back_11 : decode cX8_back 11 = .ok (.dup, 1) := by decide +kernel
theorem dX8_back_12 : decode cX8_back 12 = .ok (.getfield 155, 3) := by decide +kernel
theorem dX8_back_15 : decode cX8_back 15 = .ok (.iconst 1, 1) := by decide +kernel
theorem dX8_back_16 : decode cX8_back 16 = .ok (.isub, 1) := by decide +kernel
theorem dX8_back_17 : decode cX8_back 17 = .ok (.putfield 155, 3) := by decide +kernel
theorem dX8_back_20 : decode cX8_back 20 = .ok (.aload_n 0, 1) := by decide +kernel
theorem dX8_back_21 : decode cX8_back 21 = .ok (.getfield 19, 3) := by decide +kernel
theorem dX8_back_24 : decode cX8_back 24 = .ok (.iconst 0, 1) := by decide +kernel
theorem dX8_back_25 : decode cX8_back 25 = .ok (.aload_n 0, 1) := by decide +kernel
theorem dX8_back_26 : decode cX8_back 26 = .ok (.getfield 25, 3) := by decide +kernel
theorem dX8_back_29 : decode cX8_back 29 = .ok (.bipush 115, 2) := by decide +kernel
theorem dX8_back_31 : decode cX8_back 31 = .ok (.aload_n 0, 1) := by decide +kernel
theorem dX8_back_32 : decode cX8_back 32 = .ok (.getfield 155, 3) := by decide +kernel
theorem dX8_back_35 : decode cX8_back 35 = .ok (.imul, 1) := by decide +kernel
theorem dX8_back_36 : decode cX8_back 36 = .ok (.bipush 115, 2) := by decide +kernel
theorem dX8_back_38 : decode cX8_back 38 = .ok (.invokestatic 139, 3) := by decide +kernel
theorem dX8_back_41 : decode cX8_back 41 = .ok (.aload_n 0, 1) := by decide +kernel
theorem dX8_back_42 : decode cX8_back 42 = .ok (.iconst 0, 1) := by decide +kernel
theorem dX8_back_43 : decode cX8_back 43 = .ok (.putfield 152, 3) := by decide +kernel
theorem dX8_back_46 : decode cX8_back 46 = .ok (.aload_n 0, 1) := by decide +kernel
theorem dX8_back_47 : decode cX8_back 47 = .ok (.getfield 155, 3) := by decide +kernel
theorem dX8_back_50 : decode cX8_back 50 = .ok (.ireturn, 1) := by decide +kernel
theorem dX8_count_0 : decode cX8_count 0 = .ok (.iload_n 1, 1) := by decide +kernel
theorem dX8_count_1 : decode cX8_count 1 = .ok (.tableswitch 98 0 8 #[51, 56, 61, 66, 73, 78, 83, 88, 93], 51) := by decide +kernel
theorem dX8_count_52 : decode cX8_count 52 = .ok (.aload_n 0, 1) := by decide +kernel
theorem dX8_count_53 : decode cX8_count 53 = .ok (.getfield 82, 3) := by decide +kernel
theorem dX8_count_56 : decode cX8_count 56 = .ok (.ireturn, 1) := by decide +kernel
theorem dX8_count_57 : decode cX8_count 57 = .ok (.aload_n 0, 1) := by decide +kernel
theorem dX8_count_58 : decode cX8_count 58 = .ok (.getfield 89, 3) := by decide +kernel
theorem dX8_count_61 : decode cX8_count 61 = .ok (.ireturn, 1) := by decide +kernel
theorem dX8_count_62 : decode cX8_count 62 = .ok (.aload_n 0, 1) := by decide +kernel
theorem dX8_count_63 : decode cX8_count 63 = .ok (.getfield 143, 3) := by decide +kernel
theorem dX8_count_66 : decode cX8_count 66 = .ok (.ireturn, 1) := by decide +kernel
theorem dX8_count_67 : decode cX8_count 67 = .ok (.aload_n 0, 1) := by decide +kernel
theorem dX8_count_68 : decode cX8_count 68 = .ok (.getfield 19, 3) := by decide +kernel
theorem dX8_count_71 : decode cX8_count 71 = .ok (.iconst 0, 1) := by decide +kernel
theorem dX8_count_72 : decode cX8_count 72 = .ok (.iaload, 1) := by decide +kernel
theorem dX8_count_73 : decode cX8_count 73 = .ok (.ireturn, 1) := by decide +kernel
theorem dX8_count_74 : decode cX8_count 74 = .ok (.aload_n 0, 1) := by decide +kernel
theorem dX8_count_75 : decode cX8_count 75 = .ok (.getfield 146, 3) := by decide +kernel
theorem dX8_count_78 : decode cX8_count 78 = .ok (.ireturn, 1) := by decide +kernel
theorem dX8_count_79 : decode cX8_count 79 = .ok (.aload_n 0, 1) := by decide +kernel
theorem dX8_count_80 : decode cX8_count 80 = .ok (.getfield 158, 3) := by decide +kernel
theorem dX8_count_83 : decode cX8_count 83 = .ok (.ireturn, 1) := by decide +kernel
theorem dX8_count_84 : decode cX8_count 84 = .ok (.aload_n 0, 1) := by decide +kernel
theorem dX8_count_85 : decode cX8_count 85 = .ok (.getfield 152, 3) := by decide +kernel
theorem dX8_count_88 : decode cX8_count 88 = .ok (.ireturn, 1) := by decide +kernel
theorem dX8_count_89 : decode cX8_count 89 = .ok (.aload_n 0, 1) := by decide +kernel
theorem dX8_count_90 : decode cX8_count 90 = .ok (.getfield 155, 3) := by decide +kernel
theorem dX8_count_93 : decode cX8_count 93 = .ok (.ireturn, 1) := by decide +kernel
theorem dX8_count_94 : decode cX8_count 94 = .ok (.aload_n 0, 1) := by decide +kernel
theorem dX8_count_95 : decode cX8_count 95 = .ok (.getfield 92, 3) := by decide +kernel
theorem dX8_count_98 : decode cX8_count 98 = .ok (.ireturn, 1) := by decide +kernel
theorem dX8_count_99 : decode cX8_count 99 = .ok (.iconst (-1), 1) := by decide +kernel
theorem dX8_count_100 : decode cX8_count 100 = .ok (.ireturn, 1) := by decide +kernel
