theorem d_DG_readRow_38 : decode b_DG_readRow 38 = .ok (.goto (-36), 3) := by decide +kernel
theorem d_DG_readRow_41 : decode b_DG_readRow 41 = .ok (.return_, 1) := by decide +kernel
theorem d_DG_mixRow_0 : decode b_DG_mixRow 0 = .ok (.aload_n 0, 1) := by decide +kernel
theorem d_DG_mixRow_1 : decode b_DG_mixRow 1 = .ok (.getfield 9, 3) := by decide +kernel
theorem d_DG_mixRow_4 : decode b_DG_mixRow 4 = .ok (.iconst 0, 1) := by decide +kernel
theorem d_DG_mixRow_5 : decode b_DG_mixRow 5 = .ok (.iaload, 1) := by decide +kernel
theorem d_DG_mixRow_6 : decode b_DG_mixRow 6 = .ok (.istore_n 1, 1) := by decide +kernel
theorem d_DG_mixRow_7 : decode b_DG_mixRow 7 = .ok (.aload_n 0, 1) := by decide +kernel
theorem d_DG_mixRow_8 : decode b_DG_mixRow 8 = .ok (.getfield 9, 3) := by decide +kernel
theorem d_DG_mixRow_11 : decode b_DG_mixRow 11 = .ok (.iconst 1, 1) := by decide +kernel
theorem d_DG_mixRow_12 : decode b_DG_mixRow 12 = .ok (.iaload, 1) := by decide +kernel
theorem d_DG_mixRow_13 : decode b_DG_mixRow 13 = .ok (.istore_n 2, 1) := by decide +kernel
theorem d_DG_mixRow_14 : decode b_DG_mixRow 14 = .ok (.aload_n 0, 1) := by decide +kernel
theorem d_DG_mixRow_15 : decode b_DG_mixRow 15 = .ok (.getfield 9, 3) := by decide +kernel
theorem d_DG_mixRow_18 : decode b_DG_mixRow 18 = .ok (.iconst 2, 1) := by decide +kernel
theorem d_DG_mixRow_19 : decode b_DG_mixRow 19 = .ok (.iaload, 1) := by decide +kernel
theorem d_DG_mixRow_20 : decode b_DG_mixRow 20 = .ok (.istore_n 3, 1) := by decide +kernel
theorem d_DG_mixRow_21 : decode b_DG_mixRow 21 = .ok (.aload_n 0, 1) := by decide +kernel
theorem d_DG_mixRow_22 : decode b_DG_mixRow 22 = .ok (.getfield 9, 3) := by decide +kernel
theorem d_DG_mixRow_25 : decode b_DG_mixRow 25 = .ok (.iconst 3, 1) := by decide +kernel
theorem d_DG_mixRow_26 : decode b_DG_mixRow 26 = .ok (.iaload, 1) := by decide +kernel
theorem d_DG_mixRow_27 : decode b_DG_mixRow 27 = .ok (.istore 4, 2) := by decide +kernel
theorem d_DG_mixRow_29 : decode b_DG_mixRow 29 = .ok (.aload_n 0, 1) := by decide +kernel
theorem d_DG_mixRow_30 : decode b_DG_mixRow 30 = .ok (.getfield 9, 3) := by decide +kernel
theorem d_DG_mixRow_33 : decode b_DG_mixRow 33 = .ok (.iconst 4, 1) := by decide +kernel
theorem d_DG_mixRow_34 : decode b_DG_mixRow 34 = .ok (.iaload, 1) := by decide +kernel
theorem d_DG_mixRow_35 : decode b_DG_mixRow 35 = .ok (.istore 5, 2) := by decide +kernel
theorem d_DG_mixRow_37 : decode b_DG_mixRow 37 = .ok (.aload_n 0, 1) := by decide +kernel
theorem d_DG_mixRow_38 : decode b_DG_mixRow 38 = .ok (.getfield 9, 3) := by decide +kernel
theorem d_DG_mixRow_41 : decode b_DG_mixRow 41 = .ok (.iconst 5, 1) := by decide +kernel
theorem d_DG_mixRow_42 : decode b_DG_mixRow 42 = .ok (.iaload, 1) := by decide +kernel
theorem d_DG_mixRow_43 : decode b_DG_mixRow 43 = .ok (.istore 6, 2) := by decide +kernel
theorem d_DG_mixRow_45 : decode b_DG_mixRow 45 = .ok (.aload_n 0, 1) := by decide +kernel
theorem d_DG_mixRow_46 : decode b_DG_mixRow 46 = .ok (.getfield 9, 3) := by decide +kernel
theorem d_DG_mixRow_49 : decode b_DG_mixRow 49 = .ok (.bipush 6, 2) := by decide +kernel
theorem d_DG_mixRow_51 : decode b_DG_mixRow 51 = .ok (.iaload, 1) := by decide +kernel
theorem d_DG_mixRow_52 : decode b_DG_mixRow 52 = .ok (.istore 7, 2) := by decide +kernel
theorem d_DG_mixRow_54 : decode b_DG_mixRow 54 = .ok (.aload_n 0, 1) := by decide +kernel
theorem d_DG_mixRow_55 : decode b_DG_mixRow 55 = .ok (.getfield 9, 3) := by decide +kernel
theorem d_DG_mixRow_58 : decode b_DG_mixRow 58 = .ok (.bipush 7, 2) := by decide +kernel
theorem d_DG_mixRow_60 : decode b_DG_mixRow 60 = .ok (.iaload, 1) := by decide +kernel
theorem d_DG_mixRow_61 : decode b_DG_mixRow 61 = .ok (.istore 8, 2) := by decide +kernel
theorem d_DG_mixRow_63 : decode b_DG_mixRow 63 = .ok (.iconst 0, 1) := by decide +kernel
theorem d_DG_mixRow_64 : decode b_DG_mixRow 64 = .ok (.istore 9, 2) := by decide +kernel
theorem d_DG_mixRow_66 : decode b_DG_mixRow 66 = .ok (.iload 9, 2) := by decide +kernel
theorem d_DG_mixRow_68 : decode b_DG_mixRow 68 = .ok (.bipush 64, 2) := by decide +kernel
theorem d_DG_mixRow_70 : decode b_DG_mixRow 70 = .ok (.if_icmp .ge 98, 3) := by decide +kernel
theorem d_DG_mixRow_73 : decode b_DG_mixRow 73 = .ok (.iload 8, 2) := by decide +kernel
theorem d_DG_mixRow_75 : decode b_DG_mixRow 75 = .ok (.iload 5, 2) := by decide +kernel
theorem d_DG_mixRow_77 : decode b_DG_mixRow 77 = .ok (.invokestatic 54, 3) := by decide +kernel
theorem d_DG_mixRow_80 : decode b_DG_mixRow 80 = .ok (.iadd, 1) := by decide +kernel
theorem d_DG_mixRow_81 : decode b_DG_mixRow 81 = .ok (.iload 5, 2) := by decide +kernel
theorem d_DG_mixRow_83 : decode b_DG_mixRow 83 = .ok (.iload 6, 2) := by decide +kernel
theorem d_DG_mixRow_85 : decode b_DG_mixRow 85 = .ok (.iand, 1) := by decide +kernel
theorem d_DG_mixRow_86 : decode b_DG_mixRow 86 = .ok (.iload 5, 2) := by decide +kernel
theorem d_DG_mixRow_88 : decode b_DG_mixRow 88 = .ok (.iconst (-1), 1) := by decide +kernel
theorem d_DG_mixRow_89 : decode b_DG_mixRow 89 = .ok (.ixor, 1) := by decide +kernel
theorem d_DG_mixRow_90 : decode b_DG_mixRow 90 = .ok (.iload 7, 2) := by decide +kernel
theorem d_DG_mixRow_92 : decode b_DG_mixRow 92 = .ok (.iand, 1) := by decide +kernel
theorem d_DG_mixRow_93 : decode b_DG_mixRow 93 = .ok (.ixor, 1) := by decide +kernel
theorem d_DG_mixRow_94 : decode b_DG_mixRow 94 = .ok (.iadd, 1) := by decide +kernel
theorem d_DG_mixRow_95 : decode b_DG_mixRow 95 = .ok (.getstatic 57, 3) := by decide +kernel
theorem d_DG_mixRow_98 : decode b_DG_mixRow 98 = .ok (.iload 9, 2) := by decide +kernel
theorem d_DG_mixRow_100 : decode b_DG_mixRow 100 = .ok (.iaload, 1) := by decide +kernel
theorem d_DG_mixRow_101 : decode b_DG_mixRow 101 = .ok (.iadd, 1) := by decide +kernel
theorem d_DG_mixRow_102 : decode b_DG_mixRow 102 = .ok (.aload_n 0, 1) := by decide +kernel
theorem d_DG_mixRow_103 : decode b_DG_mixRow 103 = .ok (.getfield 13, 3) := by decide +kernel
theorem d_DG_mixRow_106 : decode b_DG_mixRow 106 = .ok (.iload 9, 2) := by decide +kernel
theorem d_DG_mixRow_108 : decode b_DG_mixRow 108 = .ok (.iaload, 1) := by decide +kernel
theorem d_DG_mixRow_109 : decode b_DG_mixRow 109 = .ok (.iadd, 1) := by decide +kernel
theorem d_DG_mixRow_110 : decode b_DG_mixRow 110 = .ok (.istore 10, 2) := by decide +kernel
theorem d_DG_mixRow_112 : decode b_DG_mixRow 112 = .ok (.iload_n 1, 1) := by decide +kernel
theorem d_DG_mixRow_113 : decode b_DG_mixRow 113 = .ok (.invokestatic 60, 3) := by decide +kernel
theorem d_DG_mixRow_116 : decode b_DG_mixRow 116 = .ok (.iload_n 1, 1) := by decide +kernel
theorem d_DG_mixRow_117 : decode b_DG_mixRow 117 = .ok (.iload_n 2, 1) := by decide +kernel
theorem d_DG_mixRow_118 : decode b_DG_mixRow 118 = .ok (.iand, 1) := by decide +kernel
theorem d_DG_mixRow_119 : decode b_DG_mixRow 119 = .ok (.iload_n 1, 1) := by decide +kernel
theorem d_DG_mixRow_120 : decode b_DG_mixRow 120 = .ok (.iload_n 3, 1) := by decide +kernel
theorem d_DG_mixRow_121 : decode b_DG_mixRow 121 = .ok (.iand, 1) := by decide +kernel
theorem d_DG_mixRow_122 : decode b_DG_mixRow 122 = .ok (.ixor, 1) := by decide +kernel
theorem d_DG_mixRow_123 : decode b_DG_mixRow 123 = .ok (.iload_n 2, 1) := by decide +kernel
theorem d_DG_mixRow_124 : decode b_DG_mixRow 124 = .ok (.iload_n 3, 1) := by decide +kernel
theorem d_DG_mixRow_125 : decode b_DG_mixRow 125 = .ok (.iand, 1) := by decide +kernel
theorem d_DG_mixRow_126 : decode b_DG_mixRow 126 = .ok (.ixor, 1) := by decide +kernel
theorem d_DG_mixRow_127 : decode b_DG_mixRow 127 = .ok (.iadd, 1) := by decide +kernel
theorem d_DG_mixRow_128 : decode b_DG_mixRow 128 = .ok (.istore 11, 2) := by decide +kernel
theorem d_DG_mixRow_130 : decode b_DG_mixRow 130 = .ok (.iload 7, 2) := by decide +kernel
theorem d_DG_mixRow_132 : decode b_DG_mixRow 132 = .ok (.istore 8, 2) := by decide +kernel
theorem d_DG_mixRow_134 : decode b_DG_mixRow 134 = .ok (.iload 6, 2) := by decide +kernel
theorem d_DG_mixRow_136 : decode b_DG_mixRow 136 = .ok (.istore 7, 2) := by decide +kernel
theorem d_DG_mixRow_138 : decode b_DG_mixRow 138 = .ok (.iload 5, 2) := by decide +kernel
theorem d_DG_mixRow_140 : decode b_DG_mixRow 140 = .ok (.istore 6, 2) := by decide +kernel
theorem d_DG_mixRow_142 : decode b_DG_mixRow 142 = .ok (.iload 4, 2) := by decide +kernel
theorem d_DG_mixRow_144 : decode b_DG_mixRow 144 = .ok (.iload 10, 2) := by decide +kernel
theorem d_DG_mixRow_146 : decode b_DG_mixRow 146 = .ok (.iadd, 1) := by decide +kernel
theorem d_DG_mixRow_147 : decode b_DG_mixRow 147 = .ok (.istore 5, 2) := by decide +kernel
theorem d_DG_mixRow_149 : decode b_DG_mixRow 149 = .ok (.iload_n 3, 1) := by decide +kernel
theorem d_DG_mixRow_150 : decode b_DG_mixRow 150 = .ok (.istore 4, 2) := by decide +kernel
theorem d_DG_mixRow_152 : decode b_DG_mixRow 152 = .ok (.iload_n 2, 1) := by decide +kernel
theorem d_DG_mixRow_153 : decode b_DG_mixRow 153 = .ok (.istore_n 3, 1) := by decide +kernel
theorem d_DG_mixRow_154 : decode b_DG_mixRow 154 = .ok (.iload_n 1, 1) := by decide +kernel
theorem d_DG_mixRow_155 : decode b_DG_mixRow 155 = .ok (.istore_n 2, 1) := by decide +kernel
theorem d_DG_mixRow_156 : decode b_DG_mixRow 156 = .ok (.iload 10, 2) := by decide +kernel
theorem d_DG_mixRow_158 : decode b_DG_mixRow 158 = .ok (.iload 11, 2) := by decide +kernel
theorem d_DG_mixRow_160 : decode b_DG_mixRow 160 = .ok (.iadd, 1) := by decide +kernel
theorem d_DG_mixRow_161 : decode b_DG_mixRow 161 = .ok (.istore_n 1, 1) := by decide +kernel
theorem d_DG_mixRow_162 : decode b_DG_mixRow 162 = .ok (.iinc 9 1, 3) := by decide +kernel
theorem d_DG_mixRow_165 : decode b_DG_mixRow 165 = .ok (.goto (-99), 3) := by decide +kernel
theorem d_DG_mixRow_168 : decode b_DG_mixRow 168 = .ok (.aload_n 0, 1) := by decide +kernel
theorem d_DG_mixRow_169 : decode b_DG_mixRow 169 = .ok (.getfield 9, 3) := by decide +kernel
theorem d_DG_mixRow_172 : decode b_DG_mixRow 172 = .ok (.iconst 0, 1) := by decide +kernel
theorem d_DG_mixRow_173 : decode b_DG_mixRow 173 = .ok (.dup2, 1) := by decide +kernel
theorem d_DG_mixRow_174 : decode b_DG_mixRow 174 = .ok (.iaload, 1) := by decide +kernel
theorem d_DG_mixRow_175 : decode b_DG_mixRow 175 = .ok (.iload_n 1, 1) := by decide +kernel
theorem d_DG_mixRow_176 : decode b_DG_mixRow 176 = .ok (.iadd, 1) := by decide +kernel
theorem d_DG_mixRow_177 : decode b_DG_mixRow 177 = .ok (.iastore, 1) := by decide +kernel
theorem d_DG_mixRow_178 : decode b_DG_mixRow 178 = .ok (.aload_n 0, 1) := by decide +kernel
theorem d_DG_mixRow_179 : decode b_DG_mixRow 179 = .ok (.getfield 9, 3) := by decide +kernel
theorem d_DG_mixRow_182 : decode b_DG_mixRow 182 = .ok (.iconst 1, 1) := by decide +kernel
theorem d_DG_mixRow_183 : decode b_DG_mixRow 183 = .ok (.dup2, 1) := by decide +kernel
theorem d_DG_mixRow_184 : decode b_DG_mixRow 184 = .ok (.iaload, 1) := by decide +kernel
theorem d_DG_mixRow_185 : decode b_DG_mixRow 185 = .ok (.iload_n 2, 1) := by decide +kernel
theorem d_DG_mixRow_186 : decode b_DG_mixRow 186 = .ok (.iadd, 1) := by decide +kernel
theorem d_DG_mixRow_187 : decode b_DG_mixRow 187 = .ok (.iastore, 1) := by decide +kernel
theorem d_DG_mixRow_188 : decode b_DG_mixRow 188 = .ok (.aload_n 0, 1) := by decide +kernel
theorem d_DG_mixRow_189 : decode b_DG_mixRow 189 = .ok (.getfield 9, 3) := by decide +kernel
theorem d_DG_mixRow_192 : decode b_DG_mixRow 192 = .ok (.iconst 2, 1) := by decide +kernel
theorem d_DG_mixRow_193 : decode b_DG_mixRow 193 = .ok (.dup2, 1) := by decide +kernel
theorem d_DG_mixRow_194 : decode b_DG_mixRow 194 = .ok (.iaload, 1) := by decide +kernel
theorem d_DG_mixRow_195 : decode b_DG_mixRow 195 = .ok (.iload_n 3, 1) := by decide +kernel
theorem d_DG_mixRow_196 : decode b_DG_mixRow 196 = .ok (.iadd, 1) := by decide +kernel
theorem d_DG_mixRow_197 : decode b_DG_mixRow 197 = .ok (.iastore, 1) := by decide +kernel
theorem d_DG_mixRow_198 : decode b_DG_mixRow 198 = .ok (.aload_n 0, 1) := by decide +kernel
theorem d_DG_mixRow_199 : decode b_DG_mixRow 199 = .ok (.getfield 9, 3) := by decide +kernel
theorem d_DG_mixRow_202 : decode b_DG_mixRow 202 = .ok (.iconst 3, 1) := by decide +kernel
theorem d_DG_mixRow_203 : decode b_DG_mixRow 203 = .ok (.dup2, 1) := by decide +kernel
theorem d_DG_mixRow_204 : decode b_DG_mixRow 204 = .ok (.iaload, 1) := by decide +kernel
theorem d_DG_mixRow_205 : decode b_DG_mixRow 205 = .ok (.iload 4, 2) := by decide +kernel
theorem d_DG_mixRow_207 : decode b_DG_mixRow 207 = .ok (.iadd, 1) := by decide +kernel
theorem d_DG_mixRow_208 : decode b_DG_mixRow 208 = .ok (.iastore, 1) := by decide +kernel
theorem d_DG_mixRow_209 : decode b_DG_mixRow 209 = .ok (.aload_n 0, 1) := by decide +kernel
theorem d_DG_mixRow_210 : decode b_DG_mixRow 210 = .ok (.getfield 9, 3) := by decide +kernel
theorem d_DG_mixRow_213 : decode b_DG_mixRow 213 = .ok (.iconst 4, 1) := by decide +kernel
theorem d_DG_mixRow_214 : decode b_DG_mixRow 214 = .ok (.dup2, 1) := by decide +kernel
theorem d_DG_mixRow_215 : decode b_DG_mixRow 215 = .ok (.iaload, 1) := by decide +kernel
theorem d_DG_mixRow_216 : decode b_DG_mixRow 216 = .ok (.iload 5, 2) := by decide +kernel
theorem d_DG_mixRow_218 : decode b_DG_mixRow 218 = .ok (.iadd, 1) := by decide +kernel
theorem d_DG_mixRow_219 : decode b_DG_mixRow 219 = .ok (.iastore, 1) := by decide +kernel
theorem d_DG_mixRow_220 : decode b_DG_mixRow 220 = .ok (.aload_n 0, 1) := by decide +kernel
theorem d_DG_mixRow_221 : decode b_DG_mixRow 221 = .ok (.getfield 9, 3) := by decide +kernel
theorem d_DG_mixRow_224 : decode b_DG_mixRow 224 = .ok (.iconst 5, 1) := by decide +kernel
theorem d_DG_mixRow_225 : decode b_DG_mixRow 225 = .ok (.dup2, 1) := by decide +kernel
theorem d_DG_mixRow_226 : decode b_DG_mixRow 226 = .ok (.iaload, 1) := by decide +kernel
theorem d_DG_mixRow_227 : decode b_DG_mixRow 227 = .ok (.iload 6, 2) := by decide +kernel
theorem d_DG_mixRow_229 : decode b_DG_mixRow 229 = .ok (.iadd, 1) := by decide +kernel
theorem d_DG_mixRow_230 : decode b_DG_mixRow 230 = .ok (.iastore, 1) := by decide +kernel
theorem d_DG_mixRow_231 : decode b_DG_mixRow 231 = .ok (.aload_n 0, 1) := by decide +kernel
theorem d_DG_mixRow_232 : decode b_DG_mixRow 232 = .ok (.getfield 9, 3) := by decide +kernel
theorem d_DG_mixRow_235 : decode b_DG_mixRow 235 = .ok (.bipush 6, 2) := by decide +kernel
theorem d_DG_mixRow_237 : decode b_DG_mixRow 237 = .ok (.dup2, 1) := by decide +kernel
theorem d_DG_mixRow_238 : decode b_DG_mixRow 238 = .ok (.iaload, 1) := by decide +kernel
theorem d_DG_mixRow_239 : decode b_DG_mixRow 239 = .ok (.iload 7, 2) := by decide +kernel
theorem d_DG_mixRow_241 : decode b_DG_mixRow 241 = .ok (.iadd, 1) := by decide +kernel
theorem d_DG_mixRow_242 : decode b_DG_mixRow 242 = .ok (.iastore, 1) := by decide +kernel
theorem d_DG_mixRow_243 : decode b_DG_mixRow 243 = .ok (.aload_n 0, 1) := by decide +kernel
theorem d_DG_mixRow_244 : decode b_DG_mixRow 244 = .ok (.getfield 9, 3) := by decide +kernel
theorem d_DG_mixRow_247 : decode b_DG_mixRow 247 = .ok (.bipush 7, 2) := by decide +kernel
theorem d_DG_mixRow_249 : decode b_DG_mixRow 249 = .ok (.dup2, 1) := by decide +kernel
theorem d_DG_mixRow_250 : decode b_DG_mixRow 250 = .ok (.iaload, 1) := by decide +kernel
theorem d_DG_mixRow_251 : decode b_DG_mixRow 251 = .ok (.iload 8, 2) := by decide +kernel
theorem d_DG_mixRow_253 : decode b_DG_mixRow 253 = .ok (.iadd, 1) := by decide +kernel
theorem d_DG_mixRow_254 : decode b_DG_mixRow 254 = .ok (.iastore, 1) := by decide +kernel
theorem d_DG_mixRow_255 : decode b_DG_mixRow 255 = .ok (.return_, 1) := by decide +kernel
theorem d_DG_spreadRow_0 : decode b_DG_spreadRow 0 = .ok (.bipush 16, 2) := by decide +kernel
theorem d_DG_spreadRow_2 : decode b_DG_spreadRow 2 = .ok (.istore_n 1, 1) := by decide +kernel
theorem d_DG_spreadRow_3 : decode b_DG_spreadRow 3 = .ok (.iload_n 1, 1) := by decide +kernel
theorem d_DG_spreadRow_4 : decode b_DG_spreadRow 4 = .ok (.bipush 64, 2) := by decide +kernel
theorem d_DG_spreadRow_6 : decode b_DG_spreadRow 6 = .ok (.if_icmp .ge 100, 3) := by decide +kernel
theorem d_DG_spreadRow_9 : decode b_DG_spreadRow 9 = .ok (.aload_n 0, 1) := by decide +kernel
theorem d_DG_spreadRow_10 : decode b_DG_spreadRow 10 = .ok (.getfield 13, 3) := by decide +kernel
theorem d_DG_spreadRow_13 : decode b_DG_spreadRow 13 = .ok (.iload_n 1, 1) := by decide +kernel
theorem d_DG_spreadRow_14 : decode b_DG_spreadRow 14 = .ok (.bipush 15, 2) := by decide +kernel
theorem d_DG_spreadRow_16 : decode b_DG_spreadRow 16 = .ok (.isub, 1) := by decide +kernel
theorem d_DG_spreadRow_17 : decode b_DG_spreadRow 17 = .ok (.iaload, 1) := by decide +kernel
theorem d_DG_spreadRow_18 : decode b_DG_spreadRow 18 = .ok (.istore_n 2, 1) := by decide +kernel
theorem d_DG_spreadRow_19 : decode b_DG_spreadRow 19 = .ok (.iload_n 2, 1) := by decide +kernel
theorem d_DG_spreadRow_20 : decode b_DG_spreadRow 20 = .ok (.bipush 7, 2) := by decide +kernel
theorem d_DG_spreadRow_22 : decode b_DG_spreadRow 22 = .ok (.invokestatic 63, 3) := by decide +kernel
theorem d_DG_spreadRow_25 : decode b_DG_spreadRow 25 = .ok (.iload_n 2, 1) := by decide +kernel
theorem d_DG_spreadRow_26 : decode b_DG_spreadRow 26 = .ok (.bipush 18, 2) := by decide +kernel
theorem d_DG_spreadRow_28 : decode b_DG_spreadRow 28 = .ok (.invokestatic 63, 3) := by decide +kernel
theorem d_DG_spreadRow_31 : decode b_DG_spreadRow 31 = .ok (.ixor, 1) := by decide +kernel
theorem d_DG_spreadRow_32 : decode b_DG_spreadRow 32 = .ok (.iload_n 2, 1) := by decide +kernel
theorem d_DG_spreadRow_33 : decode b_DG_spreadRow 33 = .ok (.iconst 3, 1) := by decide +kernel
theorem d_DG_spreadRow_34 : decode b_DG_spreadRow 34 = .ok (.iushr, 1) := by decide +kernel
theorem d_DG_spreadRow_35 : decode b_DG_spreadRow 35 = .ok (.ixor, 1) := by decide +kernel
theorem d_DG_spreadRow_36 : decode b_DG_spreadRow 36 = .ok (.istore_n 3, 1) := by decide +kernel
theorem d_DG_spreadRow_37 : decode b_DG_spreadRow 37 = .ok (.aload_n 0, 1) := by decide +kernel
theorem d_DG_spreadRow_38 : decode b_DG_spreadRow 38 = .ok (.getfield 13, 3) := by decide +kernel
theorem d_DG_spreadRow_41 : decode b_DG_spreadRow 41 = .ok (.iload_n 1, 1) := by decide +kernel
theorem d_DG_spreadRow_42 : decode b_DG_spreadRow 42 = .ok (.iconst 2, 1) := by decide +kernel
theorem d_DG_spreadRow_43 : decode b_DG_spreadRow 43 = .ok (.isub, 1) := by decide +kernel
theorem d_DG_spreadRow_44 : decode b_DG_spreadRow 44 = .ok (.iaload, 1) := by decide +kernel
theorem d_DG_spreadRow_45 : decode b_DG_spreadRow 45 = .ok (.istore 4, 2) := by decide +kernel
theorem d_DG_spreadRow_47 : decode b_DG_spreadRow 47 = .ok (.iload 4, 2) := by decide +kernel
theorem d_DG_spreadRow_49 : decode b_DG_spreadRow 49 = .ok (.bipush 17, 2) := by decide +kernel
theorem d_DG_spreadRow_51 : decode b_DG_spreadRow 51 = .ok (.invokestatic 63, 3) := by decide +kernel
theorem d_DG_spreadRow_54 : decode b_DG_spreadRow 54 = .ok (.iload 4, 2) := by decide +kernel
theorem d_DG_spreadRow_56 : decode b_DG_spreadRow 56 = .ok (.bipush 19, 2) := by decide +kernel
theorem d_DG_spreadRow_58 : decode b_DG_spreadRow 58 = .ok (.invokestatic 63, 3) := by decide +kernel
theorem d_DG_spreadRow_61 : decode b_DG_spreadRow 61 = .ok (.ixor, 1) := by decide +kernel
theorem d_DG_spreadRow_62 : decode b_DG_spreadRow 62 = .ok (.iload 4, 2) := by decide +kernel
theorem d_DG_spreadRow_64 : decode b_DG_spreadRow 64 = .ok (.bipush 10, 2) := by decide +kernel
theorem d_DG_spreadRow_66 : decode b_DG_spreadRow 66 = .ok (.iushr, 1) := by decide +kernel
theorem d_DG_spreadRow_67 : decode b_DG_spreadRow 67 = .ok (.ixor, 1) := by decide +kernel
theorem d_DG_spreadRow_68 : decode b_DG_spreadRow 68 = .ok (.istore 5, 2) := by decide +kernel
theorem d_DG_spreadRow_70 : decode b_DG_spreadRow 70 = .ok (.aload_n 0, 1) := by decide +kernel
theorem d_DG_spreadRow_71 : decode b_DG_spreadRow 71 = .ok (.getfield 13, 3) := by decide +kernel
theorem d_DG_spreadRow_74 : decode b_DG_spreadRow 74 = .ok (.iload_n 1, 1) := by decide +kernel
theorem d_DG_spreadRow_75 : decode b_DG_spreadRow 75 = .ok (.aload_n 0, 1) := by decide +kernel
theorem d_DG_spreadRow_76 : decode b_DG_spreadRow 76 = .ok (.getfield 13, 3) := by decide +kernel
theorem d_DG_spreadRow_79 : decode b_DG_spreadRow 79 = .ok (.iload_n 1, 1) := by decide +kernel
theorem d_DG_spreadRow_80 : decode b_DG_spreadRow 80 = .ok (.bipush 16, 2) := by decide +kernel
theorem d_DG_spreadRow_82 : decode b_DG_spreadRow 82 = .ok (.isub, 1) := by decide +kernel
theorem d_DG_spreadRow_83 : decode b_DG_spreadRow 83 = .ok (.iaload, 1) := by decide +kernel
theorem d_DG_spreadRow_84 : decode b_DG_spreadRow 84 = .ok (.iload_n 3, 1) := by decide +kernel
theorem d_DG_spreadRow_85 : decode b_DG_spreadRow 85 = .ok (.iadd, 1) := by decide +kernel
theorem d_DG_spreadRow_86 : decode b_DG_spreadRow 86 = .ok (.aload_n 0, 1) := by decide +kernel
theorem d_DG_spreadRow_87 : decode b_DG_spreadRow 87 = .ok (.getfield 13, 3) := by decide +kernel
theorem d_DG_spreadRow_90 : decode b_DG_spreadRow 90 = .ok (.iload_n 1, 1) := by decide +kernel
theorem d_DG_spreadRow_91 : decode b_DG_spreadRow 91 = .ok (.bipush 7, 2) := by decide +kernel
theorem d_DG_spreadRow_93 : decode b_DG_spreadRow 93 = .ok (.isub, 1) := by decide +kernel
theorem d_DG_spreadRow_94 : decode b_DG_spreadRow 94 = .ok (.iaload, 1) := by decide +kernel
theorem d_DG_spreadRow_95 : decode b_DG_spreadRow 95 = .ok (.iadd, 1) := by decide +kernel
theorem d_DG_spreadRow_96 : decode b_DG_spreadRow 96 = .ok (.iload 5, 2) := by decide +kernel
theorem d_DG_spreadRow_98 : decode b_DG_spreadRow 98 = .ok (.iadd, 1) := by decide +kernel
theorem d_DG_spreadRow_99 : decode b_DG_spreadRow 99 = .ok (.iastore, 1) := by decide +kernel
theorem d_DG_spreadRow_100 : decode b_DG_spreadRow 100 = .ok (.iinc 1 1, 3) := by decide +kernel
theorem d_DG_spreadRow_103 : decode b_DG_spreadRow 103 = .ok (.goto (-100), 3) := by decide +kernel
theorem d_DG_spreadRow_106 : decode b_DG_spreadRow 106 = .ok (.return_, 1) := by decide +kernel
theorem d_DG_turnedE_0 : decode b_DG_turnedE 0 = .ok (.iload_n 0, 1) := by decide +kernel
theorem d_DG_turnedE_1 : decode b_DG_turnedE 1 = .ok (.bipush 6, 2) := by decide +kernel
theorem d_DG_turnedE_3 : decode b_DG_turnedE 3 = .ok (.invokestatic 63, 3) := by decide +kernel
theorem d_DG_turnedE_6 : decode b_DG_turnedE 6 = .ok (.iload_n 0, 1) := by decide +kernel
theorem d_DG_turnedE_7 : decode b_DG_turnedE 7 = .ok (.bipush 11, 2) := by decide +kernel
theorem d_DG_turnedE_9 : decode b_DG_turnedE 9 = .ok (.invokestatic 63, 3) := by decide +kernel
theorem d_DG_turnedE_12 : decode b_DG_turnedE 12 = .ok (.ixor, 1) := by decide +kernel
theorem d_DG_turnedE_13 : decode b_DG_turnedE 13 = .ok (.iload_n 0, 1) := by decide +kernel
theorem d_DG_turnedE_14 : decode b_DG_turnedE 14 = .ok (.bipush 25, 2) := by decide +kernel
theorem d_DG_turnedE_16 : decode b_DG_turnedE 16 = .ok (.invokestatic 63, 3) := by decide +kernel
theorem d_DG_turnedE_19 : decode b_DG_turnedE 19 = .ok (.ixor, 1) := by decide +kernel
theorem d_DG_turnedE_20 : decode b_DG_turnedE 20 = .ok (.ireturn, 1) := by decide +kernel
theorem d_DG_turnedA_0 : decode b_DG_turnedA 0 = .ok (.iload_n 0, 1) := by decide +kernel
theorem d_DG_turnedA_1 : decode b_DG_turnedA 1 = .ok (.iconst 2, 1) := by decide +kernel
theorem d_DG_turnedA_2 : decode b_DG_turnedA 2 = .ok (.invokestatic 63, 3) := by decide +kernel
theorem d_DG_turnedA_5 : decode b_DG_turnedA 5 = .ok (.iload_n 0, 1) := by decide +kernel
theorem d_DG_turnedA_6 : decode b_DG_turnedA 6 = .ok (.bipush 13, 2) := by decide +kernel
theorem d_DG_turnedA_8 : decode b_DG_turnedA 8 = .ok (.invokestatic 63, 3) := by decide +kernel
theorem d_DG_turnedA_11 : decode b_DG_turnedA 11 = .ok (.ixor, 1) := by decide +kernel
theorem d_DG_turnedA_12 : decode b_DG_turnedA 12 = .ok (.iload_n 0, 1) := by decide +kernel
theorem d_DG_turnedA_13 : decode b_DG_turnedA 13 = .ok (.bipush 22, 2) := by decide +kernel
theorem d_DG_turnedA_15 : decode b_DG_turnedA 15 = .ok (.invokestatic 63, 3) := by decide +kernel
theorem d_DG_turnedA_18 : decode b_DG_turnedA 18 = .ok (.ixor, 1) := by decide +kernel
theorem d_DG_turnedA_19 : decode b_DG_turnedA 19 = .ok (.ireturn, 1) := by decide +kernel
theorem d_DG_ror_0 : decode b_DG_ror 0 = .ok (.iload_n 0, 1) := by decide +kernel
theorem d_DG_ror_1 : decode b_DG_ror 1 = .ok (.iload_n 1, 1) := by decide +kernel
theorem d_DG_ror_2 : decode b_DG_ror 2 = .ok (.iushr, 1) := by decide +kernel
theorem d_DG_ror_3 : decode b_DG_ror 3 = .ok (.iload_n 0, 1) := by decide +kernel
theorem d_DG_ror_4 : decode b_DG_ror 4 = .ok (.bipush 32, 2) := by decide +kernel
theorem d_DG_ror_6 : decode b_DG_ror 6 = .ok (.iload_n 1, 1) := by decide +kernel
theorem d_DG_ror_7 : decode b_DG_ror 7 = .ok (.isub, 1) := by decide +kernel
theorem d_DG_ror_8 : decode b_DG_ror 8 = .ok (.ishl, 1) := by decide +kernel
theorem d_DG_ror_9 : decode b_DG_ror 9 = .ok (.ior, 1) := by decide +kernel
theorem d_DG_ror_10 : decode b_DG_ror 10 = .ok (.ireturn, 1) := by decide +kernel
theorem d_KY_init_0 : decode b_KY_init 0 = .ok (.aload_n 0, 1) := by decide +kernel
theorem d_KY_init_1 : decode b_KY_init 1 = .ok (.invokespecial 1, 3) := by decide +kernel
theorem d_KY_init_4 : decode b_KY_init 4 = .ok (.aload_n 0, 1) := by decide +kernel
theorem d_KY_init_5 : decode b_KY_init 5 = .ok (.bipush 16, 2) := by decide +kernel
theorem d_KY_init_7 : decode b_KY_init 7 = .ok (.newarray .int, 2) := by decide +kernel
theorem d_KY_init_9 : decode b_KY_init 9 = .ok (.putfield 9, 3) := by decide +kernel
theorem d_KY_init_12 : decode b_KY_init 12 = .ok (.return_, 1) := by decide +kernel
theorem d_KY_word_0 : decode b_KY_word 0 = .ok (.iload_n 1, 1) := by decide +kernel
theorem d_KY_word_1 : decode b_KY_word 1 = .ok (.invokestatic 13, 3) := by decide +kernel
theorem d_KY_word_4 : decode b_KY_word 4 = .ok (.aload_n 0, 1) := by decide +kernel
theorem d_KY_word_5 : decode b_KY_word 5 = .ok (.getfield 9, 3) := by decide +kernel
theorem d_KY_word_8 : decode b_KY_word 8 = .ok (.iload_n 1, 1) := by decide +kernel
theorem d_KY_word_9 : decode b_KY_word 9 = .ok (.iaload, 1) := by decide +kernel
theorem d_KY_word_10 : decode b_KY_word 10 = .ok (.ireturn, 1) := by decide +kernel
theorem d_KY_change_0 : decode b_KY_change 0 = .ok (.iload_n 1, 1) := by decide +kernel
theorem d_KY_change_1 : decode b_KY_change 1 = .ok (.invokestatic 13, 3) := by decide +kernel
theorem d_KY_change_4 : decode b_KY_change 4 = .ok (.aload_n 0, 1) := by decide +kernel
theorem d_KY_change_5 : decode b_KY_change 5 = .ok (.getfield 9, 3) := by decide +kernel
theorem d_KY_change_8 : decode b_KY_change 8 = .ok (.iload_n 1, 1) := by decide +kernel
theorem d_KY_change_9 : decode b_KY_change 9 = .ok (.iload_n 2, 1) := by decide +kernel
theorem d_KY_change_10 : decode b_KY_change 10 = .ok (.iastore, 1) := by decide +kernel
theorem d_KY_change_11 : decode b_KY_change 11 = .ok (.return_, 1) := by decide +kernel
theorem d_KY_copyFrom_0 : decode b_KY_copyFrom 0 = .ok (.iconst 0, 1) := by decide +kernel
theorem d_KY_copyFrom_1 : decode b_KY_copyFrom 1 = .ok (.istore_n 2, 1) := by decide +kernel
theorem d_KY_copyFrom_2 : decode b_KY_copyFrom 2 = .ok (.iload_n 2, 1) := by decide +kernel
theorem d_KY_copyFrom_3 : decode b_KY_copyFrom 3 = .ok (.bipush 16, 2) := by decide +kernel
theorem d_KY_copyFrom_5 : decode b_KY_copyFrom 5 = .ok (.if_icmp .ge 21, 3) := by decide +kernel
theorem d_KY_copyFrom_8 : decode b_KY_copyFrom 8 = .ok (.aload_n 0, 1) := by decide +kernel
theorem d_KY_copyFrom_9 : decode b_KY_copyFrom 9 = .ok (.getfield 9, 3) := by decide +kernel
theorem d_KY_copyFrom_12 : decode b_KY_copyFrom 12 = .ok (.iload_n 2, 1) := by decide +kernel
theorem d_KY_copyFrom_13 : decode b_KY_copyFrom 13 = .ok (.aload_n 1, 1) := by decide +kernel
theorem d_KY_copyFrom_14 : decode b_KY_copyFrom 14 = .ok (.getfield 9, 3) := by decide +kernel
theorem d_KY_copyFrom_17 : decode b_KY_copyFrom 17 = .ok (.iload_n 2, 1) := by decide +kernel
theorem d_KY_copyFrom_18 : decode b_KY_copyFrom 18 = .ok (.iaload, 1) := by decide +kernel
theorem d_KY_copyFrom_19 : decode b_KY_copyFrom 19 = .ok (.iastore, 1) := by decide +kernel
theorem d_KY_copyFrom_20 : decode b_KY_copyFrom 20 = .ok (.iinc 2 1, 3) := by decide +kernel
theorem d_KY_copyFrom_23 : decode b_KY_copyFrom 23 = .ok (.goto (-21), 3) := by decide +kernel
theorem d_KY_copyFrom_26 : decode b_KY_copyFrom 26 = .ok (.return_, 1) := by decide +kernel
theorem d_KY_clear_0 : decode b_KY_clear 0 = .ok (.iconst 0, 1) := by decide +kernel
theorem d_KY_clear_1 : decode b_KY_clear 1 = .ok (.istore_n 1, 1) := by decide +kernel
theorem d_KY_clear_2 : decode b_KY_clear 2 = .ok (.iload_n 1, 1) := by decide +kernel
theorem d_KY_clear_3 : decode b_KY_clear 3 = .ok (.bipush 16, 2) := by decide +kernel
theorem d_KY_clear_5 : decode b_KY_clear 5 = .ok (.if_icmp .ge 16, 3) := by decide +kernel
theorem d_KY_clear_8 : decode b_KY_clear 8 = .ok (.aload_n 0, 1) := by decide +kernel
theorem d_KY_clear_9 : decode b_KY_clear 9 = .ok (.getfield 9, 3) := by decide +kernel
theorem d_KY_clear_12 : decode b_KY_clear 12 = .ok (.iload_n 1, 1) := by decide +kernel
theorem d_KY_clear_13 : decode b_KY_clear 13 = .ok (.iconst 0, 1) := by decide +kernel
theorem d_KY_clear_14 : decode b_KY_clear 14 = .ok (.iastore, 1) := by decide +kernel
theorem d_KY_clear_15 : decode b_KY_clear 15 = .ok (.iinc 1 1, 3) := by decide +kernel
theorem d_KY_clear_18 : decode b_KY_clear 18 = .ok (.goto (-16), 3) := by decide +kernel
theorem d_KY_clear_21 : decode b_KY_clear 21 = .ok (.return_, 1) := by decide +kernel
theorem d_KY_countUp_0 : decode b_KY_countUp 0 = .ok (.bipush 7, 2) := by decide +kernel
theorem d_KY_countUp_2 : decode b_KY_countUp 2 = .ok (.istore_n 1, 1) := by decide +kernel
theorem d_KY_countUp_3 : decode b_KY_countUp 3 = .ok (.iload_n 1, 1) := by decide +kernel
theorem d_KY_countUp_4 : decode b_KY_countUp 4 = .ok (.iconst 4, 1) := by decide +kernel
theorem d_KY_countUp_5 : decode b_KY_countUp 5 = .ok (.if_icmp .lt 29, 3) := by decide +kernel
theorem d_KY_countUp_8 : decode b_KY_countUp 8 = .ok (.aload_n 0, 1) := by decide +kernel
theorem d_KY_countUp_9 : decode b_KY_countUp 9 = .ok (.getfield 9, 3) := by decide +kernel
theorem d_KY_countUp_12 : decode b_KY_countUp 12 = .ok (.iload_n 1, 1) := by decide +kernel
theorem d_KY_countUp_13 : decode b_KY_countUp 13 = .ok (.dup2, 1) := by decide +kernel
theorem d_KY_countUp_14 : decode b_KY_countUp 14 = .ok (.iaload, 1) := by decide +kernel
theorem d_KY_countUp_15 : decode b_KY_countUp 15 = .ok (.iconst 1, 1) := by decide +kernel
theorem d_KY_countUp_16 : decode b_KY_countUp 16 = .ok (.iadd, 1) := by decide +kernel
theorem d_KY_countUp_17 : decode b_KY_countUp 17 = .ok (.iastore, 1) := by decide +kernel
theorem d_KY_countUp_18 : decode b_KY_countUp 18 = .ok (.aload_n 0, 1) := by decide +kernel
theorem d_KY_countUp_19 : decode b_KY_countUp 19 = .ok (.getfield 9, 3) := by decide +kernel
theorem d_KY_countUp_22 : decode b_KY_countUp 22 = .ok (.iload_n 1, 1) := by decide +kernel
theorem d_KY_countUp_23 : decode b_KY_countUp 23 = .ok (.iaload, 1) := by decide +kernel
theorem d_KY_countUp_24 : decode b_KY_countUp 24 = .ok (.ifCond .eq 4, 3) := by decide +kernel
theorem d_KY_countUp_27 : decode b_KY_countUp 27 = .ok (.return_, 1) := by decide +kernel
theorem d_KY_countUp_28 : decode b_KY_countUp 28 = .ok (.iinc 1 (-1), 3) := by decide +kernel
theorem d_KY_countUp_31 : decode b_KY_countUp 31 = .ok (.goto (-28), 3) := by decide +kernel
theorem d_KY_countUp_34 : decode b_KY_countUp 34 = .ok (.return_, 1) := by decide +kernel
theorem d_KY_checkIndex_0 : decode b_KY_checkIndex 0 = .ok (.iload_n 0, 1) := by decide +kernel
theorem d_KY_checkIndex_1 : decode b_KY_checkIndex 1 = .ok (.ifCond .lt 9, 3) := by decide +kernel
theorem d_KY_checkIndex_4 : decode b_KY_checkIndex 4 = .ok (.iload_n 0, 1) := by decide +kernel
theorem d_KY_checkIndex_5 : decode b_KY_checkIndex 5 = .ok (.bipush 16, 2) := by decide +kernel
theorem d_KY_checkIndex_7 : decode b_KY_checkIndex 7 = .ok (.if_icmp .lt 13, 3) := by decide +kernel
theorem d_KY_checkIndex_10 : decode b_KY_checkIndex 10 = .ok (.new 17, 3) := by decide +kernel
theorem d_KY_checkIndex_13 : decode b_KY_checkIndex 13 = .ok (.dup, 1) := by decide +kernel
theorem d_KY_checkIndex_14 : decode b_KY_checkIndex 14 = .ok (.ldc 19, 2) := by decide +kernel
theorem d_KY_checkIndex_16 : decode b_KY_checkIndex 16 = .ok (.invokespecial 21, 3) := by decide +kernel
theorem d_KY_checkIndex_19 : decode b_KY_checkIndex 19 = .ok (.athrow, 1) := by decide +kernel
theorem d_KY_checkIndex_20 : decode b_KY_checkIndex 20 = .ok (.return_, 1) := by decide +kernel
theorem d_SL_init_0 : decode b_SL_init 0 = .ok (.aload_n 0, 1) := by decide +kernel
theorem d_SL_init_1 : decode b_SL_init 1 = .ok (.invokespecial 1, 3) := by decide +kernel
theorem d_SL_init_4 : decode b_SL_init 4 = .ok (.aload_n 0, 1) := by decide +kernel
theorem d_SL_init_5 : decode b_SL_init 5 = .ok (.new 7, 3) := by decide +kernel
theorem d_SL_init_8 : decode b_SL_init 8 = .ok (.dup, 1) := by decide +kernel
theorem d_SL_init_9 : decode b_SL_init 9 = .ok (.sipush 640, 3) := by decide +kernel
theorem d_SL_init_12 : decode b_SL_init 12 = .ok (.invokespecial 11, 3) := by decide +kernel
theorem d_SL_init_15 : decode b_SL_init 15 = .ok (.putfield 14, 3) := by decide +kernel
theorem d_SL_init_18 : decode b_SL_init 18 = .ok (.aload_n 0, 1) := by decide +kernel
theorem d_SL_init_19 : decode b_SL_init 19 = .ok (.new 18, 3) := by decide +kernel
theorem d_SL_init_22 : decode b_SL_init 22 = .ok (.dup, 1) := by decide +kernel
theorem d_SL_init_23 : decode b_SL_init 23 = .ok (.invokespecial 20, 3) := by decide +kernel
theorem d_SL_init_26 : decode b_SL_init 26 = .ok (.putfield 21, 3) := by decide +kernel
theorem d_SL_init_29 : decode b_SL_init 29 = .ok (.return_, 1) := by decide +kernel
theorem d_SL_seal_0 : decode b_SL_seal 0 = .ok (.aload_n 0, 1) := by decide +kernel
theorem d_SL_seal_1 : decode b_SL_seal 1 = .ok (.aload_n 1, 1) := by decide +kernel
theorem d_SL_seal_2 : decode b_SL_seal 2 = .ok (.ldc 25, 2) := by decide +kernel
theorem d_SL_seal_4 : decode b_SL_seal 4 = .ok (.invokevirtual 26, 3) := by decide +kernel
theorem d_SL_seal_7 : decode b_SL_seal 7 = .ok (.aload_n 0, 1) := by decide +kernel
theorem d_SL_seal_8 : decode b_SL_seal 8 = .ok (.getfield 14, 3) := by decide +kernel
theorem d_SL_seal_11 : decode b_SL_seal 11 = .ok (.iload_n 2, 1) := by decide +kernel
theorem d_SL_seal_12 : decode b_SL_seal 12 = .ok (.invokevirtual 30, 3) := by decide +kernel
theorem d_SL_seal_15 : decode b_SL_seal 15 = .ok (.aload_n 0, 1) := by decide +kernel
theorem d_SL_seal_16 : decode b_SL_seal 16 = .ok (.getfield 14, 3) := by decide +kernel
theorem d_SL_seal_19 : decode b_SL_seal 19 = .ok (.aload_n 3, 1) := by decide +kernel
theorem d_SL_seal_20 : decode b_SL_seal 20 = .ok (.iconst 0, 1) := by decide +kernel
theorem d_SL_seal_21 : decode b_SL_seal 21 = .ok (.aload_n 3, 1) := by decide +kernel
theorem d_SL_seal_22 : decode b_SL_seal 22 = .ok (.invokevirtual 33, 3) := by decide +kernel
theorem d_SL_seal_25 : decode b_SL_seal 25 = .ok (.invokevirtual 37, 3) := by decide +kernel
theorem d_SL_seal_28 : decode b_SL_seal 28 = .ok (.aload_n 0, 1) := by decide +kernel
theorem d_SL_seal_29 : decode b_SL_seal 29 = .ok (.getfield 21, 3) := by decide +kernel
theorem d_SL_seal_32 : decode b_SL_seal 32 = .ok (.aload_n 0, 1) := by decide +kernel
theorem d_SL_seal_33 : decode b_SL_seal 33 = .ok (.getfield 14, 3) := by decide +kernel
theorem d_SL_seal_36 : decode b_SL_seal 36 = .ok (.invokevirtual 41, 3) := by decide +kernel
theorem d_SL_seal_39 : decode b_SL_seal 39 = .ok (.aload_n 0, 1) := by decide +kernel
theorem d_SL_seal_40 : decode b_SL_seal 40 = .ok (.aload_n 1, 1) := by decide +kernel
theorem d_SL_seal_41 : decode b_SL_seal 41 = .ok (.ldc 44, 2) := by decide +kernel
theorem d_SL_seal_43 : decode b_SL_seal 43 = .ok (.invokevirtual 26, 3) := by decide +kernel
theorem d_SL_seal_46 : decode b_SL_seal 46 = .ok (.iconst 0, 1) := by decide +kernel
theorem d_SL_seal_47 : decode b_SL_seal 47 = .ok (.istore 4, 2) := by decide +kernel
theorem d_SL_seal_49 : decode b_SL_seal 49 = .ok (.iload 4, 2) := by decide +kernel
theorem d_SL_seal_51 : decode b_SL_seal 51 = .ok (.bipush 8, 2) := by decide +kernel
theorem d_SL_seal_53 : decode b_SL_seal 53 = .ok (.if_icmp .ge 25, 3) := by decide +kernel
theorem d_SL_seal_56 : decode b_SL_seal 56 = .ok (.aload_n 0, 1) := by decide +kernel
theorem d_SL_seal_57 : decode b_SL_seal 57 = .ok (.getfield 14, 3) := by decide +kernel
theorem d_SL_seal_60 : decode b_SL_seal 60 = .ok (.aload_n 0, 1) := by decide +kernel
theorem d_SL_seal_61 : decode b_SL_seal 61 = .ok (.getfield 21, 3) := by decide +kernel
theorem d_SL_seal_64 : decode b_SL_seal 64 = .ok (.iload 4, 2) := by decide +kernel
theorem d_SL_seal_66 : decode b_SL_seal 66 = .ok (.invokevirtual 45, 3) := by decide +kernel
theorem d_SL_seal_69 : decode b_SL_seal 69 = .ok (.invokevirtual 30, 3) := by decide +kernel
theorem d_SL_seal_72 : decode b_SL_seal 72 = .ok (.iinc 4 1, 3) := by decide +kernel
theorem d_SL_seal_75 : decode b_SL_seal 75 = .ok (.goto (-26), 3) := by decide +kernel
theorem d_SL_seal_78 : decode b_SL_seal 78 = .ok (.aload_n 0, 1) := by decide +kernel
theorem d_SL_seal_79 : decode b_SL_seal 79 = .ok (.getfield 21, 3) := by decide +kernel
theorem d_SL_seal_82 : decode b_SL_seal 82 = .ok (.aload_n 0, 1) := by decide +kernel
theorem d_SL_seal_83 : decode b_SL_seal 83 = .ok (.getfield 14, 3) := by decide +kernel
theorem d_SL_seal_86 : decode b_SL_seal 86 = .ok (.invokevirtual 41, 3) := by decide +kernel
theorem d_SL_seal_89 : decode b_SL_seal 89 = .ok (.return_, 1) := by decide +kernel
theorem d_SL_sealByte_0 : decode b_SL_sealByte 0 = .ok (.aload_n 0, 1) := by decide +kernel
theorem d_SL_sealByte_1 : decode b_SL_sealByte 1 = .ok (.getfield 21, 3) := by decide +kernel
theorem d_SL_sealByte_4 : decode b_SL_sealByte 4 = .ok (.iload_n 1, 1) := by decide +kernel
theorem d_SL_sealByte_5 : decode b_SL_sealByte 5 = .ok (.iconst 4, 1) := by decide +kernel
theorem d_SL_sealByte_6 : decode b_SL_sealByte 6 = .ok (.idiv, 1) := by decide +kernel
theorem d_SL_sealByte_7 : decode b_SL_sealByte 7 = .ok (.invokevirtual 45, 3) := by decide +kernel
theorem d_SL_sealByte_10 : decode b_SL_sealByte 10 = .ok (.bipush 24, 2) := by decide +kernel
theorem d_SL_sealByte_12 : decode b_SL_sealByte 12 = .ok (.bipush 8, 2) := by decide +kernel
theorem d_SL_sealByte_14 : decode b_SL_sealByte 14 = .ok (.iload_n 1, 1) := by decide +kernel
theorem d_SL_sealByte_15 : decode b_SL_sealByte 15 = .ok (.iconst 4, 1) := by decide +kernel
theorem d_SL_sealByte_16 : decode b_SL_sealByte 16 = .ok (.irem, 1) := by decide +kernel
theorem d_SL_sealByte_17 : decode b_SL_sealByte 17 = .ok (.imul, 1) := by decide +kernel
theorem d_SL_sealByte_18 : decode b_SL_sealByte 18 = .ok (.isub, 1) := by decide +kernel
theorem d_SL_sealByte_19 : decode b_SL_sealByte 19 = .ok (.iushr, 1) := by decide +kernel
theorem d_SL_sealByte_20 : decode b_SL_sealByte 20 = .ok (.sipush 255, 3) := by decide +kernel
theorem d_SL_sealByte_23 : decode b_SL_sealByte 23 = .ok (.iand, 1) := by decide +kernel
theorem d_SL_sealByte_24 : decode b_SL_sealByte 24 = .ok (.ireturn, 1) := by decide +kernel
theorem d_SL_startText_0 : decode b_SL_startText 0 = .ok (.aload_n 0, 1) := by decide +kernel
theorem d_SL_startText_1 : decode b_SL_startText 1 = .ok (.getfield 14, 3) := by decide +kernel
theorem d_SL_startText_4 : decode b_SL_startText 4 = .ok (.invokevirtual 49, 3) := by decide +kernel
theorem d_SL_startText_7 : decode b_SL_startText 7 = .ok (.iconst 0, 1) := by decide +kernel
theorem d_SL_startText_8 : decode b_SL_startText 8 = .ok (.istore_n 3, 1) := by decide +kernel
theorem d_SL_startText_9 : decode b_SL_startText 9 = .ok (.iload_n 3, 1) := by decide +kernel
theorem d_SL_startText_10 : decode b_SL_startText 10 = .ok (.bipush 8, 2) := by decide +kernel
theorem d_SL_startText_12 : decode b_SL_startText 12 = .ok (.if_icmp .ge 26, 3) := by decide +kernel
theorem d_SL_startText_15 : decode b_SL_startText 15 = .ok (.aload_n 0, 1) := by decide +kernel
theorem d_SL_startText_16 : decode b_SL_startText 16 = .ok (.getfield 14, 3) := by decide +kernel
theorem d_SL_startText_19 : decode b_SL_startText 19 = .ok (.aload_n 1, 1) := by decide +kernel
theorem d_SL_startText_20 : decode b_SL_startText 20 = .ok (.bipush 8, 2) := by decide +kernel
theorem d_SL_startText_22 : decode b_SL_startText 22 = .ok (.iload_n 3, 1) := by decide +kernel
theorem d_SL_startText_23 : decode b_SL_startText 23 = .ok (.iadd, 1) := by decide +kernel
theorem d_SL_startText_24 : decode b_SL_startText 24 = .ok (.invokevirtual 52, 3) := by decide +kernel
theorem d_SL_startText_27 : decode b_SL_startText 27 = .ok (.iload_n 2, 1) := by decide +kernel
theorem d_SL_startText_28 : decode b_SL_startText 28 = .ok (.ixor, 1) := by decide +kernel
theorem d_SL_startText_29 : decode b_SL_startText 29 = .ok (.invokevirtual 30, 3) := by decide +kernel
theorem d_SL_startText_32 : decode b_SL_startText 32 = .ok (.iinc 3 1, 3) := by decide +kernel
theorem d_SL_startText_35 : decode b_SL_startText 35 = .ok (.goto (-26), 3) := by decide +kernel
theorem d_SL_startText_38 : decode b_SL_startText 38 = .ok (.bipush 8, 2) := by decide +kernel
theorem d_SL_startText_40 : decode b_SL_startText 40 = .ok (.istore_n 3, 1) := by decide +kernel
theorem d_SL_startText_41 : decode b_SL_startText 41 = .ok (.iload_n 3, 1) := by decide +kernel
theorem d_SL_startText_42 : decode b_SL_startText 42 = .ok (.bipush 16, 2) := by decide +kernel
theorem d_SL_startText_44 : decode b_SL_startText 44 = .ok (.if_icmp .ge 17, 3) := by decide +kernel
theorem d_SL_startText_47 : decode b_SL_startText 47 = .ok (.aload_n 0, 1) := by decide +kernel
theorem d_SL_startText_48 : decode b_SL_startText 48 = .ok (.getfield 14, 3) := by decide +kernel
theorem d_SL_startText_51 : decode b_SL_startText 51 = .ok (.iload_n 2, 1) := by decide +kernel
theorem d_SL_startText_52 : decode b_SL_startText 52 = .ok (.invokevirtual 30, 3) := by decide +kernel
theorem d_SL_startText_55 : decode b_SL_startText 55 = .ok (.iinc 3 1, 3) := by decide +kernel
theorem d_SL_startText_58 : decode b_SL_startText 58 = .ok (.goto (-17), 3) := by decide +kernel
theorem d_SL_startText_61 : decode b_SL_startText 61 = .ok (.return_, 1) := by decide +kernel
theorem d_SD_init_0 : decode b_SD_init 0 = .ok (.aload_n 0, 1) := by decide +kernel
theorem d_SD_init_1 : decode b_SD_init 1 = .ok (.invokespecial 1, 3) := by decide +kernel
theorem d_SD_init_4 : decode b_SD_init 4 = .ok (.aload_n 0, 1) := by decide +kernel
theorem d_SD_init_5 : decode b_SD_init 5 = .ok (.new 7, 3) := by decide +kernel
theorem d_SD_init_8 : decode b_SD_init 8 = .ok (.dup, 1) := by decide +kernel
theorem d_SD_init_9 : decode b_SD_init 9 = .ok (.invokespecial 9, 3) := by decide +kernel
theorem d_SD_init_12 : decode b_SD_init 12 = .ok (.putfield 10, 3) := by decide +kernel
theorem d_SD_init_15 : decode b_SD_init 15 = .ok (.return_, 1) := by decide +kernel
theorem d_SD_keys_0 : decode b_SD_keys 0 = .ok (.aload_n 0, 1) := by decide +kernel
theorem d_SD_keys_1 : decode b_SD_keys 1 = .ok (.getfield 10, 3) := by decide +kernel
theorem d_SD_keys_4 : decode b_SD_keys 4 = .ok (.areturn, 1) := by decide +kernel
theorem d_SD_nextNumber_0 : decode b_SD_nextNumber 0 = .ok (.aload_n 0, 1) := by decide +kernel
theorem d_SD_nextNumber_1 : decode b_SD_nextNumber 1 = .ok (.getfield 16, 3) := by decide +kernel
theorem d_SD_nextNumber_4 : decode b_SD_nextNumber 4 = .ok (.ireturn, 1) := by decide +kernel
theorem d_SD_countPacket_0 : decode b_SD_countPacket 0 = .ok (.aload_n 0, 1) := by decide +kernel
theorem d_SD_countPacket_1 : decode b_SD_countPacket 1 = .ok (.dup, 1) := by decide +kernel
theorem d_SD_countPacket_2 : decode b_SD_countPacket 2 = .ok (.getfield 16, 3) := by decide +kernel
theorem d_SD_countPacket_5 : decode b_SD_countPacket 5 = .ok (.iconst 1, 1) := by decide +kernel
theorem d_SD_countPacket_6 : decode b_SD_countPacket 6 = .ok (.iadd, 1) := by decide +kernel
theorem d_SD_countPacket_7 : decode b_SD_countPacket 7 = .ok (.putfield 16, 3) := by decide +kernel
theorem d_SD_countPacket_10 : decode b_SD_countPacket 10 = .ok (.return_, 1) := by decide +kernel
theorem d_SD_clear_0 : decode b_SD_clear 0 = .ok (.aload_n 0, 1) := by decide +kernel
theorem d_SD_clear_1 : decode b_SD_clear 1 = .ok (.getfield 10, 3) := by decide +kernel
theorem d_SD_clear_4 : decode b_SD_clear 4 = .ok (.invokevirtual 20, 3) := by decide +kernel
theorem d_SD_clear_7 : decode b_SD_clear 7 = .ok (.aload_n 0, 1) := by decide +kernel
theorem d_SD_clear_8 : decode b_SD_clear 8 = .ok (.iconst 0, 1) := by decide +kernel
theorem d_SD_clear_9 : decode b_SD_clear 9 = .ok (.putfield 16, 3) := by decide +kernel
theorem d_SD_clear_12 : decode b_SD_clear 12 = .ok (.return_, 1) := by decide +kernel
theorem d_LW_key_0 : decode b_LW_key 0 = .ok (.aload_n 0, 1) := by decide +kernel
theorem d_LW_key_1 : decode b_LW_key 1 = .ok (.iload_n 1, 1) := by decide +kernel
theorem d_LW_key_2 : decode b_LW_key 2 = .ok (.iload_n 2, 1) := by decide +kernel
theorem d_LW_key_3 : decode b_LW_key 3 = .ok (.invokevirtual 7, 3) := by decide +kernel
theorem d_LW_key_6 : decode b_LW_key 6 = .ok (.goto 6, 3) := by decide +kernel
theorem d_LW_key_9 : decode b_LW_key 9 = .ok (.astore_n 3, 1) := by decide +kernel
theorem d_LW_key_10 : decode b_LW_key 10 = .ok (.iconst 1, 1) := by decide +kernel
theorem d_LW_key_11 : decode b_LW_key 11 = .ok (.ireturn, 1) := by decide +kernel
theorem d_LW_key_12 : decode b_LW_key 12 = .ok (.iconst 0, 1) := by decide +kernel
theorem d_LW_key_13 : decode b_LW_key 13 = .ok (.ireturn, 1) := by decide +kernel
theorem d_LW_turn_0 : decode b_LW_turn 0 = .ok (.aload_n 0, 1) := by decide +kernel
theorem d_LW_turn_1 : decode b_LW_turn 1 = .ok (.iload_n 1, 1) := by decide +kernel
theorem d_LW_turn_2 : decode b_LW_turn 2 = .ok (.invokevirtual 15, 3) := by decide +kernel
theorem d_LW_turn_5 : decode b_LW_turn 5 = .ok (.goto 6, 3) := by decide +kernel
theorem d_LW_turn_8 : decode b_LW_turn 8 = .ok (.astore_n 2, 1) := by decide +kernel
theorem d_LW_turn_9 : decode b_LW_turn 9 = .ok (.iconst 1, 1) := by decide +kernel
theorem d_LW_turn_10 : decode b_LW_turn 10 = .ok (.ireturn, 1) := by decide +kernel
theorem d_LW_turn_11 : decode b_LW_turn 11 = .ok (.iconst 0, 1) := by decide +kernel
theorem d_LW_turn_12 : decode b_LW_turn 12 = .ok (.ireturn, 1) := by decide +kernel
theorem d_LW_put_0 : decode b_LW_put 0 = .ok (.aload_n 3, 1) := by decide +kernel
theorem d_LW_put_1 : decode b_LW_put 1 = .ok (.iconst 0, 1) := by decide +kernel
theorem d_LW_put_2 : decode b_LW_put 2 = .ok (.aload_n 0, 1) := by decide +kernel
theorem d_LW_put_3 : decode b_LW_put 3 = .ok (.iload_n 1, 1) := by decide +kernel
theorem d_LW_put_4 : decode b_LW_put 4 = .ok (.iload_n 2, 1) := by decide +kernel
theorem d_LW_put_5 : decode b_LW_put 5 = .ok (.invokevirtual 19, 3) := by decide +kernel
theorem d_LW_put_8 : decode b_LW_put 8 = .ok (.i2l, 1) := by decide +kernel
theorem d_LW_put_9 : decode b_LW_put 9 = .ok (.lastore, 1) := by decide +kernel
theorem d_LW_put_10 : decode b_LW_put 10 = .ok (.goto 11, 3) := by decide +kernel
theorem d_LW_put_13 : decode b_LW_put 13 = .ok (.astore 4, 2) := by decide +kernel
theorem d_LW_put_15 : decode b_LW_put 15 = .ok (.iconst 1, 1) := by decide +kernel
theorem d_LW_put_16 : decode b_LW_put 16 = .ok (.ireturn, 1) := by decide +kernel
theorem d_LW_put_17 : decode b_LW_put 17 = .ok (.astore 4, 2) := by decide +kernel
theorem d_LW_put_19 : decode b_LW_put 19 = .ok (.iconst 2, 1) := by decide +kernel
theorem d_LW_put_20 : decode b_LW_put 20 = .ok (.ireturn, 1) := by decide +kernel
theorem d_LW_put_21 : decode b_LW_put 21 = .ok (.iconst 0, 1) := by decide +kernel
theorem d_LW_put_22 : decode b_LW_put 22 = .ok (.ireturn, 1) := by decide +kernel
theorem d_LW_send_0 : decode b_LW_send 0 = .ok (.aload_n 2, 1) := by decide +kernel
theorem d_LW_send_1 : decode b_LW_send 1 = .ok (.iconst 0, 1) := by decide +kernel
theorem d_LW_send_2 : decode b_LW_send 2 = .ok (.aload_n 0, 1) := by decide +kernel
theorem d_LW_send_3 : decode b_LW_send 3 = .ok (.iload_n 1, 1) := by decide +kernel
theorem d_LW_send_4 : decode b_LW_send 4 = .ok (.invokevirtual 27, 3) := by decide +kernel
theorem d_LW_send_7 : decode b_LW_send 7 = .ok (.i2l, 1) := by decide +kernel
theorem d_LW_send_8 : decode b_LW_send 8 = .ok (.lastore, 1) := by decide +kernel
theorem d_LW_send_9 : decode b_LW_send 9 = .ok (.goto 6, 3) := by decide +kernel
theorem d_LW_send_12 : decode b_LW_send 12 = .ok (.astore_n 3, 1) := by decide +kernel
theorem d_LW_send_13 : decode b_LW_send 13 = .ok (.iconst 1, 1) := by decide +kernel
theorem d_LW_send_14 : decode b_LW_send 14 = .ok (.ireturn, 1) := by decide +kernel
theorem d_LW_send_15 : decode b_LW_send 15 = .ok (.iconst 0, 1) := by decide +kernel
theorem d_LW_send_16 : decode b_LW_send 16 = .ok (.ireturn, 1) := by decide +kernel
theorem d_LW_forge_0 : decode b_LW_forge 0 = .ok (.aload_n 3, 1) := by decide +kernel
theorem d_LW_forge_1 : decode b_LW_forge 1 = .ok (.iconst 0, 1) := by decide +kernel
theorem d_LW_forge_2 : decode b_LW_forge 2 = .ok (.aload_n 0, 1) := by decide +kernel
theorem d_LW_forge_3 : decode b_LW_forge 3 = .ok (.iload_n 1, 1) := by decide +kernel
theorem d_LW_forge_4 : decode b_LW_forge 4 = .ok (.iload_n 2, 1) := by decide +kernel
theorem d_LW_forge_5 : decode b_LW_forge 5 = .ok (.invokevirtual 31, 3) := by decide +kernel
theorem d_LW_forge_8 : decode b_LW_forge 8 = .ok (.i2l, 1) := by decide +kernel
theorem d_LW_forge_9 : decode b_LW_forge 9 = .ok (.lastore, 1) := by decide +kernel
theorem d_LW_forge_10 : decode b_LW_forge 10 = .ok (.goto 7, 3) := by decide +kernel
theorem d_LW_forge_13 : decode b_LW_forge 13 = .ok (.astore 4, 2) := by decide +kernel
theorem d_LW_forge_15 : decode b_LW_forge 15 = .ok (.iconst 1, 1) := by decide +kernel
theorem d_LW_forge_16 : decode b_LW_forge 16 = .ok (.ireturn, 1) := by decide +kernel
theorem d_LW_forge_17 : decode b_LW_forge 17 = .ok (.iconst 0, 1) := by decide +kernel
theorem d_LW_forge_18 : decode b_LW_forge 18 = .ok (.ireturn, 1) := by decide +kernel
theorem d_LW_octet_0 : decode b_LW_octet 0 = .ok (.aload_n 2, 1) := by decide +kernel
theorem d_LW_octet_1 : decode b_LW_octet 1 = .ok (.iconst 0, 1) := by decide +kernel
theorem d_LW_octet_2 : decode b_LW_octet 2 = .ok (.aload_n 0, 1) := by decide +kernel
theorem d_LW_octet_3 : decode b_LW_octet 3 = .ok (.iload_n 1, 1) := by decide +kernel
theorem d_LW_octet_4 : decode b_LW_octet 4 = .ok (.invokevirtual 34, 3) := by decide +kernel
theorem d_LW_octet_7 : decode b_LW_octet 7 = .ok (.i2l, 1) := by decide +kernel
theorem d_LW_octet_8 : decode b_LW_octet 8 = .ok (.lastore, 1) := by decide +kernel
theorem d_LW_octet_9 : decode b_LW_octet 9 = .ok (.goto 6, 3) := by decide +kernel
theorem d_LW_octet_12 : decode b_LW_octet 12 = .ok (.astore_n 3, 1) := by decide +kernel
theorem d_LW_octet_13 : decode b_LW_octet 13 = .ok (.iconst 1, 1) := by decide +kernel
theorem d_LW_octet_14 : decode b_LW_octet 14 = .ok (.ireturn, 1) := by decide +kernel
theorem d_LW_octet_15 : decode b_LW_octet 15 = .ok (.iconst 0, 1) := by decide +kernel
theorem d_LW_octet_16 : decode b_LW_octet 16 = .ok (.ireturn, 1) := by decide +kernel
theorem d_LW_alter_0 : decode b_LW_alter 0 = .ok (.aload_n 0, 1) := by decide +kernel
theorem d_LW_alter_1 : decode b_LW_alter 1 = .ok (.iload_n 1, 1) := by decide +kernel
theorem d_LW_alter_2 : decode b_LW_alter 2 = .ok (.iload_n 2, 1) := by decide +kernel
theorem d_LW_alter_3 : decode b_LW_alter 3 = .ok (.invokevirtual 37, 3) := by decide +kernel
theorem d_LW_alter_6 : decode b_LW_alter 6 = .ok (.goto 6, 3) := by decide +kernel
theorem d_LW_alter_9 : decode b_LW_alter 9 = .ok (.astore_n 3, 1) := by decide +kernel
theorem d_LW_alter_10 : decode b_LW_alter 10 = .ok (.iconst 1, 1) := by decide +kernel
theorem d_LW_alter_11 : decode b_LW_alter 11 = .ok (.ireturn, 1) := by decide +kernel
theorem d_LW_alter_12 : decode b_LW_alter 12 = .ok (.iconst 0, 1) := by decide +kernel
theorem d_LW_alter_13 : decode b_LW_alter 13 = .ok (.ireturn, 1) := by decide +kernel
theorem d_LW_link_0 : decode b_LW_link 0 = .ok (.aload_n 2, 1) := by decide +kernel
theorem d_LW_link_1 : decode b_LW_link 1 = .ok (.iconst 0, 1) := by decide +kernel
theorem d_LW_link_2 : decode b_LW_link 2 = .ok (.aload_n 0, 1) := by decide +kernel
theorem d_LW_link_3 : decode b_LW_link 3 = .ok (.iload_n 1, 1) := by decide +kernel
theorem d_LW_link_4 : decode b_LW_link 4 = .ok (.invokevirtual 40, 3) := by decide +kernel
theorem d_LW_link_7 : decode b_LW_link 7 = .ok (.i2l, 1) := by decide +kernel
theorem d_LW_link_8 : decode b_LW_link 8 = .ok (.lastore, 1) := by decide +kernel
theorem d_LW_link_9 : decode b_LW_link 9 = .ok (.goto 9, 3) := by decide +kernel
theorem d_LW_link_12 : decode b_LW_link 12 = .ok (.astore_n 3, 1) := by decide +kernel
theorem d_LW_link_13 : decode b_LW_link 13 = .ok (.iconst 1, 1) := by decide +kernel
theorem d_LW_link_14 : decode b_LW_link 14 = .ok (.ireturn, 1) := by decide +kernel
theorem d_LW_link_15 : decode b_LW_link 15 = .ok (.astore_n 3, 1) := by decide +kernel
theorem d_LW_link_16 : decode b_LW_link 16 = .ok (.iconst 2, 1) := by decide +kernel
theorem d_LW_link_17 : decode b_LW_link 17 = .ok (.ireturn, 1) := by decide +kernel
theorem d_LW_link_18 : decode b_LW_link 18 = .ok (.iconst 0, 1) := by decide +kernel
theorem d_LW_link_19 : decode b_LW_link 19 = .ok (.ireturn, 1) := by decide +kernel
theorem d_LW_got_0 : decode b_LW_got 0 = .ok (.aload_n 2, 1) := by decide +kernel
theorem d_LW_got_1 : decode b_LW_got 1 = .ok (.iconst 0, 1) := by decide +kernel
theorem d_LW_got_2 : decode b_LW_got 2 = .ok (.aload_n 0, 1) := by decide +kernel
theorem d_LW_got_3 : decode b_LW_got 3 = .ok (.iload_n 1, 1) := by decide +kernel
theorem d_LW_got_4 : decode b_LW_got 4 = .ok (.invokevirtual 43, 3) := by decide +kernel
theorem d_LW_got_7 : decode b_LW_got 7 = .ok (.i2l, 1) := by decide +kernel
theorem d_LW_got_8 : decode b_LW_got 8 = .ok (.lastore, 1) := by decide +kernel
theorem d_LW_got_9 : decode b_LW_got 9 = .ok (.goto 6, 3) := by decide +kernel
theorem d_LW_got_12 : decode b_LW_got 12 = .ok (.astore_n 3, 1) := by decide +kernel
theorem d_LW_got_13 : decode b_LW_got 13 = .ok (.iconst 1, 1) := by decide +kernel
theorem d_LW_got_14 : decode b_LW_got 14 = .ok (.ireturn, 1) := by decide +kernel
theorem d_LW_got_15 : decode b_LW_got 15 = .ok (.iconst 0, 1) := by decide +kernel
theorem d_LW_got_16 : decode b_LW_got 16 = .ok (.ireturn, 1) := by decide +kernel
theorem d_LW_number_0 : decode b_LW_number 0 = .ok (.aload_n 2, 1) := by decide +kernel
theorem d_LW_number_1 : decode b_LW_number 1 = .ok (.iconst 0, 1) := by decide +kernel
theorem d_LW_number_2 : decode b_LW_number 2 = .ok (.aload_n 0, 1) := by decide +kernel
theorem d_LW_number_3 : decode b_LW_number 3 = .ok (.iload_n 1, 1) := by decide +kernel
theorem d_LW_number_4 : decode b_LW_number 4 = .ok (.invokevirtual 46, 3) := by decide +kernel
theorem d_LW_number_7 : decode b_LW_number 7 = .ok (.i2l, 1) := by decide +kernel
theorem d_LW_number_8 : decode b_LW_number 8 = .ok (.lastore, 1) := by decide +kernel
theorem d_LW_number_9 : decode b_LW_number 9 = .ok (.goto 6, 3) := by decide +kernel
theorem d_LW_number_12 : decode b_LW_number 12 = .ok (.astore_n 3, 1) := by decide +kernel
theorem d_LW_number_13 : decode b_LW_number 13 = .ok (.iconst 1, 1) := by decide +kernel
theorem d_LW_number_14 : decode b_LW_number 14 = .ok (.ireturn, 1) := by decide +kernel
theorem d_LW_number_15 : decode b_LW_number 15 = .ok (.iconst 0, 1) := by decide +kernel
theorem d_LW_number_16 : decode b_LW_number 16 = .ok (.ireturn, 1) := by decide +kernel
theorem d_LW_law_0 : decode code 0 = .ok (.new 8, 3) := by decide +kernel
theorem d_LW_law_3 : decode code 3 = .ok (.dup, 1) := by decide +kernel
theorem d_LW_law_4 : decode code 4 = .ok (.invokespecial 49, 3) := by decide +kernel
theorem d_LW_law_7 : decode code 7 = .ok (.astore_n 1, 1) := by decide +kernel
theorem d_LW_law_8 : decode code 8 = .ok (.new 50, 3) := by decide +kernel
theorem d_LW_law_11 : decode code 11 = .ok (.dup, 1) := by decide +kernel
theorem d_LW_law_12 : decode code 12 = .ok (.invokespecial 52, 3) := by decide +kernel
theorem d_LW_law_15 : decode code 15 = .ok (.astore_n 2, 1) := by decide +kernel
theorem d_LW_law_16 : decode code 16 = .ok (.iconst 1, 1) := by decide +kernel
theorem d_LW_law_17 : decode code 17 = .ok (.newarray .long, 2) := by decide +kernel
theorem d_LW_law_19 : decode code 19 = .ok (.astore_n 3, 1) := by decide +kernel
theorem d_LW_law_20 : decode code 20 = .ok (.iconst 0, 1) := by decide +kernel
theorem d_LW_law_21 : decode code 21 = .ok (.istore 4, 2) := by decide +kernel
theorem d_LW_law_23 : decode code 23 = .ok (.iload 4, 2) := by decide +kernel
theorem d_LW_law_25 : decode code 25 = .ok (.aload_n 0, 1) := by decide +kernel
theorem d_LW_law_26 : decode code 26 = .ok (.arraylength, 1) := by decide +kernel
theorem d_LW_law_27 : decode code 27 = .ok (.iconst 3, 1) := by decide +kernel
theorem d_LW_law_28 : decode code 28 = .ok (.isub, 1) := by decide +kernel
theorem d_LW_law_29 : decode code 29 = .ok (.if_icmp .gt 666, 3) := by decide +kernel
theorem d_LW_law_32 : decode code 32 = .ok (.aload_n 0, 1) := by decide +kernel
theorem d_LW_law_33 : decode code 33 = .ok (.iload 4, 2) := by decide +kernel
theorem d_LW_law_35 : decode code 35 = .ok (.iaload, 1) := by decide +kernel
theorem d_LW_law_36 : decode code 36 = .ok (.bipush 15, 2) := by decide +kernel
theorem d_LW_law_38 : decode code 38 = .ok (.iand, 1) := by decide +kernel
theorem d_LW_law_39 : decode code 39 = .ok (.tableswitch 650 0 12 #[65, 113, 149, 217, 273, 341, 354, 410, 458, 514, 527, 583, 639], 65) := by decide +kernel
theorem d_LW_law_104 : decode code 104 = .ok (.aload_n 1, 1) := by decide +kernel
theorem d_LW_law_105 : decode code 105 = .ok (.aload_n 0, 1) := by decide +kernel
theorem d_LW_law_106 : decode code 106 = .ok (.iload 4, 2) := by decide +kernel
theorem d_LW_law_108 : decode code 108 = .ok (.iconst 1, 1) := by decide +kernel
theorem d_LW_law_109 : decode code 109 = .ok (.iadd, 1) := by decide +kernel
theorem d_LW_law_110 : decode code 110 = .ok (.iaload, 1) := by decide +kernel
theorem d_LW_law_111 : decode code 111 = .ok (.aload_n 0, 1) := by decide +kernel
theorem d_LW_law_112 : decode code 112 = .ok (.iload 4, 2) := by decide +kernel
theorem d_LW_law_114 : decode code 114 = .ok (.iconst 2, 1) := by decide +kernel
theorem d_LW_law_115 : decode code 115 = .ok (.iadd, 1) := by decide +kernel
theorem d_LW_law_116 : decode code 116 = .ok (.iaload, 1) := by decide +kernel
theorem d_LW_law_117 : decode code 117 = .ok (.invokestatic 53, 3) := by decide +kernel
theorem d_LW_law_120 : decode code 120 = .ok (.istore 5, 2) := by decide +kernel
theorem d_LW_law_122 : decode code 122 = .ok (.aload_n 2, 1) := by decide +kernel
theorem d_LW_law_123 : decode code 123 = .ok (.aload_n 0, 1) := by decide +kernel
theorem d_LW_law_124 : decode code 124 = .ok (.iload 4, 2) := by decide +kernel
theorem d_LW_law_126 : decode code 126 = .ok (.iconst 1, 1) := by decide +kernel
theorem d_LW_law_127 : decode code 127 = .ok (.iadd, 1) := by decide +kernel
theorem d_LW_law_128 : decode code 128 = .ok (.iaload, 1) := by decide +kernel
theorem d_LW_law_129 : decode code 129 = .ok (.aload_n 0, 1) := by decide +kernel
theorem d_LW_law_130 : decode code 130 = .ok (.iload 4, 2) := by decide +kernel
theorem d_LW_law_132 : decode code 132 = .ok (.iconst 2, 1) := by decide +kernel
theorem d_LW_law_133 : decode code 133 = .ok (.iadd, 1) := by decide +kernel
theorem d_LW_law_134 : decode code 134 = .ok (.iaload, 1) := by decide +kernel
theorem d_LW_law_135 : decode code 135 = .ok (.invokevirtual 58, 3) := by decide +kernel
theorem d_LW_law_138 : decode code 138 = .ok (.aload_n 2, 1) := by decide +kernel
theorem d_LW_law_139 : decode code 139 = .ok (.invokevirtual 59, 3) := by decide +kernel
theorem d_LW_law_142 : decode code 142 = .ok (.iload 5, 2) := by decide +kernel
theorem d_LW_law_144 : decode code 144 = .ok (.if_icmp .eq 5, 3) := by decide +kernel
theorem d_LW_law_147 : decode code 147 = .ok (.iconst 0, 1) := by decide +kernel
theorem d_LW_law_148 : decode code 148 = .ok (.ireturn, 1) := by decide +kernel
theorem d_LW_law_149 : decode code 149 = .ok (.goto 540, 3) := by decide +kernel
theorem d_LW_law_152 : decode code 152 = .ok (.aload_n 1, 1) := by decide +kernel
theorem d_LW_law_153 : decode code 153 = .ok (.aload_n 0, 1) := by decide +kernel
theorem d_LW_law_154 : decode code 154 = .ok (.iload 4, 2) := by decide +kernel
theorem d_LW_law_156 : decode code 156 = .ok (.iconst 1, 1) := by decide +kernel
theorem d_LW_law_157 : decode code 157 = .ok (.iadd, 1) := by decide +kernel
theorem d_LW_law_158 : decode code 158 = .ok (.iaload, 1) := by decide +kernel
theorem d_LW_law_159 : decode code 159 = .ok (.invokestatic 63, 3) := by decide +kernel
theorem d_LW_law_162 : decode code 162 = .ok (.istore 5, 2) := by decide +kernel
theorem d_LW_law_164 : decode code 164 = .ok (.aload_n 2, 1) := by decide +kernel
theorem d_LW_law_165 : decode code 165 = .ok (.aload_n 0, 1) := by decide +kernel
theorem d_LW_law_166 : decode code 166 = .ok (.iload 4, 2) := by decide +kernel
theorem d_LW_law_168 : decode code 168 = .ok (.iconst 1, 1) := by decide +kernel
theorem d_LW_law_169 : decode code 169 = .ok (.iadd, 1) := by decide +kernel
theorem d_LW_law_170 : decode code 170 = .ok (.iaload, 1) := by decide +kernel
theorem d_LW_law_171 : decode code 171 = .ok (.invokevirtual 66, 3) := by decide +kernel
theorem d_LW_law_174 : decode code 174 = .ok (.aload_n 2, 1) := by decide +kernel
theorem d_LW_law_175 : decode code 175 = .ok (.invokevirtual 59, 3) := by decide +kernel
theorem d_LW_law_178 : decode code 178 = .ok (.iload 5, 2) := by decide +kernel
theorem d_LW_law_180 : decode code 180 = .ok (.if_icmp .eq 5, 3) := by decide +kernel
theorem d_LW_law_183 : decode code 183 = .ok (.iconst 0, 1) := by decide +kernel
theorem d_LW_law_184 : decode code 184 = .ok (.ireturn, 1) := by decide +kernel
theorem d_LW_law_185 : decode code 185 = .ok (.goto 504, 3) := by decide +kernel
