theorem d_MD_encipher_194 : decode b_MD_encipher 194 = .ok (.iload 5, 2) := by decide +kernel
theorem d_MD_encipher_196 : decode b_MD_encipher 196 = .ok (.iconst 2, 1) := by decide +kernel
theorem d_MD_encipher_197 : decode b_MD_encipher 197 = .ok (.iadd, 1) := by decide +kernel
theorem d_MD_encipher_198 : decode b_MD_encipher 198 = .ok (.iconst 4, 1) := by decide +kernel
theorem d_MD_encipher_199 : decode b_MD_encipher 199 = .ok (.irem, 1) := by decide +kernel
theorem d_MD_encipher_200 : decode b_MD_encipher 200 = .ok (.iadd, 1) := by decide +kernel
theorem d_MD_encipher_201 : decode b_MD_encipher 201 = .ok (.iaload, 1) := by decide +kernel
theorem d_MD_encipher_202 : decode b_MD_encipher 202 = .ok (.ixor, 1) := by decide +kernel
theorem d_MD_encipher_203 : decode b_MD_encipher 203 = .ok (.aload_n 0, 1) := by decide +kernel
theorem d_MD_encipher_204 : decode b_MD_encipher 204 = .ok (.getfield 41, 3) := by decide +kernel
theorem d_MD_encipher_207 : decode b_MD_encipher 207 = .ok (.iload 4, 2) := by decide +kernel
theorem d_MD_encipher_209 : decode b_MD_encipher 209 = .ok (.iload 5, 2) := by decide +kernel
theorem d_MD_encipher_211 : decode b_MD_encipher 211 = .ok (.iconst 3, 1) := by decide +kernel
theorem d_MD_encipher_212 : decode b_MD_encipher 212 = .ok (.iadd, 1) := by decide +kernel
theorem d_MD_encipher_213 : decode b_MD_encipher 213 = .ok (.iconst 4, 1) := by decide +kernel
theorem d_MD_encipher_214 : decode b_MD_encipher 214 = .ok (.irem, 1) := by decide +kernel
theorem d_MD_encipher_215 : decode b_MD_encipher 215 = .ok (.iadd, 1) := by decide +kernel
theorem d_MD_encipher_216 : decode b_MD_encipher 216 = .ok (.iaload, 1) := by decide +kernel
theorem d_MD_encipher_217 : decode b_MD_encipher 217 = .ok (.ixor, 1) := by decide +kernel
theorem d_MD_encipher_218 : decode b_MD_encipher 218 = .ok (.iastore, 1) := by decide +kernel
theorem d_MD_encipher_219 : decode b_MD_encipher 219 = .ok (.iinc 3 1, 3) := by decide +kernel
theorem d_MD_encipher_222 : decode b_MD_encipher 222 = .ok (.goto (-101), 3) := by decide +kernel
theorem d_MD_encipher_225 : decode b_MD_encipher 225 = .ok (.aload_n 0, 1) := by decide +kernel
theorem d_MD_encipher_226 : decode b_MD_encipher 226 = .ok (.iconst 4, 1) := by decide +kernel
theorem d_MD_encipher_227 : decode b_MD_encipher 227 = .ok (.iload_n 2, 1) := by decide +kernel
theorem d_MD_encipher_228 : decode b_MD_encipher 228 = .ok (.imul, 1) := by decide +kernel
theorem d_MD_encipher_229 : decode b_MD_encipher 229 = .ok (.invokevirtual 155, 3) := by decide +kernel
theorem d_MD_encipher_232 : decode b_MD_encipher 232 = .ok (.iinc 2 1, 3) := by decide +kernel
theorem d_MD_encipher_235 : decode b_MD_encipher 235 = .ok (.goto (-182), 3) := by decide +kernel
theorem d_MD_encipher_238 : decode b_MD_encipher 238 = .ok (.return_, 1) := by decide +kernel
theorem d_MD_count_0 : decode b_MD_count 0 = .ok (.bipush 7, 2) := by decide +kernel
theorem d_MD_count_2 : decode b_MD_count 2 = .ok (.istore_n 2, 1) := by decide +kernel
theorem d_MD_count_3 : decode b_MD_count 3 = .ok (.aload_n 0, 1) := by decide +kernel
theorem d_MD_count_4 : decode b_MD_count 4 = .ok (.getfield 13, 3) := by decide +kernel
theorem d_MD_count_7 : decode b_MD_count 7 = .ok (.iload_n 1, 1) := by decide +kernel
theorem d_MD_count_8 : decode b_MD_count 8 = .ok (.iload_n 2, 1) := by decide +kernel
theorem d_MD_count_9 : decode b_MD_count 9 = .ok (.iadd, 1) := by decide +kernel
theorem d_MD_count_10 : decode b_MD_count 10 = .ok (.dup2, 1) := by decide +kernel
theorem d_MD_count_11 : decode b_MD_count 11 = .ok (.iaload, 1) := by decide +kernel
theorem d_MD_count_12 : decode b_MD_count 12 = .ok (.iconst 1, 1) := by decide +kernel
theorem d_MD_count_13 : decode b_MD_count 13 = .ok (.iadd, 1) := by decide +kernel
theorem d_MD_count_14 : decode b_MD_count 14 = .ok (.iastore, 1) := by decide +kernel
theorem d_MD_count_15 : decode b_MD_count 15 = .ok (.iload_n 2, 1) := by decide +kernel
theorem d_MD_count_16 : decode b_MD_count 16 = .ok (.iconst 4, 1) := by decide +kernel
theorem d_MD_count_17 : decode b_MD_count 17 = .ok (.if_icmp .le 32, 3) := by decide +kernel
theorem d_MD_count_20 : decode b_MD_count 20 = .ok (.aload_n 0, 1) := by decide +kernel
theorem d_MD_count_21 : decode b_MD_count 21 = .ok (.getfield 13, 3) := by decide +kernel
theorem d_MD_count_24 : decode b_MD_count 24 = .ok (.iload_n 1, 1) := by decide +kernel
theorem d_MD_count_25 : decode b_MD_count 25 = .ok (.iload_n 2, 1) := by decide +kernel
theorem d_MD_count_26 : decode b_MD_count 26 = .ok (.iadd, 1) := by decide +kernel
theorem d_MD_count_27 : decode b_MD_count 27 = .ok (.iaload, 1) := by decide +kernel
theorem d_MD_count_28 : decode b_MD_count 28 = .ok (.ifCond .ne 21, 3) := by decide +kernel
theorem d_MD_count_31 : decode b_MD_count 31 = .ok (.iinc 2 (-1), 3) := by decide +kernel
theorem d_MD_count_34 : decode b_MD_count 34 = .ok (.aload_n 0, 1) := by decide +kernel
theorem d_MD_count_35 : decode b_MD_count 35 = .ok (.getfield 13, 3) := by decide +kernel
theorem d_MD_count_38 : decode b_MD_count 38 = .ok (.iload_n 1, 1) := by decide +kernel
theorem d_MD_count_39 : decode b_MD_count 39 = .ok (.iload_n 2, 1) := by decide +kernel
theorem d_MD_count_40 : decode b_MD_count 40 = .ok (.iadd, 1) := by decide +kernel
theorem d_MD_count_41 : decode b_MD_count 41 = .ok (.dup2, 1) := by decide +kernel
theorem d_MD_count_42 : decode b_MD_count 42 = .ok (.iaload, 1) := by decide +kernel
theorem d_MD_count_43 : decode b_MD_count 43 = .ok (.iconst 1, 1) := by decide +kernel
theorem d_MD_count_44 : decode b_MD_count 44 = .ok (.iadd, 1) := by decide +kernel
theorem d_MD_count_45 : decode b_MD_count 45 = .ok (.iastore, 1) := by decide +kernel
theorem d_MD_count_46 : decode b_MD_count 46 = .ok (.goto (-31), 3) := by decide +kernel
theorem d_MD_count_49 : decode b_MD_count 49 = .ok (.return_, 1) := by decide +kernel
theorem d_MD_cipher_0 : decode b_MD_cipher 0 = .ok (.aload_n 0, 1) := by decide +kernel
theorem d_MD_cipher_1 : decode b_MD_cipher 1 = .ok (.iload_n 1, 1) := by decide +kernel
theorem d_MD_cipher_2 : decode b_MD_cipher 2 = .ok (.invokevirtual 159, 3) := by decide +kernel
theorem d_MD_cipher_5 : decode b_MD_cipher 5 = .ok (.iload_n 2, 1) := by decide +kernel
theorem d_MD_cipher_6 : decode b_MD_cipher 6 = .ok (.istore 4, 2) := by decide +kernel
theorem d_MD_cipher_8 : decode b_MD_cipher 8 = .ok (.iload 4, 2) := by decide +kernel
theorem d_MD_cipher_10 : decode b_MD_cipher 10 = .ok (.iload_n 3, 1) := by decide +kernel
theorem d_MD_cipher_11 : decode b_MD_cipher 11 = .ok (.if_icmp .ge 64, 3) := by decide +kernel
theorem d_MD_cipher_14 : decode b_MD_cipher 14 = .ok (.aload_n 0, 1) := by decide +kernel
theorem d_MD_cipher_15 : decode b_MD_cipher 15 = .ok (.iload_n 1, 1) := by decide +kernel
theorem d_MD_cipher_16 : decode b_MD_cipher 16 = .ok (.invokevirtual 162, 3) := by decide +kernel
theorem d_MD_cipher_19 : decode b_MD_cipher 19 = .ok (.aload_n 0, 1) := by decide +kernel
theorem d_MD_cipher_20 : decode b_MD_cipher 20 = .ok (.iload_n 1, 1) := by decide +kernel
theorem d_MD_cipher_21 : decode b_MD_cipher 21 = .ok (.invokevirtual 165, 3) := by decide +kernel
theorem d_MD_cipher_24 : decode b_MD_cipher 24 = .ok (.iconst 0, 1) := by decide +kernel
theorem d_MD_cipher_25 : decode b_MD_cipher 25 = .ok (.istore 5, 2) := by decide +kernel
theorem d_MD_cipher_27 : decode b_MD_cipher 27 = .ok (.iload 5, 2) := by decide +kernel
theorem d_MD_cipher_29 : decode b_MD_cipher 29 = .ok (.bipush 16, 2) := by decide +kernel
theorem d_MD_cipher_31 : decode b_MD_cipher 31 = .ok (.if_icmp .ge 38, 3) := by decide +kernel
theorem d_MD_cipher_34 : decode b_MD_cipher 34 = .ok (.aload_n 0, 1) := by decide +kernel
theorem d_MD_cipher_35 : decode b_MD_cipher 35 = .ok (.getfield 44, 3) := by decide +kernel
theorem d_MD_cipher_38 : decode b_MD_cipher 38 = .ok (.iload 4, 2) := by decide +kernel
theorem d_MD_cipher_40 : decode b_MD_cipher 40 = .ok (.iload 5, 2) := by decide +kernel
theorem d_MD_cipher_42 : decode b_MD_cipher 42 = .ok (.iadd, 1) := by decide +kernel
theorem d_MD_cipher_43 : decode b_MD_cipher 43 = .ok (.aload_n 0, 1) := by decide +kernel
theorem d_MD_cipher_44 : decode b_MD_cipher 44 = .ok (.getfield 44, 3) := by decide +kernel
theorem d_MD_cipher_47 : decode b_MD_cipher 47 = .ok (.iload 4, 2) := by decide +kernel
theorem d_MD_cipher_49 : decode b_MD_cipher 49 = .ok (.iload 5, 2) := by decide +kernel
theorem d_MD_cipher_51 : decode b_MD_cipher 51 = .ok (.iadd, 1) := by decide +kernel
theorem d_MD_cipher_52 : decode b_MD_cipher 52 = .ok (.baload, 1) := by decide +kernel
theorem d_MD_cipher_53 : decode b_MD_cipher 53 = .ok (.aload_n 0, 1) := by decide +kernel
theorem d_MD_cipher_54 : decode b_MD_cipher 54 = .ok (.getfield 38, 3) := by decide +kernel
theorem d_MD_cipher_57 : decode b_MD_cipher 57 = .ok (.iload 5, 2) := by decide +kernel
theorem d_MD_cipher_59 : decode b_MD_cipher 59 = .ok (.iaload, 1) := by decide +kernel
theorem d_MD_cipher_60 : decode b_MD_cipher 60 = .ok (.ixor, 1) := by decide +kernel
theorem d_MD_cipher_61 : decode b_MD_cipher 61 = .ok (.i2b, 1) := by decide +kernel
theorem d_MD_cipher_62 : decode b_MD_cipher 62 = .ok (.bastore, 1) := by decide +kernel
theorem d_MD_cipher_63 : decode b_MD_cipher 63 = .ok (.iinc 5 1, 3) := by decide +kernel
theorem d_MD_cipher_66 : decode b_MD_cipher 66 = .ok (.goto (-39), 3) := by decide +kernel
theorem d_MD_cipher_69 : decode b_MD_cipher 69 = .ok (.iinc 4 16, 3) := by decide +kernel
theorem d_MD_cipher_72 : decode b_MD_cipher 72 = .ok (.goto (-64), 3) := by decide +kernel
theorem d_MD_cipher_75 : decode b_MD_cipher 75 = .ok (.return_, 1) := by decide +kernel
theorem d_MD_turn_0 : decode b_MD_turn 0 = .ok (.iload_n 0, 1) := by decide +kernel
theorem d_MD_turn_1 : decode b_MD_turn 1 = .ok (.iload_n 1, 1) := by decide +kernel
theorem d_MD_turn_2 : decode b_MD_turn 2 = .ok (.iushr, 1) := by decide +kernel
theorem d_MD_turn_3 : decode b_MD_turn 3 = .ok (.iload_n 0, 1) := by decide +kernel
theorem d_MD_turn_4 : decode b_MD_turn 4 = .ok (.bipush 32, 2) := by decide +kernel
theorem d_MD_turn_6 : decode b_MD_turn 6 = .ok (.iload_n 1, 1) := by decide +kernel
theorem d_MD_turn_7 : decode b_MD_turn 7 = .ok (.isub, 1) := by decide +kernel
theorem d_MD_turn_8 : decode b_MD_turn 8 = .ok (.ishl, 1) := by decide +kernel
theorem d_MD_turn_9 : decode b_MD_turn 9 = .ok (.ior, 1) := by decide +kernel
theorem d_MD_turn_10 : decode b_MD_turn 10 = .ok (.ireturn, 1) := by decide +kernel
theorem d_MD_mix_0 : decode b_MD_mix 0 = .ok (.iconst 0, 1) := by decide +kernel
theorem d_MD_mix_1 : decode b_MD_mix 1 = .ok (.istore_n 1, 1) := by decide +kernel
theorem d_MD_mix_2 : decode b_MD_mix 2 = .ok (.iload_n 1, 1) := by decide +kernel
theorem d_MD_mix_3 : decode b_MD_mix 3 = .ok (.bipush 8, 2) := by decide +kernel
theorem d_MD_mix_5 : decode b_MD_mix 5 = .ok (.if_icmp .ge 21, 3) := by decide +kernel
theorem d_MD_mix_8 : decode b_MD_mix 8 = .ok (.aload_n 0, 1) := by decide +kernel
theorem d_MD_mix_9 : decode b_MD_mix 9 = .ok (.getfield 59, 3) := by decide +kernel
theorem d_MD_mix_12 : decode b_MD_mix 12 = .ok (.iload_n 1, 1) := by decide +kernel
theorem d_MD_mix_13 : decode b_MD_mix 13 = .ok (.aload_n 0, 1) := by decide +kernel
theorem d_MD_mix_14 : decode b_MD_mix 14 = .ok (.getfield 56, 3) := by decide +kernel
theorem d_MD_mix_17 : decode b_MD_mix 17 = .ok (.iload_n 1, 1) := by decide +kernel
theorem d_MD_mix_18 : decode b_MD_mix 18 = .ok (.iaload, 1) := by decide +kernel
theorem d_MD_mix_19 : decode b_MD_mix 19 = .ok (.iastore, 1) := by decide +kernel
theorem d_MD_mix_20 : decode b_MD_mix 20 = .ok (.iinc 1 1, 3) := by decide +kernel
theorem d_MD_mix_23 : decode b_MD_mix 23 = .ok (.goto (-21), 3) := by decide +kernel
theorem d_MD_mix_26 : decode b_MD_mix 26 = .ok (.bipush 16, 2) := by decide +kernel
theorem d_MD_mix_28 : decode b_MD_mix 28 = .ok (.istore_n 1, 1) := by decide +kernel
theorem d_MD_mix_29 : decode b_MD_mix 29 = .ok (.iload_n 1, 1) := by decide +kernel
theorem d_MD_mix_30 : decode b_MD_mix 30 = .ok (.bipush 64, 2) := by decide +kernel
theorem d_MD_mix_32 : decode b_MD_mix 32 = .ok (.if_icmp .ge 90, 3) := by decide +kernel
theorem d_MD_mix_35 : decode b_MD_mix 35 = .ok (.aload_n 0, 1) := by decide +kernel
theorem d_MD_mix_36 : decode b_MD_mix 36 = .ok (.getfield 53, 3) := by decide +kernel
theorem d_MD_mix_39 : decode b_MD_mix 39 = .ok (.iload_n 1, 1) := by decide +kernel
theorem d_MD_mix_40 : decode b_MD_mix 40 = .ok (.bipush 15, 2) := by decide +kernel
theorem d_MD_mix_42 : decode b_MD_mix 42 = .ok (.isub, 1) := by decide +kernel
theorem d_MD_mix_43 : decode b_MD_mix 43 = .ok (.iaload, 1) := by decide +kernel
theorem d_MD_mix_44 : decode b_MD_mix 44 = .ok (.istore_n 2, 1) := by decide +kernel
theorem d_MD_mix_45 : decode b_MD_mix 45 = .ok (.aload_n 0, 1) := by decide +kernel
theorem d_MD_mix_46 : decode b_MD_mix 46 = .ok (.getfield 53, 3) := by decide +kernel
theorem d_MD_mix_49 : decode b_MD_mix 49 = .ok (.iload_n 1, 1) := by decide +kernel
theorem d_MD_mix_50 : decode b_MD_mix 50 = .ok (.iconst 2, 1) := by decide +kernel
theorem d_MD_mix_51 : decode b_MD_mix 51 = .ok (.isub, 1) := by decide +kernel
theorem d_MD_mix_52 : decode b_MD_mix 52 = .ok (.iaload, 1) := by decide +kernel
theorem d_MD_mix_53 : decode b_MD_mix 53 = .ok (.istore_n 3, 1) := by decide +kernel
theorem d_MD_mix_54 : decode b_MD_mix 54 = .ok (.aload_n 0, 1) := by decide +kernel
theorem d_MD_mix_55 : decode b_MD_mix 55 = .ok (.getfield 53, 3) := by decide +kernel
theorem d_MD_mix_58 : decode b_MD_mix 58 = .ok (.iload_n 1, 1) := by decide +kernel
theorem d_MD_mix_59 : decode b_MD_mix 59 = .ok (.aload_n 0, 1) := by decide +kernel
theorem d_MD_mix_60 : decode b_MD_mix 60 = .ok (.getfield 53, 3) := by decide +kernel
theorem d_MD_mix_63 : decode b_MD_mix 63 = .ok (.iload_n 1, 1) := by decide +kernel
theorem d_MD_mix_64 : decode b_MD_mix 64 = .ok (.bipush 16, 2) := by decide +kernel
theorem d_MD_mix_66 : decode b_MD_mix 66 = .ok (.isub, 1) := by decide +kernel
theorem d_MD_mix_67 : decode b_MD_mix 67 = .ok (.iaload, 1) := by decide +kernel
theorem d_MD_mix_68 : decode b_MD_mix 68 = .ok (.iload_n 2, 1) := by decide +kernel
theorem d_MD_mix_69 : decode b_MD_mix 69 = .ok (.bipush 7, 2) := by decide +kernel
theorem d_MD_mix_71 : decode b_MD_mix 71 = .ok (.invokestatic 168, 3) := by decide +kernel
theorem d_MD_mix_74 : decode b_MD_mix 74 = .ok (.iload_n 2, 1) := by decide +kernel
theorem d_MD_mix_75 : decode b_MD_mix 75 = .ok (.bipush 18, 2) := by decide +kernel
theorem d_MD_mix_77 : decode b_MD_mix 77 = .ok (.invokestatic 168, 3) := by decide +kernel
theorem d_MD_mix_80 : decode b_MD_mix 80 = .ok (.ixor, 1) := by decide +kernel
theorem d_MD_mix_81 : decode b_MD_mix 81 = .ok (.iload_n 2, 1) := by decide +kernel
theorem d_MD_mix_82 : decode b_MD_mix 82 = .ok (.iconst 3, 1) := by decide +kernel
theorem d_MD_mix_83 : decode b_MD_mix 83 = .ok (.iushr, 1) := by decide +kernel
theorem d_MD_mix_84 : decode b_MD_mix 84 = .ok (.ixor, 1) := by decide +kernel
theorem d_MD_mix_85 : decode b_MD_mix 85 = .ok (.iadd, 1) := by decide +kernel
theorem d_MD_mix_86 : decode b_MD_mix 86 = .ok (.aload_n 0, 1) := by decide +kernel
theorem d_MD_mix_87 : decode b_MD_mix 87 = .ok (.getfield 53, 3) := by decide +kernel
theorem d_MD_mix_90 : decode b_MD_mix 90 = .ok (.iload_n 1, 1) := by decide +kernel
theorem d_MD_mix_91 : decode b_MD_mix 91 = .ok (.bipush 7, 2) := by decide +kernel
theorem d_MD_mix_93 : decode b_MD_mix 93 = .ok (.isub, 1) := by decide +kernel
theorem d_MD_mix_94 : decode b_MD_mix 94 = .ok (.iaload, 1) := by decide +kernel
theorem d_MD_mix_95 : decode b_MD_mix 95 = .ok (.iadd, 1) := by decide +kernel
theorem d_MD_mix_96 : decode b_MD_mix 96 = .ok (.iload_n 3, 1) := by decide +kernel
theorem d_MD_mix_97 : decode b_MD_mix 97 = .ok (.bipush 17, 2) := by decide +kernel
theorem d_MD_mix_99 : decode b_MD_mix 99 = .ok (.invokestatic 168, 3) := by decide +kernel
theorem d_MD_mix_102 : decode b_MD_mix 102 = .ok (.iload_n 3, 1) := by decide +kernel
theorem d_MD_mix_103 : decode b_MD_mix 103 = .ok (.bipush 19, 2) := by decide +kernel
theorem d_MD_mix_105 : decode b_MD_mix 105 = .ok (.invokestatic 168, 3) := by decide +kernel
theorem d_MD_mix_108 : decode b_MD_mix 108 = .ok (.ixor, 1) := by decide +kernel
theorem d_MD_mix_109 : decode b_MD_mix 109 = .ok (.iload_n 3, 1) := by decide +kernel
theorem d_MD_mix_110 : decode b_MD_mix 110 = .ok (.bipush 10, 2) := by decide +kernel
theorem d_MD_mix_112 : decode b_MD_mix 112 = .ok (.iushr, 1) := by decide +kernel
theorem d_MD_mix_113 : decode b_MD_mix 113 = .ok (.ixor, 1) := by decide +kernel
theorem d_MD_mix_114 : decode b_MD_mix 114 = .ok (.iadd, 1) := by decide +kernel
theorem d_MD_mix_115 : decode b_MD_mix 115 = .ok (.iastore, 1) := by decide +kernel
theorem d_MD_mix_116 : decode b_MD_mix 116 = .ok (.iinc 1 1, 3) := by decide +kernel
theorem d_MD_mix_119 : decode b_MD_mix 119 = .ok (.goto (-90), 3) := by decide +kernel
theorem d_MD_mix_122 : decode b_MD_mix 122 = .ok (.iconst 0, 1) := by decide +kernel
theorem d_MD_mix_123 : decode b_MD_mix 123 = .ok (.istore_n 1, 1) := by decide +kernel
theorem d_MD_mix_124 : decode b_MD_mix 124 = .ok (.iload_n 1, 1) := by decide +kernel
theorem d_MD_mix_125 : decode b_MD_mix 125 = .ok (.bipush 64, 2) := by decide +kernel
theorem d_MD_mix_127 : decode b_MD_mix 127 = .ok (.if_icmp .ge 198, 3) := by decide +kernel
theorem d_MD_mix_130 : decode b_MD_mix 130 = .ok (.aload_n 0, 1) := by decide +kernel
theorem d_MD_mix_131 : decode b_MD_mix 131 = .ok (.getfield 56, 3) := by decide +kernel
theorem d_MD_mix_134 : decode b_MD_mix 134 = .ok (.iconst 4, 1) := by decide +kernel
theorem d_MD_mix_135 : decode b_MD_mix 135 = .ok (.iaload, 1) := by decide +kernel
theorem d_MD_mix_136 : decode b_MD_mix 136 = .ok (.istore_n 2, 1) := by decide +kernel
theorem d_MD_mix_137 : decode b_MD_mix 137 = .ok (.aload_n 0, 1) := by decide +kernel
theorem d_MD_mix_138 : decode b_MD_mix 138 = .ok (.getfield 56, 3) := by decide +kernel
theorem d_MD_mix_141 : decode b_MD_mix 141 = .ok (.iconst 0, 1) := by decide +kernel
theorem d_MD_mix_142 : decode b_MD_mix 142 = .ok (.iaload, 1) := by decide +kernel
theorem d_MD_mix_143 : decode b_MD_mix 143 = .ok (.istore_n 3, 1) := by decide +kernel
theorem d_MD_mix_144 : decode b_MD_mix 144 = .ok (.aload_n 0, 1) := by decide +kernel
theorem d_MD_mix_145 : decode b_MD_mix 145 = .ok (.getfield 56, 3) := by decide +kernel
theorem d_MD_mix_148 : decode b_MD_mix 148 = .ok (.bipush 7, 2) := by decide +kernel
theorem d_MD_mix_150 : decode b_MD_mix 150 = .ok (.iaload, 1) := by decide +kernel
theorem d_MD_mix_151 : decode b_MD_mix 151 = .ok (.iload_n 2, 1) := by decide +kernel
theorem d_MD_mix_152 : decode b_MD_mix 152 = .ok (.bipush 6, 2) := by decide +kernel
theorem d_MD_mix_154 : decode b_MD_mix 154 = .ok (.invokestatic 168, 3) := by decide +kernel
theorem d_MD_mix_157 : decode b_MD_mix 157 = .ok (.iload_n 2, 1) := by decide +kernel
theorem d_MD_mix_158 : decode b_MD_mix 158 = .ok (.bipush 11, 2) := by decide +kernel
theorem d_MD_mix_160 : decode b_MD_mix 160 = .ok (.invokestatic 168, 3) := by decide +kernel
theorem d_MD_mix_163 : decode b_MD_mix 163 = .ok (.ixor, 1) := by decide +kernel
theorem d_MD_mix_164 : decode b_MD_mix 164 = .ok (.iload_n 2, 1) := by decide +kernel
theorem d_MD_mix_165 : decode b_MD_mix 165 = .ok (.bipush 25, 2) := by decide +kernel
theorem d_MD_mix_167 : decode b_MD_mix 167 = .ok (.invokestatic 168, 3) := by decide +kernel
theorem d_MD_mix_170 : decode b_MD_mix 170 = .ok (.ixor, 1) := by decide +kernel
theorem d_MD_mix_171 : decode b_MD_mix 171 = .ok (.iadd, 1) := by decide +kernel
theorem d_MD_mix_172 : decode b_MD_mix 172 = .ok (.iload_n 2, 1) := by decide +kernel
theorem d_MD_mix_173 : decode b_MD_mix 173 = .ok (.aload_n 0, 1) := by decide +kernel
theorem d_MD_mix_174 : decode b_MD_mix 174 = .ok (.getfield 56, 3) := by decide +kernel
theorem d_MD_mix_177 : decode b_MD_mix 177 = .ok (.iconst 5, 1) := by decide +kernel
theorem d_MD_mix_178 : decode b_MD_mix 178 = .ok (.iaload, 1) := by decide +kernel
theorem d_MD_mix_179 : decode b_MD_mix 179 = .ok (.iand, 1) := by decide +kernel
theorem d_MD_mix_180 : decode b_MD_mix 180 = .ok (.iload_n 2, 1) := by decide +kernel
theorem d_MD_mix_181 : decode b_MD_mix 181 = .ok (.iconst (-1), 1) := by decide +kernel
theorem d_MD_mix_182 : decode b_MD_mix 182 = .ok (.ixor, 1) := by decide +kernel
theorem d_MD_mix_183 : decode b_MD_mix 183 = .ok (.aload_n 0, 1) := by decide +kernel
theorem d_MD_mix_184 : decode b_MD_mix 184 = .ok (.getfield 56, 3) := by decide +kernel
theorem d_MD_mix_187 : decode b_MD_mix 187 = .ok (.bipush 6, 2) := by decide +kernel
theorem d_MD_mix_189 : decode b_MD_mix 189 = .ok (.iaload, 1) := by decide +kernel
theorem d_MD_mix_190 : decode b_MD_mix 190 = .ok (.iand, 1) := by decide +kernel
theorem d_MD_mix_191 : decode b_MD_mix 191 = .ok (.ixor, 1) := by decide +kernel
theorem d_MD_mix_192 : decode b_MD_mix 192 = .ok (.iadd, 1) := by decide +kernel
theorem d_MD_mix_193 : decode b_MD_mix 193 = .ok (.aload_n 0, 1) := by decide +kernel
theorem d_MD_mix_194 : decode b_MD_mix 194 = .ok (.getfield 126, 3) := by decide +kernel
theorem d_MD_mix_197 : decode b_MD_mix 197 = .ok (.iload_n 1, 1) := by decide +kernel
theorem d_MD_mix_198 : decode b_MD_mix 198 = .ok (.iaload, 1) := by decide +kernel
theorem d_MD_mix_199 : decode b_MD_mix 199 = .ok (.iadd, 1) := by decide +kernel
theorem d_MD_mix_200 : decode b_MD_mix 200 = .ok (.aload_n 0, 1) := by decide +kernel
theorem d_MD_mix_201 : decode b_MD_mix 201 = .ok (.getfield 53, 3) := by decide +kernel
theorem d_MD_mix_204 : decode b_MD_mix 204 = .ok (.iload_n 1, 1) := by decide +kernel
theorem d_MD_mix_205 : decode b_MD_mix 205 = .ok (.iaload, 1) := by decide +kernel
theorem d_MD_mix_206 : decode b_MD_mix 206 = .ok (.iadd, 1) := by decide +kernel
theorem d_MD_mix_207 : decode b_MD_mix 207 = .ok (.istore 4, 2) := by decide +kernel
theorem d_MD_mix_209 : decode b_MD_mix 209 = .ok (.iload_n 3, 1) := by decide +kernel
theorem d_MD_mix_210 : decode b_MD_mix 210 = .ok (.iconst 2, 1) := by decide +kernel
theorem d_MD_mix_211 : decode b_MD_mix 211 = .ok (.invokestatic 168, 3) := by decide +kernel
theorem d_MD_mix_214 : decode b_MD_mix 214 = .ok (.iload_n 3, 1) := by decide +kernel
theorem d_MD_mix_215 : decode b_MD_mix 215 = .ok (.bipush 13, 2) := by decide +kernel
theorem d_MD_mix_217 : decode b_MD_mix 217 = .ok (.invokestatic 168, 3) := by decide +kernel
theorem d_MD_mix_220 : decode b_MD_mix 220 = .ok (.ixor, 1) := by decide +kernel
theorem d_MD_mix_221 : decode b_MD_mix 221 = .ok (.iload_n 3, 1) := by decide +kernel
theorem d_MD_mix_222 : decode b_MD_mix 222 = .ok (.bipush 22, 2) := by decide +kernel
theorem d_MD_mix_224 : decode b_MD_mix 224 = .ok (.invokestatic 168, 3) := by decide +kernel
theorem d_MD_mix_227 : decode b_MD_mix 227 = .ok (.ixor, 1) := by decide +kernel
theorem d_MD_mix_228 : decode b_MD_mix 228 = .ok (.iload_n 3, 1) := by decide +kernel
theorem d_MD_mix_229 : decode b_MD_mix 229 = .ok (.aload_n 0, 1) := by decide +kernel
theorem d_MD_mix_230 : decode b_MD_mix 230 = .ok (.getfield 56, 3) := by decide +kernel
theorem d_MD_mix_233 : decode b_MD_mix 233 = .ok (.iconst 1, 1) := by decide +kernel
theorem d_MD_mix_234 : decode b_MD_mix 234 = .ok (.iaload, 1) := by decide +kernel
theorem d_MD_mix_235 : decode b_MD_mix 235 = .ok (.iand, 1) := by decide +kernel
theorem d_MD_mix_236 : decode b_MD_mix 236 = .ok (.iload_n 3, 1) := by decide +kernel
theorem d_MD_mix_237 : decode b_MD_mix 237 = .ok (.aload_n 0, 1) := by decide +kernel
theorem d_MD_mix_238 : decode b_MD_mix 238 = .ok (.getfield 56, 3) := by decide +kernel
theorem d_MD_mix_241 : decode b_MD_mix 241 = .ok (.iconst 2, 1) := by decide +kernel
theorem d_MD_mix_242 : decode b_MD_mix 242 = .ok (.iaload, 1) := by decide +kernel
theorem d_MD_mix_243 : decode b_MD_mix 243 = .ok (.iand, 1) := by decide +kernel
theorem d_MD_mix_244 : decode b_MD_mix 244 = .ok (.ixor, 1) := by decide +kernel
theorem d_MD_mix_245 : decode b_MD_mix 245 = .ok (.aload_n 0, 1) := by decide +kernel
theorem d_MD_mix_246 : decode b_MD_mix 246 = .ok (.getfield 56, 3) := by decide +kernel
theorem d_MD_mix_249 : decode b_MD_mix 249 = .ok (.iconst 1, 1) := by decide +kernel
theorem d_MD_mix_250 : decode b_MD_mix 250 = .ok (.iaload, 1) := by decide +kernel
theorem d_MD_mix_251 : decode b_MD_mix 251 = .ok (.aload_n 0, 1) := by decide +kernel
theorem d_MD_mix_252 : decode b_MD_mix 252 = .ok (.getfield 56, 3) := by decide +kernel
theorem d_MD_mix_255 : decode b_MD_mix 255 = .ok (.iconst 2, 1) := by decide +kernel
theorem d_MD_mix_256 : decode b_MD_mix 256 = .ok (.iaload, 1) := by decide +kernel
theorem d_MD_mix_257 : decode b_MD_mix 257 = .ok (.iand, 1) := by decide +kernel
theorem d_MD_mix_258 : decode b_MD_mix 258 = .ok (.ixor, 1) := by decide +kernel
theorem d_MD_mix_259 : decode b_MD_mix 259 = .ok (.iadd, 1) := by decide +kernel
theorem d_MD_mix_260 : decode b_MD_mix 260 = .ok (.istore 5, 2) := by decide +kernel
theorem d_MD_mix_262 : decode b_MD_mix 262 = .ok (.bipush 7, 2) := by decide +kernel
theorem d_MD_mix_264 : decode b_MD_mix 264 = .ok (.istore 6, 2) := by decide +kernel
theorem d_MD_mix_266 : decode b_MD_mix 266 = .ok (.iload 6, 2) := by decide +kernel
theorem d_MD_mix_268 : decode b_MD_mix 268 = .ok (.ifCond .le 25, 3) := by decide +kernel
theorem d_MD_mix_271 : decode b_MD_mix 271 = .ok (.aload_n 0, 1) := by decide +kernel
theorem d_MD_mix_272 : decode b_MD_mix 272 = .ok (.getfield 56, 3) := by decide +kernel
theorem d_MD_mix_275 : decode b_MD_mix 275 = .ok (.iload 6, 2) := by decide +kernel
theorem d_MD_mix_277 : decode b_MD_mix 277 = .ok (.aload_n 0, 1) := by decide +kernel
theorem d_MD_mix_278 : decode b_MD_mix 278 = .ok (.getfield 56, 3) := by decide +kernel
theorem d_MD_mix_281 : decode b_MD_mix 281 = .ok (.iload 6, 2) := by decide +kernel
theorem d_MD_mix_283 : decode b_MD_mix 283 = .ok (.iconst 1, 1) := by decide +kernel
theorem d_MD_mix_284 : decode b_MD_mix 284 = .ok (.isub, 1) := by decide +kernel
theorem d_MD_mix_285 : decode b_MD_mix 285 = .ok (.iaload, 1) := by decide +kernel
theorem d_MD_mix_286 : decode b_MD_mix 286 = .ok (.iastore, 1) := by decide +kernel
theorem d_MD_mix_287 : decode b_MD_mix 287 = .ok (.iinc 6 (-1), 3) := by decide +kernel
theorem d_MD_mix_290 : decode b_MD_mix 290 = .ok (.goto (-24), 3) := by decide +kernel
theorem d_MD_mix_293 : decode b_MD_mix 293 = .ok (.aload_n 0, 1) := by decide +kernel
theorem d_MD_mix_294 : decode b_MD_mix 294 = .ok (.getfield 56, 3) := by decide +kernel
theorem d_MD_mix_297 : decode b_MD_mix 297 = .ok (.iconst 4, 1) := by decide +kernel
theorem d_MD_mix_298 : decode b_MD_mix 298 = .ok (.aload_n 0, 1) := by decide +kernel
theorem d_MD_mix_299 : decode b_MD_mix 299 = .ok (.getfield 56, 3) := by decide +kernel
theorem d_MD_mix_302 : decode b_MD_mix 302 = .ok (.iconst 4, 1) := by decide +kernel
theorem d_MD_mix_303 : decode b_MD_mix 303 = .ok (.iaload, 1) := by decide +kernel
theorem d_MD_mix_304 : decode b_MD_mix 304 = .ok (.iload 4, 2) := by decide +kernel
theorem d_MD_mix_306 : decode b_MD_mix 306 = .ok (.iadd, 1) := by decide +kernel
theorem d_MD_mix_307 : decode b_MD_mix 307 = .ok (.iastore, 1) := by decide +kernel
theorem d_MD_mix_308 : decode b_MD_mix 308 = .ok (.aload_n 0, 1) := by decide +kernel
theorem d_MD_mix_309 : decode b_MD_mix 309 = .ok (.getfield 56, 3) := by decide +kernel
theorem d_MD_mix_312 : decode b_MD_mix 312 = .ok (.iconst 0, 1) := by decide +kernel
theorem d_MD_mix_313 : decode b_MD_mix 313 = .ok (.iload 4, 2) := by decide +kernel
theorem d_MD_mix_315 : decode b_MD_mix 315 = .ok (.iload 5, 2) := by decide +kernel
theorem d_MD_mix_317 : decode b_MD_mix 317 = .ok (.iadd, 1) := by decide +kernel
theorem d_MD_mix_318 : decode b_MD_mix 318 = .ok (.iastore, 1) := by decide +kernel
theorem d_MD_mix_319 : decode b_MD_mix 319 = .ok (.iinc 1 1, 3) := by decide +kernel
theorem d_MD_mix_322 : decode b_MD_mix 322 = .ok (.goto (-198), 3) := by decide +kernel
theorem d_MD_mix_325 : decode b_MD_mix 325 = .ok (.iconst 0, 1) := by decide +kernel
theorem d_MD_mix_326 : decode b_MD_mix 326 = .ok (.istore_n 1, 1) := by decide +kernel
theorem d_MD_mix_327 : decode b_MD_mix 327 = .ok (.iload_n 1, 1) := by decide +kernel
theorem d_MD_mix_328 : decode b_MD_mix 328 = .ok (.bipush 8, 2) := by decide +kernel
theorem d_MD_mix_330 : decode b_MD_mix 330 = .ok (.if_icmp .ge 28, 3) := by decide +kernel
theorem d_MD_mix_333 : decode b_MD_mix 333 = .ok (.aload_n 0, 1) := by decide +kernel
theorem d_MD_mix_334 : decode b_MD_mix 334 = .ok (.getfield 56, 3) := by decide +kernel
theorem d_MD_mix_337 : decode b_MD_mix 337 = .ok (.iload_n 1, 1) := by decide +kernel
theorem d_MD_mix_338 : decode b_MD_mix 338 = .ok (.aload_n 0, 1) := by decide +kernel
theorem d_MD_mix_339 : decode b_MD_mix 339 = .ok (.getfield 56, 3) := by decide +kernel
theorem d_MD_mix_342 : decode b_MD_mix 342 = .ok (.iload_n 1, 1) := by decide +kernel
theorem d_MD_mix_343 : decode b_MD_mix 343 = .ok (.iaload, 1) := by decide +kernel
theorem d_MD_mix_344 : decode b_MD_mix 344 = .ok (.aload_n 0, 1) := by decide +kernel
theorem d_MD_mix_345 : decode b_MD_mix 345 = .ok (.getfield 59, 3) := by decide +kernel
theorem d_MD_mix_348 : decode b_MD_mix 348 = .ok (.iload_n 1, 1) := by decide +kernel
theorem d_MD_mix_349 : decode b_MD_mix 349 = .ok (.iaload, 1) := by decide +kernel
theorem d_MD_mix_350 : decode b_MD_mix 350 = .ok (.iadd, 1) := by decide +kernel
theorem d_MD_mix_351 : decode b_MD_mix 351 = .ok (.iastore, 1) := by decide +kernel
theorem d_MD_mix_352 : decode b_MD_mix 352 = .ok (.iinc 1 1, 3) := by decide +kernel
theorem d_MD_mix_355 : decode b_MD_mix 355 = .ok (.goto (-28), 3) := by decide +kernel
theorem d_MD_mix_358 : decode b_MD_mix 358 = .ok (.return_, 1) := by decide +kernel
theorem d_MD_reckon_0 : decode b_MD_reckon 0 = .ok (.iconst 0, 1) := by decide +kernel
theorem d_MD_reckon_1 : decode b_MD_reckon 1 = .ok (.istore_n 2, 1) := by decide +kernel
theorem d_MD_reckon_2 : decode b_MD_reckon 2 = .ok (.iload_n 2, 1) := by decide +kernel
theorem d_MD_reckon_3 : decode b_MD_reckon 3 = .ok (.bipush 8, 2) := by decide +kernel
theorem d_MD_reckon_5 : decode b_MD_reckon 5 = .ok (.if_icmp .ge 21, 3) := by decide +kernel
theorem d_MD_reckon_8 : decode b_MD_reckon 8 = .ok (.aload_n 0, 1) := by decide +kernel
theorem d_MD_reckon_9 : decode b_MD_reckon 9 = .ok (.getfield 56, 3) := by decide +kernel
theorem d_MD_reckon_12 : decode b_MD_reckon 12 = .ok (.iload_n 2, 1) := by decide +kernel
theorem d_MD_reckon_13 : decode b_MD_reckon 13 = .ok (.aload_n 0, 1) := by decide +kernel
theorem d_MD_reckon_14 : decode b_MD_reckon 14 = .ok (.getfield 137, 3) := by decide +kernel
theorem d_MD_reckon_17 : decode b_MD_reckon 17 = .ok (.iload_n 2, 1) := by decide +kernel
theorem d_MD_reckon_18 : decode b_MD_reckon 18 = .ok (.iaload, 1) := by decide +kernel
theorem d_MD_reckon_19 : decode b_MD_reckon 19 = .ok (.iastore, 1) := by decide +kernel
theorem d_MD_reckon_20 : decode b_MD_reckon 20 = .ok (.iinc 2 1, 3) := by decide +kernel
theorem d_MD_reckon_23 : decode b_MD_reckon 23 = .ok (.goto (-21), 3) := by decide +kernel
theorem d_MD_reckon_26 : decode b_MD_reckon 26 = .ok (.iload_n 1, 1) := by decide +kernel
theorem d_MD_reckon_27 : decode b_MD_reckon 27 = .ok (.bipush 9, 2) := by decide +kernel
theorem d_MD_reckon_29 : decode b_MD_reckon 29 = .ok (.iadd, 1) := by decide +kernel
theorem d_MD_reckon_30 : decode b_MD_reckon 30 = .ok (.bipush 63, 2) := by decide +kernel
theorem d_MD_reckon_32 : decode b_MD_reckon 32 = .ok (.iadd, 1) := by decide +kernel
theorem d_MD_reckon_33 : decode b_MD_reckon 33 = .ok (.bipush 64, 2) := by decide +kernel
theorem d_MD_reckon_35 : decode b_MD_reckon 35 = .ok (.idiv, 1) := by decide +kernel
theorem d_MD_reckon_36 : decode b_MD_reckon 36 = .ok (.bipush 64, 2) := by decide +kernel
theorem d_MD_reckon_38 : decode b_MD_reckon 38 = .ok (.imul, 1) := by decide +kernel
theorem d_MD_reckon_39 : decode b_MD_reckon 39 = .ok (.istore_n 2, 1) := by decide +kernel
theorem d_MD_reckon_40 : decode b_MD_reckon 40 = .ok (.iload_n 1, 1) := by decide +kernel
theorem d_MD_reckon_41 : decode b_MD_reckon 41 = .ok (.istore_n 3, 1) := by decide +kernel
theorem d_MD_reckon_42 : decode b_MD_reckon 42 = .ok (.iload_n 3, 1) := by decide +kernel
theorem d_MD_reckon_43 : decode b_MD_reckon 43 = .ok (.iload_n 2, 1) := by decide +kernel
theorem d_MD_reckon_44 : decode b_MD_reckon 44 = .ok (.if_icmp .ge 51, 3) := by decide +kernel
theorem d_MD_reckon_47 : decode b_MD_reckon 47 = .ok (.aload_n 0, 1) := by decide +kernel
theorem d_MD_reckon_48 : decode b_MD_reckon 48 = .ok (.getfield 47, 3) := by decide +kernel
theorem d_MD_reckon_51 : decode b_MD_reckon 51 = .ok (.iload_n 3, 1) := by decide +kernel
theorem d_MD_reckon_52 : decode b_MD_reckon 52 = .ok (.iload_n 3, 1) := by decide +kernel
theorem d_MD_reckon_53 : decode b_MD_reckon 53 = .ok (.iload_n 1, 1) := by decide +kernel
theorem d_MD_reckon_54 : decode b_MD_reckon 54 = .ok (.if_icmp .ne 9, 3) := by decide +kernel
theorem d_MD_reckon_57 : decode b_MD_reckon 57 = .ok (.sipush 128, 3) := by decide +kernel
theorem d_MD_reckon_60 : decode b_MD_reckon 60 = .ok (.goto 27, 3) := by decide +kernel
theorem d_MD_reckon_63 : decode b_MD_reckon 63 = .ok (.iload_n 3, 1) := by decide +kernel
theorem d_MD_reckon_64 : decode b_MD_reckon 64 = .ok (.iload_n 2, 1) := by decide +kernel
theorem d_MD_reckon_65 : decode b_MD_reckon 65 = .ok (.iconst 4, 1) := by decide +kernel
theorem d_MD_reckon_66 : decode b_MD_reckon 66 = .ok (.isub, 1) := by decide +kernel
theorem d_MD_reckon_67 : decode b_MD_reckon 67 = .ok (.if_icmp .ge 7, 3) := by decide +kernel
theorem d_MD_reckon_70 : decode b_MD_reckon 70 = .ok (.iconst 0, 1) := by decide +kernel
theorem d_MD_reckon_71 : decode b_MD_reckon 71 = .ok (.goto 16, 3) := by decide +kernel
theorem d_MD_reckon_74 : decode b_MD_reckon 74 = .ok (.bipush 8, 2) := by decide +kernel
theorem d_MD_reckon_76 : decode b_MD_reckon 76 = .ok (.iload_n 1, 1) := by decide +kernel
theorem d_MD_reckon_77 : decode b_MD_reckon 77 = .ok (.imul, 1) := by decide +kernel
theorem d_MD_reckon_78 : decode b_MD_reckon 78 = .ok (.bipush 8, 2) := by decide +kernel
theorem d_MD_reckon_80 : decode b_MD_reckon 80 = .ok (.iload_n 2, 1) := by decide +kernel
theorem d_MD_reckon_81 : decode b_MD_reckon 81 = .ok (.iconst 1, 1) := by decide +kernel
theorem d_MD_reckon_82 : decode b_MD_reckon 82 = .ok (.isub, 1) := by decide +kernel
theorem d_MD_reckon_83 : decode b_MD_reckon 83 = .ok (.iload_n 3, 1) := by decide +kernel
theorem d_MD_reckon_84 : decode b_MD_reckon 84 = .ok (.isub, 1) := by decide +kernel
theorem d_MD_reckon_85 : decode b_MD_reckon 85 = .ok (.imul, 1) := by decide +kernel
theorem d_MD_reckon_86 : decode b_MD_reckon 86 = .ok (.ishr, 1) := by decide +kernel
theorem d_MD_reckon_87 : decode b_MD_reckon 87 = .ok (.i2b, 1) := by decide +kernel
theorem d_MD_reckon_88 : decode b_MD_reckon 88 = .ok (.bastore, 1) := by decide +kernel
theorem d_MD_reckon_89 : decode b_MD_reckon 89 = .ok (.iinc 3 1, 3) := by decide +kernel
theorem d_MD_reckon_92 : decode b_MD_reckon 92 = .ok (.goto (-50), 3) := by decide +kernel
theorem d_MD_reckon_95 : decode b_MD_reckon 95 = .ok (.iconst 0, 1) := by decide +kernel
theorem d_MD_reckon_96 : decode b_MD_reckon 96 = .ok (.istore_n 3, 1) := by decide +kernel
theorem d_MD_reckon_97 : decode b_MD_reckon 97 = .ok (.iload_n 3, 1) := by decide +kernel
theorem d_MD_reckon_98 : decode b_MD_reckon 98 = .ok (.iload_n 2, 1) := by decide +kernel
theorem d_MD_reckon_99 : decode b_MD_reckon 99 = .ok (.if_icmp .ge 88, 3) := by decide +kernel
theorem d_MD_reckon_102 : decode b_MD_reckon 102 = .ok (.iconst 0, 1) := by decide +kernel
theorem d_MD_reckon_103 : decode b_MD_reckon 103 = .ok (.istore 4, 2) := by decide +kernel
theorem d_MD_reckon_105 : decode b_MD_reckon 105 = .ok (.iload 4, 2) := by decide +kernel
theorem d_MD_reckon_107 : decode b_MD_reckon 107 = .ok (.bipush 16, 2) := by decide +kernel
theorem d_MD_reckon_109 : decode b_MD_reckon 109 = .ok (.if_icmp .ge 68, 3) := by decide +kernel
theorem d_MD_reckon_112 : decode b_MD_reckon 112 = .ok (.aload_n 0, 1) := by decide +kernel
theorem d_MD_reckon_113 : decode b_MD_reckon 113 = .ok (.getfield 53, 3) := by decide +kernel
theorem d_MD_reckon_116 : decode b_MD_reckon 116 = .ok (.iload 4, 2) := by decide +kernel
theorem d_MD_reckon_118 : decode b_MD_reckon 118 = .ok (.iconst 0, 1) := by decide +kernel
theorem d_MD_reckon_119 : decode b_MD_reckon 119 = .ok (.iastore, 1) := by decide +kernel
theorem d_MD_reckon_120 : decode b_MD_reckon 120 = .ok (.iconst 0, 1) := by decide +kernel
theorem d_MD_reckon_121 : decode b_MD_reckon 121 = .ok (.istore 5, 2) := by decide +kernel
theorem d_MD_reckon_123 : decode b_MD_reckon 123 = .ok (.iload 5, 2) := by decide +kernel
theorem d_MD_reckon_125 : decode b_MD_reckon 125 = .ok (.iconst 4, 1) := by decide +kernel
theorem d_MD_reckon_126 : decode b_MD_reckon 126 = .ok (.if_icmp .ge 45, 3) := by decide +kernel
theorem d_MD_reckon_129 : decode b_MD_reckon 129 = .ok (.aload_n 0, 1) := by decide +kernel
theorem d_MD_reckon_130 : decode b_MD_reckon 130 = .ok (.getfield 53, 3) := by decide +kernel
theorem d_MD_reckon_133 : decode b_MD_reckon 133 = .ok (.iload 4, 2) := by decide +kernel
theorem d_MD_reckon_135 : decode b_MD_reckon 135 = .ok (.aload_n 0, 1) := by decide +kernel
theorem d_MD_reckon_136 : decode b_MD_reckon 136 = .ok (.getfield 53, 3) := by decide +kernel
theorem d_MD_reckon_139 : decode b_MD_reckon 139 = .ok (.iload 4, 2) := by decide +kernel
theorem d_MD_reckon_141 : decode b_MD_reckon 141 = .ok (.iaload, 1) := by decide +kernel
theorem d_MD_reckon_142 : decode b_MD_reckon 142 = .ok (.bipush 8, 2) := by decide +kernel
theorem d_MD_reckon_144 : decode b_MD_reckon 144 = .ok (.ishl, 1) := by decide +kernel
theorem d_MD_reckon_145 : decode b_MD_reckon 145 = .ok (.aload_n 0, 1) := by decide +kernel
theorem d_MD_reckon_146 : decode b_MD_reckon 146 = .ok (.getfield 47, 3) := by decide +kernel
theorem d_MD_reckon_149 : decode b_MD_reckon 149 = .ok (.iload_n 3, 1) := by decide +kernel
theorem d_MD_reckon_150 : decode b_MD_reckon 150 = .ok (.iconst 4, 1) := by decide +kernel
theorem d_MD_reckon_151 : decode b_MD_reckon 151 = .ok (.iload 4, 2) := by decide +kernel
theorem d_MD_reckon_153 : decode b_MD_reckon 153 = .ok (.imul, 1) := by decide +kernel
theorem d_MD_reckon_154 : decode b_MD_reckon 154 = .ok (.iadd, 1) := by decide +kernel
theorem d_MD_reckon_155 : decode b_MD_reckon 155 = .ok (.iload 5, 2) := by decide +kernel
theorem d_MD_reckon_157 : decode b_MD_reckon 157 = .ok (.iadd, 1) := by decide +kernel
theorem d_MD_reckon_158 : decode b_MD_reckon 158 = .ok (.baload, 1) := by decide +kernel
theorem d_MD_reckon_159 : decode b_MD_reckon 159 = .ok (.sipush 255, 3) := by decide +kernel
theorem d_MD_reckon_162 : decode b_MD_reckon 162 = .ok (.iand, 1) := by decide +kernel
theorem d_MD_reckon_163 : decode b_MD_reckon 163 = .ok (.ior, 1) := by decide +kernel
theorem d_MD_reckon_164 : decode b_MD_reckon 164 = .ok (.iastore, 1) := by decide +kernel
theorem d_MD_reckon_165 : decode b_MD_reckon 165 = .ok (.iinc 5 1, 3) := by decide +kernel
theorem d_MD_reckon_168 : decode b_MD_reckon 168 = .ok (.goto (-45), 3) := by decide +kernel
theorem d_MD_reckon_171 : decode b_MD_reckon 171 = .ok (.iinc 4 1, 3) := by decide +kernel
theorem d_MD_reckon_174 : decode b_MD_reckon 174 = .ok (.goto (-69), 3) := by decide +kernel
theorem d_MD_reckon_177 : decode b_MD_reckon 177 = .ok (.aload_n 0, 1) := by decide +kernel
theorem d_MD_reckon_178 : decode b_MD_reckon 178 = .ok (.invokevirtual 171, 3) := by decide +kernel
theorem d_MD_reckon_181 : decode b_MD_reckon 181 = .ok (.iinc 3 64, 3) := by decide +kernel
theorem d_MD_reckon_184 : decode b_MD_reckon 184 = .ok (.goto (-87), 3) := by decide +kernel
theorem d_MD_reckon_187 : decode b_MD_reckon 187 = .ok (.iconst 0, 1) := by decide +kernel
theorem d_MD_reckon_188 : decode b_MD_reckon 188 = .ok (.istore_n 3, 1) := by decide +kernel
theorem d_MD_reckon_189 : decode b_MD_reckon 189 = .ok (.iload_n 3, 1) := by decide +kernel
theorem d_MD_reckon_190 : decode b_MD_reckon 190 = .ok (.bipush 32, 2) := by decide +kernel
theorem d_MD_reckon_192 : decode b_MD_reckon 192 = .ok (.if_icmp .ge 34, 3) := by decide +kernel
theorem d_MD_reckon_195 : decode b_MD_reckon 195 = .ok (.aload_n 0, 1) := by decide +kernel
theorem d_MD_reckon_196 : decode b_MD_reckon 196 = .ok (.getfield 50, 3) := by decide +kernel
theorem d_MD_reckon_199 : decode b_MD_reckon 199 = .ok (.iload_n 3, 1) := by decide +kernel
theorem d_MD_reckon_200 : decode b_MD_reckon 200 = .ok (.aload_n 0, 1) := by decide +kernel
theorem d_MD_reckon_201 : decode b_MD_reckon 201 = .ok (.getfield 56, 3) := by decide +kernel
theorem d_MD_reckon_204 : decode b_MD_reckon 204 = .ok (.iload_n 3, 1) := by decide +kernel
theorem d_MD_reckon_205 : decode b_MD_reckon 205 = .ok (.iconst 4, 1) := by decide +kernel
theorem d_MD_reckon_206 : decode b_MD_reckon 206 = .ok (.idiv, 1) := by decide +kernel
theorem d_MD_reckon_207 : decode b_MD_reckon 207 = .ok (.iaload, 1) := by decide +kernel
theorem d_MD_reckon_208 : decode b_MD_reckon 208 = .ok (.bipush 24, 2) := by decide +kernel
theorem d_MD_reckon_210 : decode b_MD_reckon 210 = .ok (.bipush 8, 2) := by decide +kernel
theorem d_MD_reckon_212 : decode b_MD_reckon 212 = .ok (.iload_n 3, 1) := by decide +kernel
theorem d_MD_reckon_213 : decode b_MD_reckon 213 = .ok (.iconst 4, 1) := by decide +kernel
theorem d_MD_reckon_214 : decode b_MD_reckon 214 = .ok (.irem, 1) := by decide +kernel
theorem d_MD_reckon_215 : decode b_MD_reckon 215 = .ok (.imul, 1) := by decide +kernel
theorem d_MD_reckon_216 : decode b_MD_reckon 216 = .ok (.isub, 1) := by decide +kernel
theorem d_MD_reckon_217 : decode b_MD_reckon 217 = .ok (.ishr, 1) := by decide +kernel
theorem d_MD_reckon_218 : decode b_MD_reckon 218 = .ok (.i2b, 1) := by decide +kernel
theorem d_MD_reckon_219 : decode b_MD_reckon 219 = .ok (.bastore, 1) := by decide +kernel
theorem d_MD_reckon_220 : decode b_MD_reckon 220 = .ok (.iinc 3 1, 3) := by decide +kernel
theorem d_MD_reckon_223 : decode b_MD_reckon 223 = .ok (.goto (-34), 3) := by decide +kernel
theorem d_MD_reckon_226 : decode b_MD_reckon 226 = .ok (.return_, 1) := by decide +kernel
theorem d_MD_padKey_0 : decode b_MD_padKey 0 = .ok (.iconst 0, 1) := by decide +kernel
theorem d_MD_padKey_1 : decode b_MD_padKey 1 = .ok (.istore_n 3, 1) := by decide +kernel
theorem d_MD_padKey_2 : decode b_MD_padKey 2 = .ok (.iload_n 3, 1) := by decide +kernel
theorem d_MD_padKey_3 : decode b_MD_padKey 3 = .ok (.bipush 64, 2) := by decide +kernel
theorem d_MD_padKey_5 : decode b_MD_padKey 5 = .ok (.if_icmp .ge 55, 3) := by decide +kernel
theorem d_MD_padKey_8 : decode b_MD_padKey 8 = .ok (.iload_n 3, 1) := by decide +kernel
theorem d_MD_padKey_9 : decode b_MD_padKey 9 = .ok (.bipush 32, 2) := by decide +kernel
theorem d_MD_padKey_11 : decode b_MD_padKey 11 = .ok (.if_icmp .ge 29, 3) := by decide +kernel
theorem d_MD_padKey_14 : decode b_MD_padKey 14 = .ok (.aload_n 0, 1) := by decide +kernel
theorem d_MD_padKey_15 : decode b_MD_padKey 15 = .ok (.getfield 13, 3) := by decide +kernel
theorem d_MD_padKey_18 : decode b_MD_padKey 18 = .ok (.iload_n 1, 1) := by decide +kernel
theorem d_MD_padKey_19 : decode b_MD_padKey 19 = .ok (.bipush 8, 2) := by decide +kernel
theorem d_MD_padKey_21 : decode b_MD_padKey 21 = .ok (.iadd, 1) := by decide +kernel
theorem d_MD_padKey_22 : decode b_MD_padKey 22 = .ok (.iload_n 3, 1) := by decide +kernel
theorem d_MD_padKey_23 : decode b_MD_padKey 23 = .ok (.iconst 4, 1) := by decide +kernel
theorem d_MD_padKey_24 : decode b_MD_padKey 24 = .ok (.idiv, 1) := by decide +kernel
theorem d_MD_padKey_25 : decode b_MD_padKey 25 = .ok (.iadd, 1) := by decide +kernel
theorem d_MD_padKey_26 : decode b_MD_padKey 26 = .ok (.iaload, 1) := by decide +kernel
theorem d_MD_padKey_27 : decode b_MD_padKey 27 = .ok (.bipush 24, 2) := by decide +kernel
theorem d_MD_padKey_29 : decode b_MD_padKey 29 = .ok (.bipush 8, 2) := by decide +kernel
theorem d_MD_padKey_31 : decode b_MD_padKey 31 = .ok (.iload_n 3, 1) := by decide +kernel
theorem d_MD_padKey_32 : decode b_MD_padKey 32 = .ok (.iconst 4, 1) := by decide +kernel
theorem d_MD_padKey_33 : decode b_MD_padKey 33 = .ok (.irem, 1) := by decide +kernel
theorem d_MD_padKey_34 : decode b_MD_padKey 34 = .ok (.imul, 1) := by decide +kernel
theorem d_MD_padKey_35 : decode b_MD_padKey 35 = .ok (.isub, 1) := by decide +kernel
theorem d_MD_padKey_36 : decode b_MD_padKey 36 = .ok (.ishr, 1) := by decide +kernel
theorem d_MD_padKey_37 : decode b_MD_padKey 37 = .ok (.goto 4, 3) := by decide +kernel
theorem d_MD_padKey_40 : decode b_MD_padKey 40 = .ok (.iconst 0, 1) := by decide +kernel
theorem d_MD_padKey_41 : decode b_MD_padKey 41 = .ok (.istore 4, 2) := by decide +kernel
theorem d_MD_padKey_43 : decode b_MD_padKey 43 = .ok (.aload_n 0, 1) := by decide +kernel
theorem d_MD_padKey_44 : decode b_MD_padKey 44 = .ok (.getfield 47, 3) := by decide +kernel
theorem d_MD_padKey_47 : decode b_MD_padKey 47 = .ok (.iload_n 3, 1) := by decide +kernel
theorem d_MD_padKey_48 : decode b_MD_padKey 48 = .ok (.iload 4, 2) := by decide +kernel
theorem d_MD_padKey_50 : decode b_MD_padKey 50 = .ok (.iload_n 2, 1) := by decide +kernel
theorem d_MD_padKey_51 : decode b_MD_padKey 51 = .ok (.ixor, 1) := by decide +kernel
theorem d_MD_padKey_52 : decode b_MD_padKey 52 = .ok (.i2b, 1) := by decide +kernel
theorem d_MD_padKey_53 : decode b_MD_padKey 53 = .ok (.bastore, 1) := by decide +kernel
theorem d_MD_padKey_54 : decode b_MD_padKey 54 = .ok (.iinc 3 1, 3) := by decide +kernel
theorem d_MD_padKey_57 : decode b_MD_padKey 57 = .ok (.goto (-55), 3) := by decide +kernel
theorem d_MD_padKey_60 : decode b_MD_padKey 60 = .ok (.return_, 1) := by decide +kernel
theorem d_MD_seal_0 : decode b_MD_seal 0 = .ok (.aload_n 0, 1) := by decide +kernel
theorem d_MD_seal_1 : decode b_MD_seal 1 = .ok (.bipush 16, 2) := by decide +kernel
theorem d_MD_seal_3 : decode b_MD_seal 3 = .ok (.iload_n 1, 1) := by decide +kernel
theorem d_MD_seal_4 : decode b_MD_seal 4 = .ok (.imul, 1) := by decide +kernel
theorem d_MD_seal_5 : decode b_MD_seal 5 = .ok (.bipush 54, 2) := by decide +kernel
theorem d_MD_seal_7 : decode b_MD_seal 7 = .ok (.invokevirtual 174, 3) := by decide +kernel
theorem d_MD_seal_10 : decode b_MD_seal 10 = .ok (.iconst 0, 1) := by decide +kernel
theorem d_MD_seal_11 : decode b_MD_seal 11 = .ok (.istore_n 3, 1) := by decide +kernel
theorem d_MD_seal_12 : decode b_MD_seal 12 = .ok (.iload_n 3, 1) := by decide +kernel
theorem d_MD_seal_13 : decode b_MD_seal 13 = .ok (.iconst 4, 1) := by decide +kernel
theorem d_MD_seal_14 : decode b_MD_seal 14 = .ok (.if_icmp .ge 33, 3) := by decide +kernel
theorem d_MD_seal_17 : decode b_MD_seal 17 = .ok (.aload_n 0, 1) := by decide +kernel
theorem d_MD_seal_18 : decode b_MD_seal 18 = .ok (.getfield 47, 3) := by decide +kernel
theorem d_MD_seal_21 : decode b_MD_seal 21 = .ok (.bipush 64, 2) := by decide +kernel
theorem d_MD_seal_23 : decode b_MD_seal 23 = .ok (.iload_n 3, 1) := by decide +kernel
theorem d_MD_seal_24 : decode b_MD_seal 24 = .ok (.iadd, 1) := by decide +kernel
theorem d_MD_seal_25 : decode b_MD_seal 25 = .ok (.aload_n 0, 1) := by decide +kernel
theorem d_MD_seal_26 : decode b_MD_seal 26 = .ok (.getfield 16, 3) := by decide +kernel
theorem d_MD_seal_29 : decode b_MD_seal 29 = .ok (.iload_n 1, 1) := by decide +kernel
theorem d_MD_seal_30 : decode b_MD_seal 30 = .ok (.iaload, 1) := by decide +kernel
theorem d_MD_seal_31 : decode b_MD_seal 31 = .ok (.bipush 24, 2) := by decide +kernel
theorem d_MD_seal_33 : decode b_MD_seal 33 = .ok (.bipush 8, 2) := by decide +kernel
theorem d_MD_seal_35 : decode b_MD_seal 35 = .ok (.iload_n 3, 1) := by decide +kernel
theorem d_MD_seal_36 : decode b_MD_seal 36 = .ok (.imul, 1) := by decide +kernel
theorem d_MD_seal_37 : decode b_MD_seal 37 = .ok (.isub, 1) := by decide +kernel
theorem d_MD_seal_38 : decode b_MD_seal 38 = .ok (.ishr, 1) := by decide +kernel
theorem d_MD_seal_39 : decode b_MD_seal 39 = .ok (.i2b, 1) := by decide +kernel
theorem d_MD_seal_40 : decode b_MD_seal 40 = .ok (.bastore, 1) := by decide +kernel
theorem d_MD_seal_41 : decode b_MD_seal 41 = .ok (.iinc 3 1, 3) := by decide +kernel
theorem d_MD_seal_44 : decode b_MD_seal 44 = .ok (.goto (-32), 3) := by decide +kernel
theorem d_MD_seal_47 : decode b_MD_seal 47 = .ok (.iconst 0, 1) := by decide +kernel
theorem d_MD_seal_48 : decode b_MD_seal 48 = .ok (.istore_n 3, 1) := by decide +kernel
theorem d_MD_seal_49 : decode b_MD_seal 49 = .ok (.iload_n 3, 1) := by decide +kernel
theorem d_MD_seal_50 : decode b_MD_seal 50 = .ok (.iload_n 2, 1) := by decide +kernel
theorem d_MD_seal_51 : decode b_MD_seal 51 = .ok (.if_icmp .ge 24, 3) := by decide +kernel
theorem d_MD_seal_54 : decode b_MD_seal 54 = .ok (.aload_n 0, 1) := by decide +kernel
theorem d_MD_seal_55 : decode b_MD_seal 55 = .ok (.getfield 47, 3) := by decide +kernel
theorem d_MD_seal_58 : decode b_MD_seal 58 = .ok (.bipush 68, 2) := by decide +kernel
theorem d_MD_seal_60 : decode b_MD_seal 60 = .ok (.iload_n 3, 1) := by decide +kernel
theorem d_MD_seal_61 : decode b_MD_seal 61 = .ok (.iadd, 1) := by decide +kernel
theorem d_MD_seal_62 : decode b_MD_seal 62 = .ok (.aload_n 0, 1) := by decide +kernel
theorem d_MD_seal_63 : decode b_MD_seal 63 = .ok (.getfield 44, 3) := by decide +kernel
theorem d_MD_seal_66 : decode b_MD_seal 66 = .ok (.iload_n 3, 1) := by decide +kernel
theorem d_MD_seal_67 : decode b_MD_seal 67 = .ok (.baload, 1) := by decide +kernel
theorem d_MD_seal_68 : decode b_MD_seal 68 = .ok (.bastore, 1) := by decide +kernel
theorem d_MD_seal_69 : decode b_MD_seal 69 = .ok (.iinc 3 1, 3) := by decide +kernel
theorem d_MD_seal_72 : decode b_MD_seal 72 = .ok (.goto (-23), 3) := by decide +kernel
theorem d_MD_seal_75 : decode b_MD_seal 75 = .ok (.aload_n 0, 1) := by decide +kernel
theorem d_MD_seal_76 : decode b_MD_seal 76 = .ok (.bipush 68, 2) := by decide +kernel
theorem d_MD_seal_78 : decode b_MD_seal 78 = .ok (.iload_n 2, 1) := by decide +kernel
theorem d_MD_seal_79 : decode b_MD_seal 79 = .ok (.iadd, 1) := by decide +kernel
theorem d_MD_seal_80 : decode b_MD_seal 80 = .ok (.invokevirtual 178, 3) := by decide +kernel
theorem d_MD_seal_83 : decode b_MD_seal 83 = .ok (.aload_n 0, 1) := by decide +kernel
theorem d_MD_seal_84 : decode b_MD_seal 84 = .ok (.bipush 16, 2) := by decide +kernel
theorem d_MD_seal_86 : decode b_MD_seal 86 = .ok (.iload_n 1, 1) := by decide +kernel
theorem d_MD_seal_87 : decode b_MD_seal 87 = .ok (.imul, 1) := by decide +kernel
theorem d_MD_seal_88 : decode b_MD_seal 88 = .ok (.bipush 92, 2) := by decide +kernel
theorem d_MD_seal_90 : decode b_MD_seal 90 = .ok (.invokevirtual 174, 3) := by decide +kernel
theorem d_MD_seal_93 : decode b_MD_seal 93 = .ok (.iconst 0, 1) := by decide +kernel
theorem d_MD_seal_94 : decode b_MD_seal 94 = .ok (.istore_n 3, 1) := by decide +kernel
theorem d_MD_seal_95 : decode b_MD_seal 95 = .ok (.iload_n 3, 1) := by decide +kernel
theorem d_MD_seal_96 : decode b_MD_seal 96 = .ok (.bipush 32, 2) := by decide +kernel
theorem d_MD_seal_98 : decode b_MD_seal 98 = .ok (.if_icmp .ge 24, 3) := by decide +kernel
theorem d_MD_seal_101 : decode b_MD_seal 101 = .ok (.aload_n 0, 1) := by decide +kernel
theorem d_MD_seal_102 : decode b_MD_seal 102 = .ok (.getfield 47, 3) := by decide +kernel
theorem d_MD_seal_105 : decode b_MD_seal 105 = .ok (.bipush 64, 2) := by decide +kernel
theorem d_MD_seal_107 : decode b_MD_seal 107 = .ok (.iload_n 3, 1) := by decide +kernel
theorem d_MD_seal_108 : decode b_MD_seal 108 = .ok (.iadd, 1) := by decide +kernel
theorem d_MD_seal_109 : decode b_MD_seal 109 = .ok (.aload_n 0, 1) := by decide +kernel
theorem d_MD_seal_110 : decode b_MD_seal 110 = .ok (.getfield 50, 3) := by decide +kernel
theorem d_MD_seal_113 : decode b_MD_seal 113 = .ok (.iload_n 3, 1) := by decide +kernel
theorem d_MD_seal_114 : decode b_MD_seal 114 = .ok (.baload, 1) := by decide +kernel
theorem d_MD_seal_115 : decode b_MD_seal 115 = .ok (.bastore, 1) := by decide +kernel
theorem d_MD_seal_116 : decode b_MD_seal 116 = .ok (.iinc 3 1, 3) := by decide +kernel
theorem d_MD_seal_119 : decode b_MD_seal 119 = .ok (.goto (-24), 3) := by decide +kernel
theorem d_MD_seal_122 : decode b_MD_seal 122 = .ok (.aload_n 0, 1) := by decide +kernel
theorem d_MD_seal_123 : decode b_MD_seal 123 = .ok (.bipush 96, 2) := by decide +kernel
theorem d_MD_seal_125 : decode b_MD_seal 125 = .ok (.invokevirtual 178, 3) := by decide +kernel
theorem d_MD_seal_128 : decode b_MD_seal 128 = .ok (.return_, 1) := by decide +kernel
theorem d_MD_key_0 : decode b_MD_key 0 = .ok (.aload_n 0, 1) := by decide +kernel
theorem d_MD_key_1 : decode b_MD_key 1 = .ok (.iload_n 1, 1) := by decide +kernel
theorem d_MD_key_2 : decode b_MD_key 2 = .ok (.ifCond .lt 9, 3) := by decide +kernel
theorem d_MD_key_5 : decode b_MD_key 5 = .ok (.iload_n 1, 1) := by decide +kernel
theorem d_MD_key_6 : decode b_MD_key 6 = .ok (.bipush 15, 2) := by decide +kernel
theorem d_MD_key_8 : decode b_MD_key 8 = .ok (.if_icmp .le 7, 3) := by decide +kernel
theorem d_MD_key_11 : decode b_MD_key 11 = .ok (.iconst 1, 1) := by decide +kernel
theorem d_MD_key_12 : decode b_MD_key 12 = .ok (.goto 4, 3) := by decide +kernel
theorem d_MD_key_15 : decode b_MD_key 15 = .ok (.iconst 0, 1) := by decide +kernel
theorem d_MD_key_16 : decode b_MD_key 16 = .ok (.iconst 0, 1) := by decide +kernel
theorem d_MD_key_17 : decode b_MD_key 17 = .ok (.invokevirtual 181, 3) := by decide +kernel
theorem d_MD_key_20 : decode b_MD_key 20 = .ok (.ifCond .ne 10, 3) := by decide +kernel
theorem d_MD_key_23 : decode b_MD_key 23 = .ok (.aload_n 0, 1) := by decide +kernel
theorem d_MD_key_24 : decode b_MD_key 24 = .ok (.getfield 7, 3) := by decide +kernel
theorem d_MD_key_27 : decode b_MD_key 27 = .ok (.iload_n 1, 1) := by decide +kernel
theorem d_MD_key_28 : decode b_MD_key 28 = .ok (.iload_n 2, 1) := by decide +kernel
theorem d_MD_key_29 : decode b_MD_key 29 = .ok (.iastore, 1) := by decide +kernel
theorem d_MD_key_30 : decode b_MD_key 30 = .ok (.return_, 1) := by decide +kernel
theorem d_MD_copyNext_0 : decode b_MD_copyNext 0 = .ok (.iconst 0, 1) := by decide +kernel
theorem d_MD_copyNext_1 : decode b_MD_copyNext 1 = .ok (.istore_n 2, 1) := by decide +kernel
theorem d_MD_copyNext_2 : decode b_MD_copyNext 2 = .ok (.iload_n 2, 1) := by decide +kernel
theorem d_MD_copyNext_3 : decode b_MD_copyNext 3 = .ok (.bipush 16, 2) := by decide +kernel
theorem d_MD_copyNext_5 : decode b_MD_copyNext 5 = .ok (.if_icmp .ge 23, 3) := by decide +kernel
theorem d_MD_copyNext_8 : decode b_MD_copyNext 8 = .ok (.aload_n 0, 1) := by decide +kernel
theorem d_MD_copyNext_9 : decode b_MD_copyNext 9 = .ok (.getfield 13, 3) := by decide +kernel
theorem d_MD_copyNext_12 : decode b_MD_copyNext 12 = .ok (.iload_n 1, 1) := by decide +kernel
theorem d_MD_copyNext_13 : decode b_MD_copyNext 13 = .ok (.iload_n 2, 1) := by decide +kernel
theorem d_MD_copyNext_14 : decode b_MD_copyNext 14 = .ok (.iadd, 1) := by decide +kernel
theorem d_MD_copyNext_15 : decode b_MD_copyNext 15 = .ok (.aload_n 0, 1) := by decide +kernel
theorem d_MD_copyNext_16 : decode b_MD_copyNext 16 = .ok (.getfield 7, 3) := by decide +kernel
theorem d_MD_copyNext_19 : decode b_MD_copyNext 19 = .ok (.iload_n 2, 1) := by decide +kernel
theorem d_MD_copyNext_20 : decode b_MD_copyNext 20 = .ok (.iaload, 1) := by decide +kernel
theorem d_MD_copyNext_21 : decode b_MD_copyNext 21 = .ok (.iastore, 1) := by decide +kernel
theorem d_MD_copyNext_22 : decode b_MD_copyNext 22 = .ok (.iinc 2 1, 3) := by decide +kernel
theorem d_MD_copyNext_25 : decode b_MD_copyNext 25 = .ok (.goto (-23), 3) := by decide +kernel
theorem d_MD_copyNext_28 : decode b_MD_copyNext 28 = .ok (.return_, 1) := by decide +kernel
theorem d_MD_turn2_0 : decode b_MD_turn2 0 = .ok (.aload_n 0, 1) := by decide +kernel
theorem d_MD_turn2_1 : decode b_MD_turn2 1 = .ok (.iload_n 1, 1) := by decide +kernel
theorem d_MD_turn2_2 : decode b_MD_turn2 2 = .ok (.ifCond .lt 8, 3) := by decide +kernel
theorem d_MD_turn2_5 : decode b_MD_turn2 5 = .ok (.iload_n 1, 1) := by decide +kernel
theorem d_MD_turn2_6 : decode b_MD_turn2 6 = .ok (.iconst 1, 1) := by decide +kernel
theorem d_MD_turn2_7 : decode b_MD_turn2 7 = .ok (.if_icmp .le 7, 3) := by decide +kernel
theorem d_MD_turn2_10 : decode b_MD_turn2 10 = .ok (.iconst 1, 1) := by decide +kernel
theorem d_MD_turn2_11 : decode b_MD_turn2 11 = .ok (.goto 4, 3) := by decide +kernel
theorem d_MD_turn2_14 : decode b_MD_turn2 14 = .ok (.iconst 0, 1) := by decide +kernel
theorem d_MD_turn2_15 : decode b_MD_turn2 15 = .ok (.iconst 0, 1) := by decide +kernel
theorem d_MD_turn2_16 : decode b_MD_turn2 16 = .ok (.invokevirtual 181, 3) := by decide +kernel
theorem d_MD_turn2_19 : decode b_MD_turn2 19 = .ok (.ifCond .ne 61, 3) := by decide +kernel
theorem d_MD_turn2_22 : decode b_MD_turn2 22 = .ok (.aload_n 0, 1) := by decide +kernel
theorem d_MD_turn2_23 : decode b_MD_turn2 23 = .ok (.iload_n 1, 1) := by decide +kernel
theorem d_MD_turn2_24 : decode b_MD_turn2 24 = .ok (.iconst 1, 1) := by decide +kernel
theorem d_MD_turn2_25 : decode b_MD_turn2 25 = .ok (.if_icmp .ne 10, 3) := by decide +kernel
theorem d_MD_turn2_28 : decode b_MD_turn2 28 = .ok (.aload_n 0, 1) := by decide +kernel
theorem d_MD_turn2_29 : decode b_MD_turn2 29 = .ok (.getfield 185, 3) := by decide +kernel
theorem d_MD_turn2_32 : decode b_MD_turn2 32 = .ok (.ifCond .ne 14, 3) := by decide +kernel
theorem d_MD_turn2_35 : decode b_MD_turn2 35 = .ok (.aload_n 0, 1) := by decide +kernel
theorem d_MD_turn2_36 : decode b_MD_turn2 36 = .ok (.getfield 189, 3) := by decide +kernel
theorem d_MD_turn2_39 : decode b_MD_turn2 39 = .ok (.ifCond .eq 11, 3) := by decide +kernel
theorem d_MD_turn2_42 : decode b_MD_turn2 42 = .ok (.iload_n 1, 1) := by decide +kernel
theorem d_MD_turn2_43 : decode b_MD_turn2 43 = .ok (.ifCond .ne 7, 3) := by decide +kernel
theorem d_MD_turn2_46 : decode b_MD_turn2 46 = .ok (.iconst 1, 1) := by decide +kernel
theorem d_MD_turn2_47 : decode b_MD_turn2 47 = .ok (.goto 4, 3) := by decide +kernel
theorem d_MD_turn2_50 : decode b_MD_turn2 50 = .ok (.iconst 0, 1) := by decide +kernel
theorem d_MD_turn2_51 : decode b_MD_turn2 51 = .ok (.putfield 189, 3) := by decide +kernel
theorem d_MD_turn2_54 : decode b_MD_turn2 54 = .ok (.aload_n 0, 1) := by decide +kernel
theorem d_MD_turn2_55 : decode b_MD_turn2 55 = .ok (.iload_n 1, 1) := by decide +kernel
theorem d_MD_turn2_56 : decode b_MD_turn2 56 = .ok (.ifCond .ne 7, 3) := by decide +kernel
theorem d_MD_turn2_59 : decode b_MD_turn2 59 = .ok (.iconst 0, 1) := by decide +kernel
theorem d_MD_turn2_60 : decode b_MD_turn2 60 = .ok (.goto 17, 3) := by decide +kernel
theorem d_MD_turn2_63 : decode b_MD_turn2 63 = .ok (.aload_n 0, 1) := by decide +kernel
theorem d_MD_turn2_64 : decode b_MD_turn2 64 = .ok (.getfield 185, 3) := by decide +kernel
theorem d_MD_turn2_67 : decode b_MD_turn2 67 = .ok (.ifCond .eq 8, 3) := by decide +kernel
theorem d_MD_turn2_70 : decode b_MD_turn2 70 = .ok (.bipush 32, 2) := by decide +kernel
theorem d_MD_turn2_72 : decode b_MD_turn2 72 = .ok (.goto 5, 3) := by decide +kernel
theorem d_MD_turn2_75 : decode b_MD_turn2 75 = .ok (.bipush 16, 2) := by decide +kernel
theorem d_MD_turn2_77 : decode b_MD_turn2 77 = .ok (.invokevirtual 192, 3) := by decide +kernel
theorem d_MD_turn2_80 : decode b_MD_turn2 80 = .ok (.return_, 1) := by decide +kernel
theorem d_MD_put_0 : decode b_MD_put 0 = .ok (.iload_n 2, 1) := by decide +kernel
theorem d_MD_put_1 : decode b_MD_put 1 = .ok (.iconst 1, 1) := by decide +kernel
theorem d_MD_put_2 : decode b_MD_put 2 = .ok (.if_icmp .lt 8, 3) := by decide +kernel
theorem d_MD_put_5 : decode b_MD_put 5 = .ok (.iload_n 2, 1) := by decide +kernel
theorem d_MD_put_6 : decode b_MD_put 6 = .ok (.iconst 4, 1) := by decide +kernel
theorem d_MD_put_7 : decode b_MD_put 7 = .ok (.if_icmp .le 7, 3) := by decide +kernel
theorem d_MD_put_10 : decode b_MD_put 10 = .ok (.iconst 1, 1) := by decide +kernel
theorem d_MD_put_11 : decode b_MD_put 11 = .ok (.goto 4, 3) := by decide +kernel
theorem d_MD_put_14 : decode b_MD_put 14 = .ok (.iconst 0, 1) := by decide +kernel
theorem d_MD_put_15 : decode b_MD_put 15 = .ok (.istore_n 3, 1) := by decide +kernel
theorem d_MD_put_16 : decode b_MD_put 16 = .ok (.aload_n 0, 1) := by decide +kernel
theorem d_MD_put_17 : decode b_MD_put 17 = .ok (.iload_n 3, 1) := by decide +kernel
theorem d_MD_put_18 : decode b_MD_put 18 = .ok (.iload_n 3, 1) := by decide +kernel
theorem d_MD_put_19 : decode b_MD_put 19 = .ok (.ifCond .ne 19, 3) := by decide +kernel
theorem d_MD_put_22 : decode b_MD_put 22 = .ok (.aload_n 0, 1) := by decide +kernel
theorem d_MD_put_23 : decode b_MD_put 23 = .ok (.getfield 195, 3) := by decide +kernel
theorem d_MD_put_26 : decode b_MD_put 26 = .ok (.iload_n 2, 1) := by decide +kernel
theorem d_MD_put_27 : decode b_MD_put 27 = .ok (.iadd, 1) := by decide +kernel
theorem d_MD_put_28 : decode b_MD_put 28 = .ok (.sipush 500, 3) := by decide +kernel
theorem d_MD_put_31 : decode b_MD_put 31 = .ok (.if_icmp .le 7, 3) := by decide +kernel
theorem d_MD_put_34 : decode b_MD_put 34 = .ok (.iconst 1, 1) := by decide +kernel
theorem d_MD_put_35 : decode b_MD_put 35 = .ok (.goto 4, 3) := by decide +kernel
