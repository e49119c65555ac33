theorem d_MD_put_38 : decode b_MD_put 38 = .ok (.iconst 0, 1) := by decide +kernel
theorem d_MD_put_39 : decode b_MD_put 39 = .ok (.invokevirtual 181, 3) := by decide +kernel
theorem d_MD_put_42 : decode b_MD_put 42 = .ok (.ifCond .eq 5, 3) := by decide +kernel
theorem d_MD_put_45 : decode b_MD_put 45 = .ok (.iconst 0, 1) := by decide +kernel
theorem d_MD_put_46 : decode b_MD_put 46 = .ok (.ireturn, 1) := by decide +kernel
theorem d_MD_put_47 : decode b_MD_put 47 = .ok (.iload_n 2, 1) := by decide +kernel
theorem d_MD_put_48 : decode b_MD_put 48 = .ok (.iconst 1, 1) := by decide +kernel
theorem d_MD_put_49 : decode b_MD_put 49 = .ok (.isub, 1) := by decide +kernel
theorem d_MD_put_50 : decode b_MD_put 50 = .ok (.istore 4, 2) := by decide +kernel
theorem d_MD_put_52 : decode b_MD_put 52 = .ok (.iload 4, 2) := by decide +kernel
theorem d_MD_put_54 : decode b_MD_put 54 = .ok (.ifCond .lt 36, 3) := by decide +kernel
theorem d_MD_put_57 : decode b_MD_put 57 = .ok (.aload_n 0, 1) := by decide +kernel
theorem d_MD_put_58 : decode b_MD_put 58 = .ok (.getfield 19, 3) := by decide +kernel
theorem d_MD_put_61 : decode b_MD_put 61 = .ok (.aload_n 0, 1) := by decide +kernel
theorem d_MD_put_62 : decode b_MD_put 62 = .ok (.getfield 195, 3) := by decide +kernel
theorem d_MD_put_65 : decode b_MD_put 65 = .ok (.iload_n 1, 1) := by decide +kernel
theorem d_MD_put_66 : decode b_MD_put 66 = .ok (.bipush 8, 2) := by decide +kernel
theorem d_MD_put_68 : decode b_MD_put 68 = .ok (.iload 4, 2) := by decide +kernel
theorem d_MD_put_70 : decode b_MD_put 70 = .ok (.imul, 1) := by decide +kernel
theorem d_MD_put_71 : decode b_MD_put 71 = .ok (.ishr, 1) := by decide +kernel
theorem d_MD_put_72 : decode b_MD_put 72 = .ok (.i2b, 1) := by decide +kernel
theorem d_MD_put_73 : decode b_MD_put 73 = .ok (.bastore, 1) := by decide +kernel
theorem d_MD_put_74 : decode b_MD_put 74 = .ok (.aload_n 0, 1) := by decide +kernel
theorem d_MD_put_75 : decode b_MD_put 75 = .ok (.dup, 1) := by decide +kernel
theorem d_MD_put_76 : decode b_MD_put 76 = .ok (.getfield 195, 3) := by decide +kernel
theorem d_MD_put_79 : decode b_MD_put 79 = .ok (.iconst 1, 1) := by decide +kernel
theorem d_MD_put_80 : decode b_MD_put 80 = .ok (.iadd, 1) := by decide +kernel
theorem d_MD_put_81 : decode b_MD_put 81 = .ok (.putfield 195, 3) := by decide +kernel
theorem d_MD_put_84 : decode b_MD_put 84 = .ok (.iinc 4 (-1), 3) := by decide +kernel
theorem d_MD_put_87 : decode b_MD_put 87 = .ok (.goto (-35), 3) := by decide +kernel
theorem d_MD_put_90 : decode b_MD_put 90 = .ok (.aload_n 0, 1) := by decide +kernel
theorem d_MD_put_91 : decode b_MD_put 91 = .ok (.getfield 195, 3) := by decide +kernel
theorem d_MD_put_94 : decode b_MD_put 94 = .ok (.ireturn, 1) := by decide +kernel
theorem d_MD_whole_0 : decode b_MD_whole 0 = .ok (.iconst 5, 1) := by decide +kernel
theorem d_MD_whole_1 : decode b_MD_whole 1 = .ok (.aload_n 0, 1) := by decide +kernel
theorem d_MD_whole_2 : decode b_MD_whole 2 = .ok (.getfield 195, 3) := by decide +kernel
theorem d_MD_whole_5 : decode b_MD_whole 5 = .ok (.iadd, 1) := by decide +kernel
theorem d_MD_whole_6 : decode b_MD_whole 6 = .ok (.iconst 4, 1) := by decide +kernel
theorem d_MD_whole_7 : decode b_MD_whole 7 = .ok (.iadd, 1) := by decide +kernel
theorem d_MD_whole_8 : decode b_MD_whole 8 = .ok (.bipush 15, 2) := by decide +kernel
theorem d_MD_whole_10 : decode b_MD_whole 10 = .ok (.iadd, 1) := by decide +kernel
theorem d_MD_whole_11 : decode b_MD_whole 11 = .ok (.bipush 16, 2) := by decide +kernel
theorem d_MD_whole_13 : decode b_MD_whole 13 = .ok (.idiv, 1) := by decide +kernel
theorem d_MD_whole_14 : decode b_MD_whole 14 = .ok (.bipush 16, 2) := by decide +kernel
theorem d_MD_whole_16 : decode b_MD_whole 16 = .ok (.imul, 1) := by decide +kernel
theorem d_MD_whole_17 : decode b_MD_whole 17 = .ok (.ireturn, 1) := by decide +kernel
theorem d_MD_pack_0 : decode b_MD_pack 0 = .ok (.aload_n 0, 1) := by decide +kernel
theorem d_MD_pack_1 : decode b_MD_pack 1 = .ok (.invokevirtual 198, 3) := by decide +kernel
theorem d_MD_pack_4 : decode b_MD_pack 4 = .ok (.istore 4, 2) := by decide +kernel
theorem d_MD_pack_6 : decode b_MD_pack 6 = .ok (.iconst 0, 1) := by decide +kernel
theorem d_MD_pack_7 : decode b_MD_pack 7 = .ok (.istore 5, 2) := by decide +kernel
theorem d_MD_pack_9 : decode b_MD_pack 9 = .ok (.iload 5, 2) := by decide +kernel
theorem d_MD_pack_11 : decode b_MD_pack 11 = .ok (.iconst 4, 1) := by decide +kernel
theorem d_MD_pack_12 : decode b_MD_pack 12 = .ok (.if_icmp .ge 27, 3) := by decide +kernel
theorem d_MD_pack_15 : decode b_MD_pack 15 = .ok (.aload_n 0, 1) := by decide +kernel
theorem d_MD_pack_16 : decode b_MD_pack 16 = .ok (.getfield 44, 3) := by decide +kernel
theorem d_MD_pack_19 : decode b_MD_pack 19 = .ok (.iload 5, 2) := by decide +kernel
theorem d_MD_pack_21 : decode b_MD_pack 21 = .ok (.iload_n 1, 1) := by decide +kernel
theorem d_MD_pack_22 : decode b_MD_pack 22 = .ok (.bipush 24, 2) := by decide +kernel
theorem d_MD_pack_24 : decode b_MD_pack 24 = .ok (.bipush 8, 2) := by decide +kernel
theorem d_MD_pack_26 : decode b_MD_pack 26 = .ok (.iload 5, 2) := by decide +kernel
theorem d_MD_pack_28 : decode b_MD_pack 28 = .ok (.imul, 1) := by decide +kernel
theorem d_MD_pack_29 : decode b_MD_pack 29 = .ok (.isub, 1) := by decide +kernel
theorem d_MD_pack_30 : decode b_MD_pack 30 = .ok (.ishr, 1) := by decide +kernel
theorem d_MD_pack_31 : decode b_MD_pack 31 = .ok (.i2b, 1) := by decide +kernel
theorem d_MD_pack_32 : decode b_MD_pack 32 = .ok (.bastore, 1) := by decide +kernel
theorem d_MD_pack_33 : decode b_MD_pack 33 = .ok (.iinc 5 1, 3) := by decide +kernel
theorem d_MD_pack_36 : decode b_MD_pack 36 = .ok (.goto (-27), 3) := by decide +kernel
theorem d_MD_pack_39 : decode b_MD_pack 39 = .ok (.aload_n 0, 1) := by decide +kernel
theorem d_MD_pack_40 : decode b_MD_pack 40 = .ok (.getfield 44, 3) := by decide +kernel
theorem d_MD_pack_43 : decode b_MD_pack 43 = .ok (.iconst 4, 1) := by decide +kernel
theorem d_MD_pack_44 : decode b_MD_pack 44 = .ok (.iload_n 2, 1) := by decide +kernel
theorem d_MD_pack_45 : decode b_MD_pack 45 = .ok (.i2b, 1) := by decide +kernel
theorem d_MD_pack_46 : decode b_MD_pack 46 = .ok (.bastore, 1) := by decide +kernel
theorem d_MD_pack_47 : decode b_MD_pack 47 = .ok (.iconst 0, 1) := by decide +kernel
theorem d_MD_pack_48 : decode b_MD_pack 48 = .ok (.istore 5, 2) := by decide +kernel
theorem d_MD_pack_50 : decode b_MD_pack 50 = .ok (.iload 5, 2) := by decide +kernel
theorem d_MD_pack_52 : decode b_MD_pack 52 = .ok (.aload_n 0, 1) := by decide +kernel
theorem d_MD_pack_53 : decode b_MD_pack 53 = .ok (.getfield 195, 3) := by decide +kernel
theorem d_MD_pack_56 : decode b_MD_pack 56 = .ok (.if_icmp .ge 25, 3) := by decide +kernel
theorem d_MD_pack_59 : decode b_MD_pack 59 = .ok (.aload_n 0, 1) := by decide +kernel
theorem d_MD_pack_60 : decode b_MD_pack 60 = .ok (.getfield 44, 3) := by decide +kernel
theorem d_MD_pack_63 : decode b_MD_pack 63 = .ok (.iconst 5, 1) := by decide +kernel
theorem d_MD_pack_64 : decode b_MD_pack 64 = .ok (.iload 5, 2) := by decide +kernel
theorem d_MD_pack_66 : decode b_MD_pack 66 = .ok (.iadd, 1) := by decide +kernel
theorem d_MD_pack_67 : decode b_MD_pack 67 = .ok (.aload_n 0, 1) := by decide +kernel
theorem d_MD_pack_68 : decode b_MD_pack 68 = .ok (.getfield 19, 3) := by decide +kernel
theorem d_MD_pack_71 : decode b_MD_pack 71 = .ok (.iload 5, 2) := by decide +kernel
theorem d_MD_pack_73 : decode b_MD_pack 73 = .ok (.baload, 1) := by decide +kernel
theorem d_MD_pack_74 : decode b_MD_pack 74 = .ok (.bastore, 1) := by decide +kernel
theorem d_MD_pack_75 : decode b_MD_pack 75 = .ok (.iinc 5 1, 3) := by decide +kernel
theorem d_MD_pack_78 : decode b_MD_pack 78 = .ok (.goto (-28), 3) := by decide +kernel
theorem d_MD_pack_81 : decode b_MD_pack 81 = .ok (.iconst 5, 1) := by decide +kernel
theorem d_MD_pack_82 : decode b_MD_pack 82 = .ok (.aload_n 0, 1) := by decide +kernel
theorem d_MD_pack_83 : decode b_MD_pack 83 = .ok (.getfield 195, 3) := by decide +kernel
theorem d_MD_pack_86 : decode b_MD_pack 86 = .ok (.iadd, 1) := by decide +kernel
theorem d_MD_pack_87 : decode b_MD_pack 87 = .ok (.istore 5, 2) := by decide +kernel
theorem d_MD_pack_89 : decode b_MD_pack 89 = .ok (.iload 5, 2) := by decide +kernel
theorem d_MD_pack_91 : decode b_MD_pack 91 = .ok (.iload 4, 2) := by decide +kernel
theorem d_MD_pack_93 : decode b_MD_pack 93 = .ok (.if_icmp .ge 31, 3) := by decide +kernel
theorem d_MD_pack_96 : decode b_MD_pack 96 = .ok (.aload_n 0, 1) := by decide +kernel
theorem d_MD_pack_97 : decode b_MD_pack 97 = .ok (.getfield 44, 3) := by decide +kernel
theorem d_MD_pack_100 : decode b_MD_pack 100 = .ok (.iload 5, 2) := by decide +kernel
theorem d_MD_pack_102 : decode b_MD_pack 102 = .ok (.iload_n 3, 1) := by decide +kernel
theorem d_MD_pack_103 : decode b_MD_pack 103 = .ok (.bipush 37, 2) := by decide +kernel
theorem d_MD_pack_105 : decode b_MD_pack 105 = .ok (.iload 5, 2) := by decide +kernel
theorem d_MD_pack_107 : decode b_MD_pack 107 = .ok (.iconst 5, 1) := by decide +kernel
theorem d_MD_pack_108 : decode b_MD_pack 108 = .ok (.isub, 1) := by decide +kernel
theorem d_MD_pack_109 : decode b_MD_pack 109 = .ok (.aload_n 0, 1) := by decide +kernel
theorem d_MD_pack_110 : decode b_MD_pack 110 = .ok (.getfield 195, 3) := by decide +kernel
theorem d_MD_pack_113 : decode b_MD_pack 113 = .ok (.isub, 1) := by decide +kernel
theorem d_MD_pack_114 : decode b_MD_pack 114 = .ok (.imul, 1) := by decide +kernel
theorem d_MD_pack_115 : decode b_MD_pack 115 = .ok (.iadd, 1) := by decide +kernel
theorem d_MD_pack_116 : decode b_MD_pack 116 = .ok (.i2b, 1) := by decide +kernel
theorem d_MD_pack_117 : decode b_MD_pack 117 = .ok (.bastore, 1) := by decide +kernel
theorem d_MD_pack_118 : decode b_MD_pack 118 = .ok (.iinc 5 1, 3) := by decide +kernel
theorem d_MD_pack_121 : decode b_MD_pack 121 = .ok (.goto (-32), 3) := by decide +kernel
theorem d_MD_pack_124 : decode b_MD_pack 124 = .ok (.aload_n 0, 1) := by decide +kernel
theorem d_MD_pack_125 : decode b_MD_pack 125 = .ok (.iconst 0, 1) := by decide +kernel
theorem d_MD_pack_126 : decode b_MD_pack 126 = .ok (.iload 4, 2) := by decide +kernel
theorem d_MD_pack_128 : decode b_MD_pack 128 = .ok (.invokevirtual 202, 3) := by decide +kernel
theorem d_MD_pack_131 : decode b_MD_pack 131 = .ok (.aload_n 0, 1) := by decide +kernel
theorem d_MD_pack_132 : decode b_MD_pack 132 = .ok (.iconst 0, 1) := by decide +kernel
theorem d_MD_pack_133 : decode b_MD_pack 133 = .ok (.iconst 0, 1) := by decide +kernel
theorem d_MD_pack_134 : decode b_MD_pack 134 = .ok (.iload 4, 2) := by decide +kernel
theorem d_MD_pack_136 : decode b_MD_pack 136 = .ok (.invokevirtual 205, 3) := by decide +kernel
theorem d_MD_pack_139 : decode b_MD_pack 139 = .ok (.iconst 0, 1) := by decide +kernel
theorem d_MD_pack_140 : decode b_MD_pack 140 = .ok (.istore 5, 2) := by decide +kernel
theorem d_MD_pack_142 : decode b_MD_pack 142 = .ok (.iload 5, 2) := by decide +kernel
theorem d_MD_pack_144 : decode b_MD_pack 144 = .ok (.iload 4, 2) := by decide +kernel
theorem d_MD_pack_146 : decode b_MD_pack 146 = .ok (.bipush 32, 2) := by decide +kernel
theorem d_MD_pack_148 : decode b_MD_pack 148 = .ok (.iadd, 1) := by decide +kernel
theorem d_MD_pack_149 : decode b_MD_pack 149 = .ok (.if_icmp .ge 48, 3) := by decide +kernel
theorem d_MD_pack_152 : decode b_MD_pack 152 = .ok (.aload_n 0, 1) := by decide +kernel
theorem d_MD_pack_153 : decode b_MD_pack 153 = .ok (.getfield 23, 3) := by decide +kernel
theorem d_MD_pack_156 : decode b_MD_pack 156 = .ok (.aload_n 0, 1) := by decide +kernel
theorem d_MD_pack_157 : decode b_MD_pack 157 = .ok (.getfield 209, 3) := by decide +kernel
theorem d_MD_pack_160 : decode b_MD_pack 160 = .ok (.iload 5, 2) := by decide +kernel
theorem d_MD_pack_162 : decode b_MD_pack 162 = .ok (.iadd, 1) := by decide +kernel
theorem d_MD_pack_163 : decode b_MD_pack 163 = .ok (.iload 5, 2) := by decide +kernel
theorem d_MD_pack_165 : decode b_MD_pack 165 = .ok (.iload 4, 2) := by decide +kernel
theorem d_MD_pack_167 : decode b_MD_pack 167 = .ok (.if_icmp .ge 13, 3) := by decide +kernel
theorem d_MD_pack_170 : decode b_MD_pack 170 = .ok (.aload_n 0, 1) := by decide +kernel
theorem d_MD_pack_171 : decode b_MD_pack 171 = .ok (.getfield 44, 3) := by decide +kernel
theorem d_MD_pack_174 : decode b_MD_pack 174 = .ok (.iload 5, 2) := by decide +kernel
theorem d_MD_pack_176 : decode b_MD_pack 176 = .ok (.baload, 1) := by decide +kernel
theorem d_MD_pack_177 : decode b_MD_pack 177 = .ok (.goto 13, 3) := by decide +kernel
theorem d_MD_pack_180 : decode b_MD_pack 180 = .ok (.aload_n 0, 1) := by decide +kernel
theorem d_MD_pack_181 : decode b_MD_pack 181 = .ok (.getfield 50, 3) := by decide +kernel
theorem d_MD_pack_184 : decode b_MD_pack 184 = .ok (.iload 5, 2) := by decide +kernel
theorem d_MD_pack_186 : decode b_MD_pack 186 = .ok (.iload 4, 2) := by decide +kernel
theorem d_MD_pack_188 : decode b_MD_pack 188 = .ok (.isub, 1) := by decide +kernel
theorem d_MD_pack_189 : decode b_MD_pack 189 = .ok (.baload, 1) := by decide +kernel
theorem d_MD_pack_190 : decode b_MD_pack 190 = .ok (.bastore, 1) := by decide +kernel
theorem d_MD_pack_191 : decode b_MD_pack 191 = .ok (.iinc 5 1, 3) := by decide +kernel
theorem d_MD_pack_194 : decode b_MD_pack 194 = .ok (.goto (-52), 3) := by decide +kernel
theorem d_MD_pack_197 : decode b_MD_pack 197 = .ok (.aload_n 0, 1) := by decide +kernel
theorem d_MD_pack_198 : decode b_MD_pack 198 = .ok (.aload_n 0, 1) := by decide +kernel
theorem d_MD_pack_199 : decode b_MD_pack 199 = .ok (.getfield 209, 3) := by decide +kernel
theorem d_MD_pack_202 : decode b_MD_pack 202 = .ok (.iload 4, 2) := by decide +kernel
theorem d_MD_pack_204 : decode b_MD_pack 204 = .ok (.iadd, 1) := by decide +kernel
theorem d_MD_pack_205 : decode b_MD_pack 205 = .ok (.bipush 32, 2) := by decide +kernel
theorem d_MD_pack_207 : decode b_MD_pack 207 = .ok (.iadd, 1) := by decide +kernel
theorem d_MD_pack_208 : decode b_MD_pack 208 = .ok (.putfield 209, 3) := by decide +kernel
theorem d_MD_pack_211 : decode b_MD_pack 211 = .ok (.aload_n 0, 1) := by decide +kernel
theorem d_MD_pack_212 : decode b_MD_pack 212 = .ok (.getfield 16, 3) := by decide +kernel
theorem d_MD_pack_215 : decode b_MD_pack 215 = .ok (.iconst 0, 1) := by decide +kernel
theorem d_MD_pack_216 : decode b_MD_pack 216 = .ok (.dup2, 1) := by decide +kernel
theorem d_MD_pack_217 : decode b_MD_pack 217 = .ok (.iaload, 1) := by decide +kernel
theorem d_MD_pack_218 : decode b_MD_pack 218 = .ok (.iconst 1, 1) := by decide +kernel
theorem d_MD_pack_219 : decode b_MD_pack 219 = .ok (.iadd, 1) := by decide +kernel
theorem d_MD_pack_220 : decode b_MD_pack 220 = .ok (.iastore, 1) := by decide +kernel
theorem d_MD_pack_221 : decode b_MD_pack 221 = .ok (.aload_n 0, 1) := by decide +kernel
theorem d_MD_pack_222 : decode b_MD_pack 222 = .ok (.iconst 0, 1) := by decide +kernel
theorem d_MD_pack_223 : decode b_MD_pack 223 = .ok (.putfield 195, 3) := by decide +kernel
theorem d_MD_pack_226 : decode b_MD_pack 226 = .ok (.iload 4, 2) := by decide +kernel
theorem d_MD_pack_228 : decode b_MD_pack 228 = .ok (.bipush 32, 2) := by decide +kernel
theorem d_MD_pack_230 : decode b_MD_pack 230 = .ok (.iadd, 1) := by decide +kernel
theorem d_MD_pack_231 : decode b_MD_pack 231 = .ok (.ireturn, 1) := by decide +kernel
theorem d_MD_send_0 : decode b_MD_send 0 = .ok (.aload_n 0, 1) := by decide +kernel
theorem d_MD_send_1 : decode b_MD_send 1 = .ok (.aload_n 0, 1) := by decide +kernel
theorem d_MD_send_2 : decode b_MD_send 2 = .ok (.getfield 209, 3) := by decide +kernel
theorem d_MD_send_5 : decode b_MD_send 5 = .ok (.aload_n 0, 1) := by decide +kernel
theorem d_MD_send_6 : decode b_MD_send 6 = .ok (.invokevirtual 198, 3) := by decide +kernel
theorem d_MD_send_9 : decode b_MD_send 9 = .ok (.iadd, 1) := by decide +kernel
theorem d_MD_send_10 : decode b_MD_send 10 = .ok (.bipush 32, 2) := by decide +kernel
theorem d_MD_send_12 : decode b_MD_send 12 = .ok (.iadd, 1) := by decide +kernel
theorem d_MD_send_13 : decode b_MD_send 13 = .ok (.sipush 6000, 3) := by decide +kernel
theorem d_MD_send_16 : decode b_MD_send 16 = .ok (.if_icmp .le 7, 3) := by decide +kernel
theorem d_MD_send_19 : decode b_MD_send 19 = .ok (.iconst 1, 1) := by decide +kernel
theorem d_MD_send_20 : decode b_MD_send 20 = .ok (.goto 4, 3) := by decide +kernel
theorem d_MD_send_23 : decode b_MD_send 23 = .ok (.iconst 0, 1) := by decide +kernel
theorem d_MD_send_24 : decode b_MD_send 24 = .ok (.iconst 0, 1) := by decide +kernel
theorem d_MD_send_25 : decode b_MD_send 25 = .ok (.invokevirtual 181, 3) := by decide +kernel
theorem d_MD_send_28 : decode b_MD_send 28 = .ok (.ifCond .eq 5, 3) := by decide +kernel
theorem d_MD_send_31 : decode b_MD_send 31 = .ok (.iconst 0, 1) := by decide +kernel
theorem d_MD_send_32 : decode b_MD_send 32 = .ok (.ireturn, 1) := by decide +kernel
theorem d_MD_send_33 : decode b_MD_send 33 = .ok (.aload_n 0, 1) := by decide +kernel
theorem d_MD_send_34 : decode b_MD_send 34 = .ok (.aload_n 0, 1) := by decide +kernel
theorem d_MD_send_35 : decode b_MD_send 35 = .ok (.invokevirtual 198, 3) := by decide +kernel
theorem d_MD_send_38 : decode b_MD_send 38 = .ok (.iconst 4, 1) := by decide +kernel
theorem d_MD_send_39 : decode b_MD_send 39 = .ok (.isub, 1) := by decide +kernel
theorem d_MD_send_40 : decode b_MD_send 40 = .ok (.aload_n 0, 1) := by decide +kernel
theorem d_MD_send_41 : decode b_MD_send 41 = .ok (.invokevirtual 198, 3) := by decide +kernel
theorem d_MD_send_44 : decode b_MD_send 44 = .ok (.iconst 5, 1) := by decide +kernel
theorem d_MD_send_45 : decode b_MD_send 45 = .ok (.isub, 1) := by decide +kernel
theorem d_MD_send_46 : decode b_MD_send 46 = .ok (.aload_n 0, 1) := by decide +kernel
theorem d_MD_send_47 : decode b_MD_send 47 = .ok (.getfield 195, 3) := by decide +kernel
theorem d_MD_send_50 : decode b_MD_send 50 = .ok (.isub, 1) := by decide +kernel
theorem d_MD_send_51 : decode b_MD_send 51 = .ok (.iload_n 1, 1) := by decide +kernel
theorem d_MD_send_52 : decode b_MD_send 52 = .ok (.invokevirtual 212, 3) := by decide +kernel
theorem d_MD_send_55 : decode b_MD_send 55 = .ok (.ireturn, 1) := by decide +kernel
theorem d_MD_forge_0 : decode b_MD_forge 0 = .ok (.aload_n 0, 1) := by decide +kernel
theorem d_MD_forge_1 : decode b_MD_forge 1 = .ok (.aload_n 0, 1) := by decide +kernel
theorem d_MD_forge_2 : decode b_MD_forge 2 = .ok (.getfield 209, 3) := by decide +kernel
theorem d_MD_forge_5 : decode b_MD_forge 5 = .ok (.aload_n 0, 1) := by decide +kernel
theorem d_MD_forge_6 : decode b_MD_forge 6 = .ok (.invokevirtual 198, 3) := by decide +kernel
theorem d_MD_forge_9 : decode b_MD_forge 9 = .ok (.iadd, 1) := by decide +kernel
theorem d_MD_forge_10 : decode b_MD_forge 10 = .ok (.bipush 32, 2) := by decide +kernel
theorem d_MD_forge_12 : decode b_MD_forge 12 = .ok (.iadd, 1) := by decide +kernel
theorem d_MD_forge_13 : decode b_MD_forge 13 = .ok (.sipush 6000, 3) := by decide +kernel
theorem d_MD_forge_16 : decode b_MD_forge 16 = .ok (.if_icmp .le 7, 3) := by decide +kernel
theorem d_MD_forge_19 : decode b_MD_forge 19 = .ok (.iconst 1, 1) := by decide +kernel
theorem d_MD_forge_20 : decode b_MD_forge 20 = .ok (.goto 4, 3) := by decide +kernel
theorem d_MD_forge_23 : decode b_MD_forge 23 = .ok (.iconst 0, 1) := by decide +kernel
theorem d_MD_forge_24 : decode b_MD_forge 24 = .ok (.iconst 0, 1) := by decide +kernel
theorem d_MD_forge_25 : decode b_MD_forge 25 = .ok (.invokevirtual 181, 3) := by decide +kernel
theorem d_MD_forge_28 : decode b_MD_forge 28 = .ok (.ifCond .eq 5, 3) := by decide +kernel
theorem d_MD_forge_31 : decode b_MD_forge 31 = .ok (.iconst 0, 1) := by decide +kernel
theorem d_MD_forge_32 : decode b_MD_forge 32 = .ok (.ireturn, 1) := by decide +kernel
theorem d_MD_forge_33 : decode b_MD_forge 33 = .ok (.aload_n 0, 1) := by decide +kernel
theorem d_MD_forge_34 : decode b_MD_forge 34 = .ok (.iload_n 1, 1) := by decide +kernel
theorem d_MD_forge_35 : decode b_MD_forge 35 = .ok (.iload_n 2, 1) := by decide +kernel
theorem d_MD_forge_36 : decode b_MD_forge 36 = .ok (.iconst 0, 1) := by decide +kernel
theorem d_MD_forge_37 : decode b_MD_forge 37 = .ok (.invokevirtual 212, 3) := by decide +kernel
theorem d_MD_forge_40 : decode b_MD_forge 40 = .ok (.ireturn, 1) := by decide +kernel
theorem d_MD_onTheWay_0 : decode b_MD_onTheWay 0 = .ok (.aload_n 0, 1) := by decide +kernel
theorem d_MD_onTheWay_1 : decode b_MD_onTheWay 1 = .ok (.iconst 0, 1) := by decide +kernel
theorem d_MD_onTheWay_2 : decode b_MD_onTheWay 2 = .ok (.putfield 144, 3) := by decide +kernel
theorem d_MD_onTheWay_5 : decode b_MD_onTheWay 5 = .ok (.aload_n 0, 1) := by decide +kernel
theorem d_MD_onTheWay_6 : decode b_MD_onTheWay 6 = .ok (.getfield 209, 3) := by decide +kernel
theorem d_MD_onTheWay_9 : decode b_MD_onTheWay 9 = .ok (.ireturn, 1) := by decide +kernel
theorem d_MD_octet_0 : decode b_MD_octet 0 = .ok (.aload_n 0, 1) := by decide +kernel
theorem d_MD_octet_1 : decode b_MD_octet 1 = .ok (.iload_n 1, 1) := by decide +kernel
theorem d_MD_octet_2 : decode b_MD_octet 2 = .ok (.ifCond .lt 11, 3) := by decide +kernel
theorem d_MD_octet_5 : decode b_MD_octet 5 = .ok (.iload_n 1, 1) := by decide +kernel
theorem d_MD_octet_6 : decode b_MD_octet 6 = .ok (.aload_n 0, 1) := by decide +kernel
theorem d_MD_octet_7 : decode b_MD_octet 7 = .ok (.getfield 209, 3) := by decide +kernel
theorem d_MD_octet_10 : decode b_MD_octet 10 = .ok (.if_icmp .lt 7, 3) := by decide +kernel
theorem d_MD_octet_13 : decode b_MD_octet 13 = .ok (.iconst 1, 1) := by decide +kernel
theorem d_MD_octet_14 : decode b_MD_octet 14 = .ok (.goto 4, 3) := by decide +kernel
theorem d_MD_octet_17 : decode b_MD_octet 17 = .ok (.iconst 0, 1) := by decide +kernel
theorem d_MD_octet_18 : decode b_MD_octet 18 = .ok (.iconst 0, 1) := by decide +kernel
theorem d_MD_octet_19 : decode b_MD_octet 19 = .ok (.invokevirtual 181, 3) := by decide +kernel
theorem d_MD_octet_22 : decode b_MD_octet 22 = .ok (.ifCond .eq 7, 3) := by decide +kernel
theorem d_MD_octet_25 : decode b_MD_octet 25 = .ok (.iconst 0, 1) := by decide +kernel
theorem d_MD_octet_26 : decode b_MD_octet 26 = .ok (.goto 13, 3) := by decide +kernel
theorem d_MD_octet_29 : decode b_MD_octet 29 = .ok (.aload_n 0, 1) := by decide +kernel
theorem d_MD_octet_30 : decode b_MD_octet 30 = .ok (.getfield 23, 3) := by decide +kernel
theorem d_MD_octet_33 : decode b_MD_octet 33 = .ok (.iload_n 1, 1) := by decide +kernel
theorem d_MD_octet_34 : decode b_MD_octet 34 = .ok (.baload, 1) := by decide +kernel
theorem d_MD_octet_35 : decode b_MD_octet 35 = .ok (.sipush 255, 3) := by decide +kernel
theorem d_MD_octet_38 : decode b_MD_octet 38 = .ok (.iand, 1) := by decide +kernel
theorem d_MD_octet_39 : decode b_MD_octet 39 = .ok (.ireturn, 1) := by decide +kernel
theorem d_MD_alter_0 : decode b_MD_alter 0 = .ok (.aload_n 0, 1) := by decide +kernel
theorem d_MD_alter_1 : decode b_MD_alter 1 = .ok (.iload_n 1, 1) := by decide +kernel
theorem d_MD_alter_2 : decode b_MD_alter 2 = .ok (.ifCond .lt 11, 3) := by decide +kernel
theorem d_MD_alter_5 : decode b_MD_alter 5 = .ok (.iload_n 1, 1) := by decide +kernel
theorem d_MD_alter_6 : decode b_MD_alter 6 = .ok (.aload_n 0, 1) := by decide +kernel
theorem d_MD_alter_7 : decode b_MD_alter 7 = .ok (.getfield 209, 3) := by decide +kernel
theorem d_MD_alter_10 : decode b_MD_alter 10 = .ok (.if_icmp .lt 7, 3) := by decide +kernel
theorem d_MD_alter_13 : decode b_MD_alter 13 = .ok (.iconst 1, 1) := by decide +kernel
theorem d_MD_alter_14 : decode b_MD_alter 14 = .ok (.goto 4, 3) := by decide +kernel
theorem d_MD_alter_17 : decode b_MD_alter 17 = .ok (.iconst 0, 1) := by decide +kernel
theorem d_MD_alter_18 : decode b_MD_alter 18 = .ok (.iconst 0, 1) := by decide +kernel
theorem d_MD_alter_19 : decode b_MD_alter 19 = .ok (.invokevirtual 181, 3) := by decide +kernel
theorem d_MD_alter_22 : decode b_MD_alter 22 = .ok (.ifCond .ne 18, 3) := by decide +kernel
theorem d_MD_alter_25 : decode b_MD_alter 25 = .ok (.aload_n 0, 1) := by decide +kernel
theorem d_MD_alter_26 : decode b_MD_alter 26 = .ok (.getfield 23, 3) := by decide +kernel
theorem d_MD_alter_29 : decode b_MD_alter 29 = .ok (.iload_n 1, 1) := by decide +kernel
theorem d_MD_alter_30 : decode b_MD_alter 30 = .ok (.aload_n 0, 1) := by decide +kernel
theorem d_MD_alter_31 : decode b_MD_alter 31 = .ok (.getfield 23, 3) := by decide +kernel
theorem d_MD_alter_34 : decode b_MD_alter 34 = .ok (.iload_n 1, 1) := by decide +kernel
theorem d_MD_alter_35 : decode b_MD_alter 35 = .ok (.baload, 1) := by decide +kernel
theorem d_MD_alter_36 : decode b_MD_alter 36 = .ok (.iload_n 2, 1) := by decide +kernel
theorem d_MD_alter_37 : decode b_MD_alter 37 = .ok (.ixor, 1) := by decide +kernel
theorem d_MD_alter_38 : decode b_MD_alter 38 = .ok (.i2b, 1) := by decide +kernel
theorem d_MD_alter_39 : decode b_MD_alter 39 = .ok (.bastore, 1) := by decide +kernel
theorem d_MD_alter_40 : decode b_MD_alter 40 = .ok (.return_, 1) := by decide +kernel
theorem d_MD_link_0 : decode b_MD_link 0 = .ok (.iload_n 1, 1) := by decide +kernel
theorem d_MD_link_1 : decode b_MD_link 1 = .ok (.aload_n 0, 1) := by decide +kernel
theorem d_MD_link_2 : decode b_MD_link 2 = .ok (.getfield 209, 3) := by decide +kernel
theorem d_MD_link_5 : decode b_MD_link 5 = .ok (.if_icmp .ge 7, 3) := by decide +kernel
theorem d_MD_link_8 : decode b_MD_link 8 = .ok (.iload_n 1, 1) := by decide +kernel
theorem d_MD_link_9 : decode b_MD_link 9 = .ok (.goto 7, 3) := by decide +kernel
theorem d_MD_link_12 : decode b_MD_link 12 = .ok (.aload_n 0, 1) := by decide +kernel
theorem d_MD_link_13 : decode b_MD_link 13 = .ok (.getfield 209, 3) := by decide +kernel
theorem d_MD_link_16 : decode b_MD_link 16 = .ok (.istore_n 2, 1) := by decide +kernel
theorem d_MD_link_17 : decode b_MD_link 17 = .ok (.aload_n 0, 1) := by decide +kernel
theorem d_MD_link_18 : decode b_MD_link 18 = .ok (.iload_n 1, 1) := by decide +kernel
theorem d_MD_link_19 : decode b_MD_link 19 = .ok (.ifCond .ge 7, 3) := by decide +kernel
theorem d_MD_link_22 : decode b_MD_link 22 = .ok (.iconst 1, 1) := by decide +kernel
theorem d_MD_link_23 : decode b_MD_link 23 = .ok (.goto 4, 3) := by decide +kernel
theorem d_MD_link_26 : decode b_MD_link 26 = .ok (.iconst 0, 1) := by decide +kernel
theorem d_MD_link_27 : decode b_MD_link 27 = .ok (.aload_n 0, 1) := by decide +kernel
theorem d_MD_link_28 : decode b_MD_link 28 = .ok (.getfield 216, 3) := by decide +kernel
theorem d_MD_link_31 : decode b_MD_link 31 = .ok (.iload_n 2, 1) := by decide +kernel
theorem d_MD_link_32 : decode b_MD_link 32 = .ok (.iadd, 1) := by decide +kernel
theorem d_MD_link_33 : decode b_MD_link 33 = .ok (.sipush 2000, 3) := by decide +kernel
theorem d_MD_link_36 : decode b_MD_link 36 = .ok (.if_icmp .le 7, 3) := by decide +kernel
theorem d_MD_link_39 : decode b_MD_link 39 = .ok (.iconst 1, 1) := by decide +kernel
theorem d_MD_link_40 : decode b_MD_link 40 = .ok (.goto 4, 3) := by decide +kernel
theorem d_MD_link_43 : decode b_MD_link 43 = .ok (.iconst 0, 1) := by decide +kernel
theorem d_MD_link_44 : decode b_MD_link 44 = .ok (.invokevirtual 181, 3) := by decide +kernel
theorem d_MD_link_47 : decode b_MD_link 47 = .ok (.ifCond .eq 5, 3) := by decide +kernel
theorem d_MD_link_50 : decode b_MD_link 50 = .ok (.iconst 0, 1) := by decide +kernel
theorem d_MD_link_51 : decode b_MD_link 51 = .ok (.ireturn, 1) := by decide +kernel
theorem d_MD_link_52 : decode b_MD_link 52 = .ok (.iconst 0, 1) := by decide +kernel
theorem d_MD_link_53 : decode b_MD_link 53 = .ok (.istore_n 3, 1) := by decide +kernel
theorem d_MD_link_54 : decode b_MD_link 54 = .ok (.iload_n 3, 1) := by decide +kernel
theorem d_MD_link_55 : decode b_MD_link 55 = .ok (.iload_n 2, 1) := by decide +kernel
theorem d_MD_link_56 : decode b_MD_link 56 = .ok (.if_icmp .ge 26, 3) := by decide +kernel
theorem d_MD_link_59 : decode b_MD_link 59 = .ok (.aload_n 0, 1) := by decide +kernel
theorem d_MD_link_60 : decode b_MD_link 60 = .ok (.getfield 26, 3) := by decide +kernel
theorem d_MD_link_63 : decode b_MD_link 63 = .ok (.aload_n 0, 1) := by decide +kernel
theorem d_MD_link_64 : decode b_MD_link 64 = .ok (.getfield 216, 3) := by decide +kernel
theorem d_MD_link_67 : decode b_MD_link 67 = .ok (.iload_n 3, 1) := by decide +kernel
theorem d_MD_link_68 : decode b_MD_link 68 = .ok (.iadd, 1) := by decide +kernel
theorem d_MD_link_69 : decode b_MD_link 69 = .ok (.aload_n 0, 1) := by decide +kernel
theorem d_MD_link_70 : decode b_MD_link 70 = .ok (.getfield 23, 3) := by decide +kernel
theorem d_MD_link_73 : decode b_MD_link 73 = .ok (.iload_n 3, 1) := by decide +kernel
theorem d_MD_link_74 : decode b_MD_link 74 = .ok (.baload, 1) := by decide +kernel
theorem d_MD_link_75 : decode b_MD_link 75 = .ok (.bastore, 1) := by decide +kernel
theorem d_MD_link_76 : decode b_MD_link 76 = .ok (.iinc 3 1, 3) := by decide +kernel
theorem d_MD_link_79 : decode b_MD_link 79 = .ok (.goto (-25), 3) := by decide +kernel
theorem d_MD_link_82 : decode b_MD_link 82 = .ok (.aload_n 0, 1) := by decide +kernel
theorem d_MD_link_83 : decode b_MD_link 83 = .ok (.aload_n 0, 1) := by decide +kernel
theorem d_MD_link_84 : decode b_MD_link 84 = .ok (.getfield 216, 3) := by decide +kernel
theorem d_MD_link_87 : decode b_MD_link 87 = .ok (.iload_n 2, 1) := by decide +kernel
theorem d_MD_link_88 : decode b_MD_link 88 = .ok (.iadd, 1) := by decide +kernel
theorem d_MD_link_89 : decode b_MD_link 89 = .ok (.putfield 216, 3) := by decide +kernel
theorem d_MD_link_92 : decode b_MD_link 92 = .ok (.aload_n 0, 1) := by decide +kernel
theorem d_MD_link_93 : decode b_MD_link 93 = .ok (.aload_n 0, 1) := by decide +kernel
theorem d_MD_link_94 : decode b_MD_link 94 = .ok (.getfield 209, 3) := by decide +kernel
theorem d_MD_link_97 : decode b_MD_link 97 = .ok (.iload_n 2, 1) := by decide +kernel
theorem d_MD_link_98 : decode b_MD_link 98 = .ok (.isub, 1) := by decide +kernel
theorem d_MD_link_99 : decode b_MD_link 99 = .ok (.putfield 209, 3) := by decide +kernel
theorem d_MD_link_102 : decode b_MD_link 102 = .ok (.iconst 0, 1) := by decide +kernel
theorem d_MD_link_103 : decode b_MD_link 103 = .ok (.istore_n 3, 1) := by decide +kernel
theorem d_MD_link_104 : decode b_MD_link 104 = .ok (.iload_n 3, 1) := by decide +kernel
theorem d_MD_link_105 : decode b_MD_link 105 = .ok (.aload_n 0, 1) := by decide +kernel
theorem d_MD_link_106 : decode b_MD_link 106 = .ok (.getfield 209, 3) := by decide +kernel
theorem d_MD_link_109 : decode b_MD_link 109 = .ok (.if_icmp .ge 23, 3) := by decide +kernel
theorem d_MD_link_112 : decode b_MD_link 112 = .ok (.aload_n 0, 1) := by decide +kernel
theorem d_MD_link_113 : decode b_MD_link 113 = .ok (.getfield 23, 3) := by decide +kernel
theorem d_MD_link_116 : decode b_MD_link 116 = .ok (.iload_n 3, 1) := by decide +kernel
theorem d_MD_link_117 : decode b_MD_link 117 = .ok (.aload_n 0, 1) := by decide +kernel
theorem d_MD_link_118 : decode b_MD_link 118 = .ok (.getfield 23, 3) := by decide +kernel
theorem d_MD_link_121 : decode b_MD_link 121 = .ok (.iload_n 3, 1) := by decide +kernel
theorem d_MD_link_122 : decode b_MD_link 122 = .ok (.iload_n 2, 1) := by decide +kernel
theorem d_MD_link_123 : decode b_MD_link 123 = .ok (.iadd, 1) := by decide +kernel
theorem d_MD_link_124 : decode b_MD_link 124 = .ok (.baload, 1) := by decide +kernel
theorem d_MD_link_125 : decode b_MD_link 125 = .ok (.bastore, 1) := by decide +kernel
theorem d_MD_link_126 : decode b_MD_link 126 = .ok (.iinc 3 1, 3) := by decide +kernel
theorem d_MD_link_129 : decode b_MD_link 129 = .ok (.goto (-25), 3) := by decide +kernel
theorem d_MD_link_132 : decode b_MD_link 132 = .ok (.iload_n 2, 1) := by decide +kernel
theorem d_MD_link_133 : decode b_MD_link 133 = .ok (.ireturn, 1) := by decide +kernel
theorem d_MD_fail_0 : decode b_MD_fail 0 = .ok (.aload_n 0, 1) := by decide +kernel
theorem d_MD_fail_1 : decode b_MD_fail 1 = .ok (.iload_n 1, 1) := by decide +kernel
theorem d_MD_fail_2 : decode b_MD_fail 2 = .ok (.putfield 219, 3) := by decide +kernel
theorem d_MD_fail_5 : decode b_MD_fail 5 = .ok (.iload_n 1, 1) := by decide +kernel
theorem d_MD_fail_6 : decode b_MD_fail 6 = .ok (.ineg, 1) := by decide +kernel
theorem d_MD_fail_7 : decode b_MD_fail 7 = .ok (.ireturn, 1) := by decide +kernel
theorem d_MD_take_0 : decode b_MD_take 0 = .ok (.aload_n 0, 1) := by decide +kernel
theorem d_MD_take_1 : decode b_MD_take 1 = .ok (.iconst 0, 1) := by decide +kernel
theorem d_MD_take_2 : decode b_MD_take 2 = .ok (.putfield 144, 3) := by decide +kernel
theorem d_MD_take_5 : decode b_MD_take 5 = .ok (.aload_n 0, 1) := by decide +kernel
theorem d_MD_take_6 : decode b_MD_take 6 = .ok (.getfield 219, 3) := by decide +kernel
theorem d_MD_take_9 : decode b_MD_take 9 = .ok (.ifCond .le 9, 3) := by decide +kernel
theorem d_MD_take_12 : decode b_MD_take 12 = .ok (.aload_n 0, 1) := by decide +kernel
theorem d_MD_take_13 : decode b_MD_take 13 = .ok (.getfield 219, 3) := by decide +kernel
theorem d_MD_take_16 : decode b_MD_take 16 = .ok (.ineg, 1) := by decide +kernel
theorem d_MD_take_17 : decode b_MD_take 17 = .ok (.ireturn, 1) := by decide +kernel
theorem d_MD_take_18 : decode b_MD_take 18 = .ok (.aload_n 0, 1) := by decide +kernel
theorem d_MD_take_19 : decode b_MD_take 19 = .ok (.getfield 185, 3) := by decide +kernel
theorem d_MD_take_22 : decode b_MD_take 22 = .ok (.ifCond .ne 14, 3) := by decide +kernel
theorem d_MD_take_25 : decode b_MD_take 25 = .ok (.aload_n 0, 1) := by decide +kernel
theorem d_MD_take_26 : decode b_MD_take 26 = .ok (.getfield 216, 3) := by decide +kernel
theorem d_MD_take_29 : decode b_MD_take 29 = .ok (.bipush 16, 2) := by decide +kernel
theorem d_MD_take_31 : decode b_MD_take 31 = .ok (.if_icmp .ge 5, 3) := by decide +kernel
theorem d_MD_take_34 : decode b_MD_take 34 = .ok (.iconst (-1), 1) := by decide +kernel
theorem d_MD_take_35 : decode b_MD_take 35 = .ok (.ireturn, 1) := by decide +kernel
theorem d_MD_take_36 : decode b_MD_take 36 = .ok (.aload_n 0, 1) := by decide +kernel
theorem d_MD_take_37 : decode b_MD_take 37 = .ok (.getfield 185, 3) := by decide +kernel
theorem d_MD_take_40 : decode b_MD_take 40 = .ok (.ifCond .ne 145, 3) := by decide +kernel
theorem d_MD_take_43 : decode b_MD_take 43 = .ok (.aload_n 0, 1) := by decide +kernel
theorem d_MD_take_44 : decode b_MD_take 44 = .ok (.iconst 1, 1) := by decide +kernel
theorem d_MD_take_45 : decode b_MD_take 45 = .ok (.putfield 185, 3) := by decide +kernel
theorem d_MD_take_48 : decode b_MD_take 48 = .ok (.iconst 0, 1) := by decide +kernel
theorem d_MD_take_49 : decode b_MD_take 49 = .ok (.istore_n 1, 1) := by decide +kernel
theorem d_MD_take_50 : decode b_MD_take 50 = .ok (.iload_n 1, 1) := by decide +kernel
theorem d_MD_take_51 : decode b_MD_take 51 = .ok (.bipush 16, 2) := by decide +kernel
theorem d_MD_take_53 : decode b_MD_take 53 = .ok (.if_icmp .ge 21, 3) := by decide +kernel
theorem d_MD_take_56 : decode b_MD_take 56 = .ok (.aload_n 0, 1) := by decide +kernel
theorem d_MD_take_57 : decode b_MD_take 57 = .ok (.getfield 44, 3) := by decide +kernel
theorem d_MD_take_60 : decode b_MD_take 60 = .ok (.iload_n 1, 1) := by decide +kernel
theorem d_MD_take_61 : decode b_MD_take 61 = .ok (.aload_n 0, 1) := by decide +kernel
theorem d_MD_take_62 : decode b_MD_take 62 = .ok (.getfield 26, 3) := by decide +kernel
theorem d_MD_take_65 : decode b_MD_take 65 = .ok (.iload_n 1, 1) := by decide +kernel
theorem d_MD_take_66 : decode b_MD_take 66 = .ok (.baload, 1) := by decide +kernel
theorem d_MD_take_67 : decode b_MD_take 67 = .ok (.bastore, 1) := by decide +kernel
theorem d_MD_take_68 : decode b_MD_take 68 = .ok (.iinc 1 1, 3) := by decide +kernel
theorem d_MD_take_71 : decode b_MD_take 71 = .ok (.goto (-21), 3) := by decide +kernel
theorem d_MD_take_74 : decode b_MD_take 74 = .ok (.aload_n 0, 1) := by decide +kernel
theorem d_MD_take_75 : decode b_MD_take 75 = .ok (.bipush 16, 2) := by decide +kernel
theorem d_MD_take_77 : decode b_MD_take 77 = .ok (.iconst 0, 1) := by decide +kernel
theorem d_MD_take_78 : decode b_MD_take 78 = .ok (.bipush 16, 2) := by decide +kernel
theorem d_MD_take_80 : decode b_MD_take 80 = .ok (.invokevirtual 205, 3) := by decide +kernel
theorem d_MD_take_83 : decode b_MD_take 83 = .ok (.aload_n 0, 1) := by decide +kernel
theorem d_MD_take_84 : decode b_MD_take 84 = .ok (.iconst 0, 1) := by decide +kernel
theorem d_MD_take_85 : decode b_MD_take 85 = .ok (.putfield 222, 3) := by decide +kernel
theorem d_MD_take_88 : decode b_MD_take 88 = .ok (.iconst 0, 1) := by decide +kernel
theorem d_MD_take_89 : decode b_MD_take 89 = .ok (.istore_n 1, 1) := by decide +kernel
theorem d_MD_take_90 : decode b_MD_take 90 = .ok (.iload_n 1, 1) := by decide +kernel
theorem d_MD_take_91 : decode b_MD_take 91 = .ok (.bipush 16, 2) := by decide +kernel
theorem d_MD_take_93 : decode b_MD_take 93 = .ok (.if_icmp .ge 55, 3) := by decide +kernel
theorem d_MD_take_96 : decode b_MD_take 96 = .ok (.aload_n 0, 1) := by decide +kernel
theorem d_MD_take_97 : decode b_MD_take 97 = .ok (.iload_n 1, 1) := by decide +kernel
theorem d_MD_take_98 : decode b_MD_take 98 = .ok (.iconst 4, 1) := by decide +kernel
theorem d_MD_take_99 : decode b_MD_take 99 = .ok (.if_icmp .ge 24, 3) := by decide +kernel
theorem d_MD_take_102 : decode b_MD_take 102 = .ok (.aload_n 0, 1) := by decide +kernel
theorem d_MD_take_103 : decode b_MD_take 103 = .ok (.getfield 222, 3) := by decide +kernel
theorem d_MD_take_106 : decode b_MD_take 106 = .ok (.bipush 8, 2) := by decide +kernel
theorem d_MD_take_108 : decode b_MD_take 108 = .ok (.ishl, 1) := by decide +kernel
theorem d_MD_take_109 : decode b_MD_take 109 = .ok (.aload_n 0, 1) := by decide +kernel
theorem d_MD_take_110 : decode b_MD_take 110 = .ok (.getfield 44, 3) := by decide +kernel
theorem d_MD_take_113 : decode b_MD_take 113 = .ok (.iload_n 1, 1) := by decide +kernel
theorem d_MD_take_114 : decode b_MD_take 114 = .ok (.baload, 1) := by decide +kernel
theorem d_MD_take_115 : decode b_MD_take 115 = .ok (.sipush 255, 3) := by decide +kernel
theorem d_MD_take_118 : decode b_MD_take 118 = .ok (.iand, 1) := by decide +kernel
theorem d_MD_take_119 : decode b_MD_take 119 = .ok (.ior, 1) := by decide +kernel
theorem d_MD_take_120 : decode b_MD_take 120 = .ok (.goto 7, 3) := by decide +kernel
theorem d_MD_take_123 : decode b_MD_take 123 = .ok (.aload_n 0, 1) := by decide +kernel
theorem d_MD_take_124 : decode b_MD_take 124 = .ok (.getfield 222, 3) := by decide +kernel
theorem d_MD_take_127 : decode b_MD_take 127 = .ok (.putfield 222, 3) := by decide +kernel
theorem d_MD_take_130 : decode b_MD_take 130 = .ok (.aload_n 0, 1) := by decide +kernel
theorem d_MD_take_131 : decode b_MD_take 131 = .ok (.getfield 26, 3) := by decide +kernel
theorem d_MD_take_134 : decode b_MD_take 134 = .ok (.iload_n 1, 1) := by decide +kernel
theorem d_MD_take_135 : decode b_MD_take 135 = .ok (.aload_n 0, 1) := by decide +kernel
theorem d_MD_take_136 : decode b_MD_take 136 = .ok (.getfield 44, 3) := by decide +kernel
theorem d_MD_take_139 : decode b_MD_take 139 = .ok (.iload_n 1, 1) := by decide +kernel
theorem d_MD_take_140 : decode b_MD_take 140 = .ok (.baload, 1) := by decide +kernel
theorem d_MD_take_141 : decode b_MD_take 141 = .ok (.bastore, 1) := by decide +kernel
theorem d_MD_take_142 : decode b_MD_take 142 = .ok (.iinc 1 1, 3) := by decide +kernel
theorem d_MD_take_145 : decode b_MD_take 145 = .ok (.goto (-55), 3) := by decide +kernel
theorem d_MD_take_148 : decode b_MD_take 148 = .ok (.aload_n 0, 1) := by decide +kernel
theorem d_MD_take_149 : decode b_MD_take 149 = .ok (.getfield 222, 3) := by decide +kernel
theorem d_MD_take_152 : decode b_MD_take 152 = .ok (.bipush 12, 2) := by decide +kernel
theorem d_MD_take_154 : decode b_MD_take 154 = .ok (.if_icmp .lt 25, 3) := by decide +kernel
theorem d_MD_take_157 : decode b_MD_take 157 = .ok (.aload_n 0, 1) := by decide +kernel
theorem d_MD_take_158 : decode b_MD_take 158 = .ok (.getfield 222, 3) := by decide +kernel
theorem d_MD_take_161 : decode b_MD_take 161 = .ok (.sipush 540, 3) := by decide +kernel
theorem d_MD_take_164 : decode b_MD_take 164 = .ok (.if_icmp .gt 15, 3) := by decide +kernel
theorem d_MD_take_167 : decode b_MD_take 167 = .ok (.aload_n 0, 1) := by decide +kernel
theorem d_MD_take_168 : decode b_MD_take 168 = .ok (.getfield 222, 3) := by decide +kernel
theorem d_MD_take_171 : decode b_MD_take 171 = .ok (.bipush 16, 2) := by decide +kernel
theorem d_MD_take_173 : decode b_MD_take 173 = .ok (.irem, 1) := by decide +kernel
theorem d_MD_take_174 : decode b_MD_take 174 = .ok (.bipush 12, 2) := by decide +kernel
theorem d_MD_take_176 : decode b_MD_take 176 = .ok (.if_icmp .eq 9, 3) := by decide +kernel
theorem d_MD_take_179 : decode b_MD_take 179 = .ok (.aload_n 0, 1) := by decide +kernel
theorem d_MD_take_180 : decode b_MD_take 180 = .ok (.iconst 2, 1) := by decide +kernel
theorem d_MD_take_181 : decode b_MD_take 181 = .ok (.invokevirtual 225, 3) := by decide +kernel
theorem d_MD_take_184 : decode b_MD_take 184 = .ok (.ireturn, 1) := by decide +kernel
theorem d_MD_take_185 : decode b_MD_take 185 = .ok (.aload_n 0, 1) := by decide +kernel
theorem d_MD_take_186 : decode b_MD_take 186 = .ok (.getfield 216, 3) := by decide +kernel
theorem d_MD_take_189 : decode b_MD_take 189 = .ok (.iconst 4, 1) := by decide +kernel
theorem d_MD_take_190 : decode b_MD_take 190 = .ok (.aload_n 0, 1) := by decide +kernel
theorem d_MD_take_191 : decode b_MD_take 191 = .ok (.getfield 222, 3) := by decide +kernel
theorem d_MD_take_194 : decode b_MD_take 194 = .ok (.iadd, 1) := by decide +kernel
theorem d_MD_take_195 : decode b_MD_take 195 = .ok (.bipush 32, 2) := by decide +kernel
theorem d_MD_take_197 : decode b_MD_take 197 = .ok (.iadd, 1) := by decide +kernel
theorem d_MD_take_198 : decode b_MD_take 198 = .ok (.if_icmp .ge 7, 3) := by decide +kernel
theorem d_MD_take_201 : decode b_MD_take 201 = .ok (.iconst (-1), 1) := by decide +kernel
theorem d_MD_take_202 : decode b_MD_take 202 = .ok (.goto 7, 3) := by decide +kernel
theorem d_MD_take_205 : decode b_MD_take 205 = .ok (.aload_n 0, 1) := by decide +kernel
theorem d_MD_take_206 : decode b_MD_take 206 = .ok (.invokevirtual 228, 3) := by decide +kernel
theorem d_MD_take_209 : decode b_MD_take 209 = .ok (.ireturn, 1) := by decide +kernel
theorem d_MD_open_0 : decode b_MD_open 0 = .ok (.iconst 4, 1) := by decide +kernel
theorem d_MD_open_1 : decode b_MD_open 1 = .ok (.aload_n 0, 1) := by decide +kernel
theorem d_MD_open_2 : decode b_MD_open 2 = .ok (.getfield 222, 3) := by decide +kernel
theorem d_MD_open_5 : decode b_MD_open 5 = .ok (.iadd, 1) := by decide +kernel
theorem d_MD_open_6 : decode b_MD_open 6 = .ok (.istore_n 1, 1) := by decide +kernel
theorem d_MD_open_7 : decode b_MD_open 7 = .ok (.iconst 0, 1) := by decide +kernel
theorem d_MD_open_8 : decode b_MD_open 8 = .ok (.istore_n 2, 1) := by decide +kernel
theorem d_MD_open_9 : decode b_MD_open 9 = .ok (.iload_n 2, 1) := by decide +kernel
theorem d_MD_open_10 : decode b_MD_open 10 = .ok (.iload_n 1, 1) := by decide +kernel
theorem d_MD_open_11 : decode b_MD_open 11 = .ok (.if_icmp .ge 21, 3) := by decide +kernel
theorem d_MD_open_14 : decode b_MD_open 14 = .ok (.aload_n 0, 1) := by decide +kernel
theorem d_MD_open_15 : decode b_MD_open 15 = .ok (.getfield 44, 3) := by decide +kernel
theorem d_MD_open_18 : decode b_MD_open 18 = .ok (.iload_n 2, 1) := by decide +kernel
theorem d_MD_open_19 : decode b_MD_open 19 = .ok (.aload_n 0, 1) := by decide +kernel
theorem d_MD_open_20 : decode b_MD_open 20 = .ok (.getfield 26, 3) := by decide +kernel
theorem d_MD_open_23 : decode b_MD_open 23 = .ok (.iload_n 2, 1) := by decide +kernel
theorem d_MD_open_24 : decode b_MD_open 24 = .ok (.baload, 1) := by decide +kernel
theorem d_MD_open_25 : decode b_MD_open 25 = .ok (.bastore, 1) := by decide +kernel
theorem d_MD_open_26 : decode b_MD_open 26 = .ok (.iinc 2 1, 3) := by decide +kernel
theorem d_MD_open_29 : decode b_MD_open 29 = .ok (.goto (-20), 3) := by decide +kernel
theorem d_MD_open_32 : decode b_MD_open 32 = .ok (.aload_n 0, 1) := by decide +kernel
theorem d_MD_open_33 : decode b_MD_open 33 = .ok (.bipush 16, 2) := by decide +kernel
theorem d_MD_open_35 : decode b_MD_open 35 = .ok (.bipush 16, 2) := by decide +kernel
theorem d_MD_open_37 : decode b_MD_open 37 = .ok (.iload_n 1, 1) := by decide +kernel
theorem d_MD_open_38 : decode b_MD_open 38 = .ok (.invokevirtual 205, 3) := by decide +kernel
theorem d_MD_open_41 : decode b_MD_open 41 = .ok (.aload_n 0, 1) := by decide +kernel
theorem d_MD_open_42 : decode b_MD_open 42 = .ok (.iconst 1, 1) := by decide +kernel
theorem d_MD_open_43 : decode b_MD_open 43 = .ok (.iload_n 1, 1) := by decide +kernel
theorem d_MD_open_44 : decode b_MD_open 44 = .ok (.invokevirtual 202, 3) := by decide +kernel
theorem d_MD_open_47 : decode b_MD_open 47 = .ok (.iconst 0, 1) := by decide +kernel
theorem d_MD_open_48 : decode b_MD_open 48 = .ok (.istore_n 2, 1) := by decide +kernel
theorem d_MD_open_49 : decode b_MD_open 49 = .ok (.iload_n 2, 1) := by decide +kernel
theorem d_MD_open_50 : decode b_MD_open 50 = .ok (.bipush 32, 2) := by decide +kernel
theorem d_MD_open_52 : decode b_MD_open 52 = .ok (.if_icmp .ge 32, 3) := by decide +kernel
theorem d_MD_open_55 : decode b_MD_open 55 = .ok (.aload_n 0, 1) := by decide +kernel
theorem d_MD_open_56 : decode b_MD_open 56 = .ok (.getfield 26, 3) := by decide +kernel
theorem d_MD_open_59 : decode b_MD_open 59 = .ok (.iload_n 1, 1) := by decide +kernel
theorem d_MD_open_60 : decode b_MD_open 60 = .ok (.iload_n 2, 1) := by decide +kernel
theorem d_MD_open_61 : decode b_MD_open 61 = .ok (.iadd, 1) := by decide +kernel
theorem d_MD_open_62 : decode b_MD_open 62 = .ok (.baload, 1) := by decide +kernel
theorem d_MD_open_63 : decode b_MD_open 63 = .ok (.aload_n 0, 1) := by decide +kernel
theorem d_MD_open_64 : decode b_MD_open 64 = .ok (.getfield 50, 3) := by decide +kernel
theorem d_MD_open_67 : decode b_MD_open 67 = .ok (.iload_n 2, 1) := by decide +kernel
theorem d_MD_open_68 : decode b_MD_open 68 = .ok (.baload, 1) := by decide +kernel
theorem d_MD_open_69 : decode b_MD_open 69 = .ok (.if_icmp .eq 9, 3) := by decide +kernel
theorem d_MD_open_72 : decode b_MD_open 72 = .ok (.aload_n 0, 1) := by decide +kernel
theorem d_MD_open_73 : decode b_MD_open 73 = .ok (.iconst 3, 1) := by decide +kernel
theorem d_MD_open_74 : decode b_MD_open 74 = .ok (.invokevirtual 225, 3) := by decide +kernel
theorem d_MD_open_77 : decode b_MD_open 77 = .ok (.ireturn, 1) := by decide +kernel
theorem d_MD_open_78 : decode b_MD_open 78 = .ok (.iinc 2 1, 3) := by decide +kernel
theorem d_MD_open_81 : decode b_MD_open 81 = .ok (.goto (-32), 3) := by decide +kernel
theorem d_MD_open_84 : decode b_MD_open 84 = .ok (.aload_n 0, 1) := by decide +kernel
theorem d_MD_open_85 : decode b_MD_open 85 = .ok (.getfield 44, 3) := by decide +kernel
theorem d_MD_open_88 : decode b_MD_open 88 = .ok (.iconst 4, 1) := by decide +kernel
theorem d_MD_open_89 : decode b_MD_open 89 = .ok (.baload, 1) := by decide +kernel
theorem d_MD_open_90 : decode b_MD_open 90 = .ok (.sipush 255, 3) := by decide +kernel
theorem d_MD_open_93 : decode b_MD_open 93 = .ok (.iand, 1) := by decide +kernel
theorem d_MD_open_94 : decode b_MD_open 94 = .ok (.istore_n 2, 1) := by decide +kernel
theorem d_MD_open_95 : decode b_MD_open 95 = .ok (.iload_n 2, 1) := by decide +kernel
theorem d_MD_open_96 : decode b_MD_open 96 = .ok (.iconst 4, 1) := by decide +kernel
theorem d_MD_open_97 : decode b_MD_open 97 = .ok (.if_icmp .lt 13, 3) := by decide +kernel
theorem d_MD_open_100 : decode b_MD_open 100 = .ok (.iload_n 2, 1) := by decide +kernel
theorem d_MD_open_101 : decode b_MD_open 101 = .ok (.aload_n 0, 1) := by decide +kernel
theorem d_MD_open_102 : decode b_MD_open 102 = .ok (.getfield 222, 3) := by decide +kernel
theorem d_MD_open_105 : decode b_MD_open 105 = .ok (.iconst 1, 1) := by decide +kernel
theorem d_MD_open_106 : decode b_MD_open 106 = .ok (.isub, 1) := by decide +kernel
theorem d_MD_open_107 : decode b_MD_open 107 = .ok (.if_icmp .le 9, 3) := by decide +kernel
theorem d_MD_open_110 : decode b_MD_open 110 = .ok (.aload_n 0, 1) := by decide +kernel
theorem d_MD_open_111 : decode b_MD_open 111 = .ok (.iconst 4, 1) := by decide +kernel
theorem d_MD_open_112 : decode b_MD_open 112 = .ok (.invokevirtual 225, 3) := by decide +kernel
theorem d_MD_open_115 : decode b_MD_open 115 = .ok (.ireturn, 1) := by decide +kernel
theorem d_MD_open_116 : decode b_MD_open 116 = .ok (.aload_n 0, 1) := by decide +kernel
theorem d_MD_open_117 : decode b_MD_open 117 = .ok (.aload_n 0, 1) := by decide +kernel
theorem d_MD_open_118 : decode b_MD_open 118 = .ok (.getfield 222, 3) := by decide +kernel
theorem d_MD_open_121 : decode b_MD_open 121 = .ok (.iconst 1, 1) := by decide +kernel
theorem d_MD_open_122 : decode b_MD_open 122 = .ok (.isub, 1) := by decide +kernel
theorem d_MD_open_123 : decode b_MD_open 123 = .ok (.iload_n 2, 1) := by decide +kernel
theorem d_MD_open_124 : decode b_MD_open 124 = .ok (.isub, 1) := by decide +kernel
theorem d_MD_open_125 : decode b_MD_open 125 = .ok (.putfield 231, 3) := by decide +kernel
theorem d_MD_open_128 : decode b_MD_open 128 = .ok (.iconst 0, 1) := by decide +kernel
theorem d_MD_open_129 : decode b_MD_open 129 = .ok (.istore_n 3, 1) := by decide +kernel
theorem d_MD_open_130 : decode b_MD_open 130 = .ok (.iload_n 3, 1) := by decide +kernel
theorem d_MD_open_131 : decode b_MD_open 131 = .ok (.aload_n 0, 1) := by decide +kernel
theorem d_MD_open_132 : decode b_MD_open 132 = .ok (.getfield 231, 3) := by decide +kernel
theorem d_MD_open_135 : decode b_MD_open 135 = .ok (.if_icmp .ge 23, 3) := by decide +kernel
theorem d_MD_open_138 : decode b_MD_open 138 = .ok (.aload_n 0, 1) := by decide +kernel
theorem d_MD_open_139 : decode b_MD_open 139 = .ok (.getfield 29, 3) := by decide +kernel
theorem d_MD_open_142 : decode b_MD_open 142 = .ok (.iload_n 3, 1) := by decide +kernel
theorem d_MD_open_143 : decode b_MD_open 143 = .ok (.aload_n 0, 1) := by decide +kernel
theorem d_MD_open_144 : decode b_MD_open 144 = .ok (.getfield 44, 3) := by decide +kernel
theorem d_MD_open_147 : decode b_MD_open 147 = .ok (.iconst 5, 1) := by decide +kernel
theorem d_MD_open_148 : decode b_MD_open 148 = .ok (.iload_n 3, 1) := by decide +kernel
theorem d_MD_open_149 : decode b_MD_open 149 = .ok (.iadd, 1) := by decide +kernel
theorem d_MD_open_150 : decode b_MD_open 150 = .ok (.baload, 1) := by decide +kernel
theorem d_MD_open_151 : decode b_MD_open 151 = .ok (.bastore, 1) := by decide +kernel
theorem d_MD_open_152 : decode b_MD_open 152 = .ok (.iinc 3 1, 3) := by decide +kernel
theorem d_MD_open_155 : decode b_MD_open 155 = .ok (.goto (-25), 3) := by decide +kernel
theorem d_MD_open_158 : decode b_MD_open 158 = .ok (.aload_n 0, 1) := by decide +kernel
theorem d_MD_open_159 : decode b_MD_open 159 = .ok (.aload_n 0, 1) := by decide +kernel
theorem d_MD_open_160 : decode b_MD_open 160 = .ok (.getfield 216, 3) := by decide +kernel
theorem d_MD_open_163 : decode b_MD_open 163 = .ok (.iload_n 1, 1) := by decide +kernel
theorem d_MD_open_164 : decode b_MD_open 164 = .ok (.isub, 1) := by decide +kernel
theorem d_MD_open_165 : decode b_MD_open 165 = .ok (.bipush 32, 2) := by decide +kernel
theorem d_MD_open_167 : decode b_MD_open 167 = .ok (.isub, 1) := by decide +kernel
theorem d_MD_open_168 : decode b_MD_open 168 = .ok (.putfield 216, 3) := by decide +kernel
theorem d_MD_open_171 : decode b_MD_open 171 = .ok (.iconst 0, 1) := by decide +kernel
theorem d_MD_open_172 : decode b_MD_open 172 = .ok (.istore_n 3, 1) := by decide +kernel
theorem d_MD_open_173 : decode b_MD_open 173 = .ok (.iload_n 3, 1) := by decide +kernel
theorem d_MD_open_174 : decode b_MD_open 174 = .ok (.aload_n 0, 1) := by decide +kernel
theorem d_MD_open_175 : decode b_MD_open 175 = .ok (.getfield 216, 3) := by decide +kernel
theorem d_MD_open_178 : decode b_MD_open 178 = .ok (.if_icmp .ge 26, 3) := by decide +kernel
theorem d_MD_open_181 : decode b_MD_open 181 = .ok (.aload_n 0, 1) := by decide +kernel
theorem d_MD_open_182 : decode b_MD_open 182 = .ok (.getfield 26, 3) := by decide +kernel
theorem d_MD_open_185 : decode b_MD_open 185 = .ok (.iload_n 3, 1) := by decide +kernel
theorem d_MD_open_186 : decode b_MD_open 186 = .ok (.aload_n 0, 1) := by decide +kernel
theorem d_MD_open_187 : decode b_MD_open 187 = .ok (.getfield 26, 3) := by decide +kernel
theorem d_MD_open_190 : decode b_MD_open 190 = .ok (.iload_n 3, 1) := by decide +kernel
theorem d_MD_open_191 : decode b_MD_open 191 = .ok (.iload_n 1, 1) := by decide +kernel
theorem d_MD_open_192 : decode b_MD_open 192 = .ok (.iadd, 1) := by decide +kernel
theorem d_MD_open_193 : decode b_MD_open 193 = .ok (.bipush 32, 2) := by decide +kernel
theorem d_MD_open_195 : decode b_MD_open 195 = .ok (.iadd, 1) := by decide +kernel
theorem d_MD_open_196 : decode b_MD_open 196 = .ok (.baload, 1) := by decide +kernel
theorem d_MD_open_197 : decode b_MD_open 197 = .ok (.bastore, 1) := by decide +kernel
theorem d_MD_open_198 : decode b_MD_open 198 = .ok (.iinc 3 1, 3) := by decide +kernel
theorem d_MD_open_201 : decode b_MD_open 201 = .ok (.goto (-28), 3) := by decide +kernel
theorem d_MD_open_204 : decode b_MD_open 204 = .ok (.aload_n 0, 1) := by decide +kernel
theorem d_MD_open_205 : decode b_MD_open 205 = .ok (.getfield 16, 3) := by decide +kernel
theorem d_MD_open_208 : decode b_MD_open 208 = .ok (.iconst 1, 1) := by decide +kernel
theorem d_MD_open_209 : decode b_MD_open 209 = .ok (.dup2, 1) := by decide +kernel
theorem d_MD_open_210 : decode b_MD_open 210 = .ok (.iaload, 1) := by decide +kernel
theorem d_MD_open_211 : decode b_MD_open 211 = .ok (.iconst 1, 1) := by decide +kernel
theorem d_MD_open_212 : decode b_MD_open 212 = .ok (.iadd, 1) := by decide +kernel
theorem d_MD_open_213 : decode b_MD_open 213 = .ok (.iastore, 1) := by decide +kernel
theorem d_MD_open_214 : decode b_MD_open 214 = .ok (.aload_n 0, 1) := by decide +kernel
theorem d_MD_open_215 : decode b_MD_open 215 = .ok (.iconst 0, 1) := by decide +kernel
theorem d_MD_open_216 : decode b_MD_open 216 = .ok (.putfield 185, 3) := by decide +kernel
theorem d_MD_open_219 : decode b_MD_open 219 = .ok (.iconst 0, 1) := by decide +kernel
theorem d_MD_open_220 : decode b_MD_open 220 = .ok (.istore_n 3, 1) := by decide +kernel
theorem d_MD_open_221 : decode b_MD_open 221 = .ok (.iload_n 3, 1) := by decide +kernel
theorem d_MD_open_222 : decode b_MD_open 222 = .ok (.bipush 16, 2) := by decide +kernel
theorem d_MD_open_224 : decode b_MD_open 224 = .ok (.if_icmp .ge 34, 3) := by decide +kernel
theorem d_MD_open_227 : decode b_MD_open 227 = .ok (.aload_n 0, 1) := by decide +kernel
theorem d_MD_open_228 : decode b_MD_open 228 = .ok (.getfield 189, 3) := by decide +kernel
theorem d_MD_open_231 : decode b_MD_open 231 = .ok (.ifCond .eq 27, 3) := by decide +kernel
theorem d_MD_open_234 : decode b_MD_open 234 = .ok (.aload_n 0, 1) := by decide +kernel
theorem d_MD_open_235 : decode b_MD_open 235 = .ok (.getfield 13, 3) := by decide +kernel
theorem d_MD_open_238 : decode b_MD_open 238 = .ok (.bipush 16, 2) := by decide +kernel
theorem d_MD_open_240 : decode b_MD_open 240 = .ok (.iload_n 3, 1) := by decide +kernel
theorem d_MD_open_241 : decode b_MD_open 241 = .ok (.iadd, 1) := by decide +kernel
theorem d_MD_open_242 : decode b_MD_open 242 = .ok (.aload_n 0, 1) := by decide +kernel
theorem d_MD_open_243 : decode b_MD_open 243 = .ok (.getfield 13, 3) := by decide +kernel
theorem d_MD_open_246 : decode b_MD_open 246 = .ok (.bipush 32, 2) := by decide +kernel
theorem d_MD_open_248 : decode b_MD_open 248 = .ok (.iload_n 3, 1) := by decide +kernel
theorem d_MD_open_249 : decode b_MD_open 249 = .ok (.iadd, 1) := by decide +kernel
theorem d_MD_open_250 : decode b_MD_open 250 = .ok (.iaload, 1) := by decide +kernel
theorem d_MD_open_251 : decode b_MD_open 251 = .ok (.iastore, 1) := by decide +kernel
theorem d_MD_open_252 : decode b_MD_open 252 = .ok (.iinc 3 1, 3) := by decide +kernel
theorem d_MD_open_255 : decode b_MD_open 255 = .ok (.goto (-34), 3) := by decide +kernel
theorem d_MD_open_258 : decode b_MD_open 258 = .ok (.aload_n 0, 1) := by decide +kernel
theorem d_MD_open_259 : decode b_MD_open 259 = .ok (.iconst 0, 1) := by decide +kernel
theorem d_MD_open_260 : decode b_MD_open 260 = .ok (.putfield 189, 3) := by decide +kernel
theorem d_MD_open_263 : decode b_MD_open 263 = .ok (.aload_n 0, 1) := by decide +kernel
theorem d_MD_open_264 : decode b_MD_open 264 = .ok (.getfield 231, 3) := by decide +kernel
theorem d_MD_open_267 : decode b_MD_open 267 = .ok (.ireturn, 1) := by decide +kernel
theorem d_MD_got_0 : decode b_MD_got 0 = .ok (.aload_n 0, 1) := by decide +kernel
theorem d_MD_got_1 : decode b_MD_got 1 = .ok (.iload_n 1, 1) := by decide +kernel
theorem d_MD_got_2 : decode b_MD_got 2 = .ok (.ifCond .lt 11, 3) := by decide +kernel
theorem d_MD_got_5 : decode b_MD_got 5 = .ok (.iload_n 1, 1) := by decide +kernel
theorem d_MD_got_6 : decode b_MD_got 6 = .ok (.aload_n 0, 1) := by decide +kernel
theorem d_MD_got_7 : decode b_MD_got 7 = .ok (.getfield 231, 3) := by decide +kernel
theorem d_MD_got_10 : decode b_MD_got 10 = .ok (.if_icmp .lt 7, 3) := by decide +kernel
theorem d_MD_got_13 : decode b_MD_got 13 = .ok (.iconst 1, 1) := by decide +kernel
theorem d_MD_got_14 : decode b_MD_got 14 = .ok (.goto 4, 3) := by decide +kernel
theorem d_MD_got_17 : decode b_MD_got 17 = .ok (.iconst 0, 1) := by decide +kernel
theorem d_MD_got_18 : decode b_MD_got 18 = .ok (.iconst 0, 1) := by decide +kernel
theorem d_MD_got_19 : decode b_MD_got 19 = .ok (.invokevirtual 181, 3) := by decide +kernel
theorem d_MD_got_22 : decode b_MD_got 22 = .ok (.ifCond .eq 7, 3) := by decide +kernel
theorem d_MD_got_25 : decode b_MD_got 25 = .ok (.iconst 0, 1) := by decide +kernel
theorem d_MD_got_26 : decode b_MD_got 26 = .ok (.goto 13, 3) := by decide +kernel
theorem d_MD_got_29 : decode b_MD_got 29 = .ok (.aload_n 0, 1) := by decide +kernel
theorem d_MD_got_30 : decode b_MD_got 30 = .ok (.getfield 29, 3) := by decide +kernel
theorem d_MD_got_33 : decode b_MD_got 33 = .ok (.iload_n 1, 1) := by decide +kernel
theorem d_MD_got_34 : decode b_MD_got 34 = .ok (.baload, 1) := by decide +kernel
theorem d_MD_got_35 : decode b_MD_got 35 = .ok (.sipush 255, 3) := by decide +kernel
theorem d_MD_got_38 : decode b_MD_got 38 = .ok (.iand, 1) := by decide +kernel
theorem d_MD_got_39 : decode b_MD_got 39 = .ok (.ireturn, 1) := by decide +kernel
theorem d_MD_number_0 : decode b_MD_number 0 = .ok (.aload_n 0, 1) := by decide +kernel
theorem d_MD_number_1 : decode b_MD_number 1 = .ok (.iload_n 1, 1) := by decide +kernel
theorem d_MD_number_2 : decode b_MD_number 2 = .ok (.ifCond .lt 8, 3) := by decide +kernel
theorem d_MD_number_5 : decode b_MD_number 5 = .ok (.iload_n 1, 1) := by decide +kernel
theorem d_MD_number_6 : decode b_MD_number 6 = .ok (.iconst 1, 1) := by decide +kernel
theorem d_MD_number_7 : decode b_MD_number 7 = .ok (.if_icmp .le 7, 3) := by decide +kernel
theorem d_MD_number_10 : decode b_MD_number 10 = .ok (.iconst 1, 1) := by decide +kernel
theorem d_MD_number_11 : decode b_MD_number 11 = .ok (.goto 4, 3) := by decide +kernel
theorem d_MD_number_14 : decode b_MD_number 14 = .ok (.iconst 0, 1) := by decide +kernel
theorem d_MD_number_15 : decode b_MD_number 15 = .ok (.iconst 0, 1) := by decide +kernel
theorem d_MD_number_16 : decode b_MD_number 16 = .ok (.invokevirtual 181, 3) := by decide +kernel
theorem d_MD_number_19 : decode b_MD_number 19 = .ok (.ifCond .eq 7, 3) := by decide +kernel
theorem d_MD_number_22 : decode b_MD_number 22 = .ok (.iconst 0, 1) := by decide +kernel
theorem d_MD_number_23 : decode b_MD_number 23 = .ok (.goto 9, 3) := by decide +kernel
theorem d_MD_number_26 : decode b_MD_number 26 = .ok (.aload_n 0, 1) := by decide +kernel
theorem d_MD_number_27 : decode b_MD_number 27 = .ok (.getfield 16, 3) := by decide +kernel
theorem d_MD_number_30 : decode b_MD_number 30 = .ok (.iload_n 1, 1) := by decide +kernel
theorem d_MD_number_31 : decode b_MD_number 31 = .ok (.iaload, 1) := by decide +kernel
theorem d_MD_number_32 : decode b_MD_number 32 = .ok (.ireturn, 1) := by decide +kernel
theorem d_MD_begin_0 : decode b_MD_begin 0 = .ok (.aload_n 0, 1) := by decide +kernel
theorem d_MD_begin_1 : decode b_MD_begin 1 = .ok (.iconst 0, 1) := by decide +kernel
theorem d_MD_begin_2 : decode b_MD_begin 2 = .ok (.putfield 144, 3) := by decide +kernel
theorem d_MD_begin_5 : decode b_MD_begin 5 = .ok (.iconst 0, 1) := by decide +kernel
theorem d_MD_begin_6 : decode b_MD_begin 6 = .ok (.istore_n 1, 1) := by decide +kernel
theorem d_MD_begin_7 : decode b_MD_begin 7 = .ok (.iload_n 1, 1) := by decide +kernel
theorem d_MD_begin_8 : decode b_MD_begin 8 = .ok (.bipush 16, 2) := by decide +kernel
theorem d_MD_begin_10 : decode b_MD_begin 10 = .ok (.if_icmp .ge 33, 3) := by decide +kernel
