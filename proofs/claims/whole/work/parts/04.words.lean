theorem i_PG : ∀ w ∈ u_ws R_PG F_PG 14, w ∈ tb := by decide +kernel
theorem i_MD : ∀ w ∈ u_ws R_MD F_MD 28, w ∈ tb := by decide +kernel
theorem i_BQ : ∀ w ∈ u_ws R_BQ F_BQ 3, w ∈ tb := by decide +kernel
theorem i_CC : ∀ w ∈ u_ws R_CC F_CC 3, w ∈ tb := by decide +kernel
theorem i_DG : ∀ w ∈ u_ws R_DG F_DG 2, w ∈ tb := by decide +kernel
theorem i_KY : ∀ w ∈ u_ws R_KY F_KY 1, w ∈ tb := by decide +kernel
theorem i_SL : ∀ w ∈ u_ws R_SL F_SL 2, w ∈ tb := by decide +kernel
theorem i_SD : ∀ w ∈ u_ws R_SD F_SD 2, w ∈ tb := by decide +kernel
theorem m_0 : (.initialized R_LW : Cond) ∈ tb := tb_in 34 (by decide +kernel) rfl
theorem m_1 : (.initialized R_PG : Cond) ∈ tb := tb_in 35 (by decide +kernel) rfl
theorem m_2 : (.initialized R_KY : Cond) ∈ tb := tb_in 36 (by decide +kernel) rfl
theorem m_3 : (.initialized R_SD : Cond) ∈ tb := tb_in 37 (by decide +kernel) rfl
theorem m_4 : (.initialized R_BQ : Cond) ∈ tb := tb_in 38 (by decide +kernel) rfl
theorem m_5 : (.initialized R_JM : Cond) ∈ tb := tb_in 39 (by decide +kernel) rfl
theorem m_6 : (.initialized R_CC : Cond) ∈ tb := tb_in 40 (by decide +kernel) rfl
theorem m_7 : (.initialized R_SL : Cond) ∈ tb := tb_in 41 (by decide +kernel) rfl
theorem m_8 : (.initialized R_DG : Cond) ∈ tb := tb_in 42 (by decide +kernel) rfl
theorem m_9 : (.initialized R_MD : Cond) ∈ tb := tb_in 43 (by decide +kernel) rfl
theorem m_10 : (.initialized "java/lang/Throwable" : Cond) ∈ tb := tb_in 44 (by decide +kernel) rfl
theorem m_11 : (.initialized "java/lang/Exception" : Cond) ∈ tb := tb_in 45 (by decide +kernel) rfl
theorem m_12 : (.initialized "java/lang/RuntimeException" : Cond) ∈ tb := tb_in 46 (by decide +kernel) rfl
theorem m_13 : (.initialized "java/lang/IndexOutOfBoundsException" : Cond) ∈ tb := tb_in 47 (by decide +kernel) rfl
theorem m_14 : (.initialized "java/lang/IllegalArgumentException" : Cond) ∈ tb := tb_in 48 (by decide +kernel) rfl
theorem m_15 : (.initialized "java/lang/IllegalStateException" : Cond) ∈ tb := tb_in 49 (by decide +kernel) rfl
theorem m_16 : (.classLink R_LW 8 R_PG : Cond) ∈ tb := tb_in 50 (by decide +kernel) rfl
theorem m_17 : (.instantiable R_PG 14 : Cond) ∈ tb := tb_in 51 (by decide +kernel) rfl
theorem m_18 : (.methodLink R_LW 49 y_PG_init : Cond) ∈ tb := tb_in 52 (by decide +kernel) rfl
theorem m_19 : (.instanceMethod y_PG_init : Cond) ∈ tb := tb_in 53 (by decide +kernel) rfl
set_option maxRecDepth 20000 in
theorem m_20 : (.code y_PG_init b_PG_init 1 none : Cond) ∈ tb := tb_in 54 rfl rfl
theorem m_21 : (.methodLink R_PG 1 objectInit : Cond) ∈ tb := tb_in 55 (by decide +kernel) rfl
theorem m_22 : (.instanceMethod objectInit : Cond) ∈ tb := tb_in 56 (by decide +kernel) rfl
theorem m_24 : (.classLink R_PG 7 R_KY : Cond) ∈ tb := tb_in 58 (by decide +kernel) rfl
theorem m_25 : (.instantiable R_KY 1 : Cond) ∈ tb := tb_in 59 (by decide +kernel) rfl
theorem m_27 : (.instanceMethod y_KY_init : Cond) ∈ tb := tb_in 61 (by decide +kernel) rfl
set_option maxRecDepth 20000 in
theorem m_28 : (.code y_KY_init b_KY_init 1 none : Cond) ∈ tb := tb_in 62 rfl rfl
theorem m_29 : (.methodLink R_KY 1 objectInit : Cond) ∈ tb := tb_in 63 (by decide +kernel) rfl
theorem m_30 : (.fieldLink R_KY 9 R_KY "words" "[I" : Cond) ∈ tb := tb_in 64 (by decide +kernel) rfl
theorem m_34 : (.arrayClass .int : Cond) ∈ tb := tb_in 68 (by decide +kernel) rfl
theorem m_35 : (.classLink R_PG 16 R_SD : Cond) ∈ tb := tb_in 69 (by decide +kernel) rfl
theorem m_36 : (.instantiable R_SD 2 : Cond) ∈ tb := tb_in 70 (by decide +kernel) rfl
theorem m_38 : (.instanceMethod y_SD_init : Cond) ∈ tb := tb_in 72 (by decide +kernel) rfl
set_option maxRecDepth 20000 in
theorem m_39 : (.code y_SD_init b_SD_init 1 none : Cond) ∈ tb := tb_in 73 rfl rfl
theorem m_40 : (.methodLink R_SD 1 objectInit : Cond) ∈ tb := tb_in 74 (by decide +kernel) rfl
theorem m_41 : (.classLink R_SD 7 R_KY : Cond) ∈ tb := tb_in 75 (by decide +kernel) rfl
theorem m_43 : (.fieldLink R_SD 10 R_SD "keys" "LPacketGuard$Keys;" : Cond) ∈ tb := tb_in 77 (by decide +kernel) rfl
theorem m_44 : (.fieldLink R_SD 16 R_SD "nextNumber" "I" : Cond) ∈ tb := tb_in 78 (by decide +kernel) rfl
theorem m_50 : (.classLink R_PG 29 R_BQ : Cond) ∈ tb := tb_in 84 (by decide +kernel) rfl
theorem m_51 : (.instantiable R_BQ 3 : Cond) ∈ tb := tb_in 85 (by decide +kernel) rfl
theorem m_52 : (.methodLink R_PG 31 y_BQ_init : Cond) ∈ tb := tb_in 86 (by decide +kernel) rfl
theorem m_53 : (.instanceMethod y_BQ_init : Cond) ∈ tb := tb_in 87 (by decide +kernel) rfl
set_option maxRecDepth 20000 in
theorem m_54 : (.code y_BQ_init b_BQ_init 2 none : Cond) ∈ tb := tb_in 88 rfl rfl
theorem m_55 : (.methodLink R_BQ 1 objectInit : Cond) ∈ tb := tb_in 89 (by decide +kernel) rfl
theorem m_56 : (.methodLink R_BQ 7 y_JM_max : Cond) ∈ tb := tb_in 90 (by decide +kernel) rfl
theorem m_57 : (.static y_JM_max : Cond) ∈ tb := tb_in 91 (by decide +kernel) rfl
set_option maxRecDepth 20000 in
theorem m_58 : (.code y_JM_max b_JM_max 2 (some .int) : Cond) ∈ tb := tb_in 92 rfl rfl
theorem m_59 : (.fieldLink R_BQ 13 R_BQ "ring" "[B" : Cond) ∈ tb := tb_in 93 (by decide +kernel) rfl
theorem m_60 : (.fieldLink R_BQ 40 R_BQ "start" "I" : Cond) ∈ tb := tb_in 94 (by decide +kernel) rfl
theorem m_61 : (.fieldLink R_BQ 19 R_BQ "size" "I" : Cond) ∈ tb := tb_in 95 (by decide +kernel) rfl
theorem m_69 : (.arrayClass .byte : Cond) ∈ tb := tb_in 103 (by decide +kernel) rfl
theorem m_70 : (.classLink R_PG 50 R_CC : Cond) ∈ tb := tb_in 104 (by decide +kernel) rfl
theorem m_71 : (.instantiable R_CC 3 : Cond) ∈ tb := tb_in 105 (by decide +kernel) rfl
theorem m_73 : (.instanceMethod y_CC_init : Cond) ∈ tb := tb_in 107 (by decide +kernel) rfl
set_option maxRecDepth 20000 in
theorem m_74 : (.code y_CC_init b_CC_init 1 none : Cond) ∈ tb := tb_in 108 rfl rfl
theorem m_75 : (.methodLink R_CC 3 objectInit : Cond) ∈ tb := tb_in 109 (by decide +kernel) rfl
theorem m_76 : (.fieldLink R_CC 11 R_CC "words" "[I" : Cond) ∈ tb := tb_in 110 (by decide +kernel) rfl
theorem m_77 : (.fieldLink R_CC 15 R_CC "block" "[I" : Cond) ∈ tb := tb_in 111 (by decide +kernel) rfl
theorem m_78 : (.fieldLink R_CC 18 R_CC "moved" "[I" : Cond) ∈ tb := tb_in 112 (by decide +kernel) rfl
theorem m_86 : (.classLink R_PG 57 R_SL : Cond) ∈ tb := tb_in 120 (by decide +kernel) rfl
theorem m_87 : (.instantiable R_SL 2 : Cond) ∈ tb := tb_in 121 (by decide +kernel) rfl
theorem m_89 : (.instanceMethod y_SL_init : Cond) ∈ tb := tb_in 123 (by decide +kernel) rfl
set_option maxRecDepth 20000 in
theorem m_90 : (.code y_SL_init b_SL_init 1 none : Cond) ∈ tb := tb_in 124 rfl rfl
theorem m_91 : (.methodLink R_SL 1 objectInit : Cond) ∈ tb := tb_in 125 (by decide +kernel) rfl
theorem m_92 : (.classLink R_SL 7 R_BQ : Cond) ∈ tb := tb_in 126 (by decide +kernel) rfl
theorem m_93 : (.methodLink R_SL 11 y_BQ_init : Cond) ∈ tb := tb_in 127 (by decide +kernel) rfl
theorem m_94 : (.classLink R_SL 18 R_DG : Cond) ∈ tb := tb_in 128 (by decide +kernel) rfl
theorem m_95 : (.instantiable R_DG 2 : Cond) ∈ tb := tb_in 129 (by decide +kernel) rfl
theorem m_97 : (.instanceMethod y_DG_init : Cond) ∈ tb := tb_in 131 (by decide +kernel) rfl
set_option maxRecDepth 20000 in
theorem m_98 : (.code y_DG_init b_DG_init 1 none : Cond) ∈ tb := tb_in 132 rfl rfl
theorem m_99 : (.methodLink R_DG 1 objectInit : Cond) ∈ tb := tb_in 133 (by decide +kernel) rfl
theorem m_100 : (.fieldLink R_DG 9 R_DG "state" "[I" : Cond) ∈ tb := tb_in 134 (by decide +kernel) rfl
theorem m_101 : (.fieldLink R_DG 13 R_DG "w" "[I" : Cond) ∈ tb := tb_in 135 (by decide +kernel) rfl
theorem m_107 : (.fieldLink R_SL 14 R_SL "text" "LPacketGuard$ByteQueue;" : Cond) ∈ tb := tb_in 141 (by decide +kernel) rfl
theorem m_108 : (.fieldLink R_SL 21 R_SL "digest" "LPacketGuard$Digest;" : Cond) ∈ tb := tb_in 142 (by decide +kernel) rfl
theorem m_114 : (.fieldLink R_PG 10 R_PG "nextKeys" "LPacketGuard$Keys;" : Cond) ∈ tb := tb_in 148 (by decide +kernel) rfl
theorem m_115 : (.fieldLink R_PG 19 R_PG "sender" "LPacketGuard$Side;" : Cond) ∈ tb := tb_in 149 (by decide +kernel) rfl
theorem m_116 : (.fieldLink R_PG 23 R_PG "receiver" "LPacketGuard$Side;" : Cond) ∈ tb := tb_in 150 (by decide +kernel) rfl
theorem m_117 : (.fieldLink R_PG 26 R_PG "waitingKeys" "LPacketGuard$Keys;" : Cond) ∈ tb := tb_in 151 (by decide +kernel) rfl
theorem m_118 : (.fieldLink R_PG 80 R_PG "keysWait" "Z" : Cond) ∈ tb := tb_in 152 (by decide +kernel) rfl
theorem m_119 : (.fieldLink R_PG 34 R_PG "payload" "LPacketGuard$ByteQueue;" : Cond) ∈ tb := tb_in 153 (by decide +kernel) rfl
theorem m_120 : (.fieldLink R_PG 38 R_PG "way" "LPacketGuard$ByteQueue;" : Cond) ∈ tb := tb_in 154 (by decide +kernel) rfl
theorem m_121 : (.fieldLink R_PG 41 R_PG "came" "LPacketGuard$ByteQueue;" : Cond) ∈ tb := tb_in 155 (by decide +kernel) rfl
theorem m_122 : (.fieldLink R_PG 44 R_PG "opened" "LPacketGuard$ByteQueue;" : Cond) ∈ tb := tb_in 156 (by decide +kernel) rfl
theorem m_123 : (.fieldLink R_PG 47 R_PG "packet" "LPacketGuard$ByteQueue;" : Cond) ∈ tb := tb_in 157 (by decide +kernel) rfl
theorem m_124 : (.fieldLink R_PG 53 R_PG "cipher" "LPacketGuard$CounterCipher;" : Cond) ∈ tb := tb_in 158 (by decide +kernel) rfl
theorem m_125 : (.fieldLink R_PG 60 R_PG "sealer" "LPacketGuard$Sealer;" : Cond) ∈ tb := tb_in 159 (by decide +kernel) rfl
theorem m_126 : (.fieldLink R_PG 72 R_PG "knownLength" "I" : Cond) ∈ tb := tb_in 160 (by decide +kernel) rfl
theorem m_127 : (.fieldLink R_PG 134 R_PG "fault" "I" : Cond) ∈ tb := tb_in 161 (by decide +kernel) rfl
theorem m_157 : (.methodLink R_LW 78 y_PG_onTheWay : Cond) ∈ tb := tb_in 191 (by decide +kernel) rfl
theorem m_158 : (.instanceMethod y_PG_onTheWay : Cond) ∈ tb := tb_in 192 (by decide +kernel) rfl
theorem m_159 : (.selects R_PG y_PG_onTheWay y_PG_onTheWay : Cond) ∈ tb := tb_in 193 (by decide +kernel) rfl
set_option maxRecDepth 20000 in
theorem m_160 : (.code y_PG_onTheWay b_PG_onTheWay 1 (some .int) : Cond) ∈ tb := tb_in 194 rfl rfl
theorem m_161 : (.methodLink R_PG 95 y_BQ_size : Cond) ∈ tb := tb_in 195 (by decide +kernel) rfl
theorem m_162 : (.instanceMethod y_BQ_size : Cond) ∈ tb := tb_in 196 (by decide +kernel) rfl
theorem m_163 : (.selects R_BQ y_BQ_size y_BQ_size : Cond) ∈ tb := tb_in 197 (by decide +kernel) rfl
set_option maxRecDepth 20000 in
theorem m_164 : (.code y_BQ_size b_BQ_size 1 (some .int) : Cond) ∈ tb := tb_in 198 rfl rfl
theorem m_165 : (.methodLink R_LW 91 y_PG_take : Cond) ∈ tb := tb_in 199 (by decide +kernel) rfl
theorem m_166 : (.instanceMethod y_PG_take : Cond) ∈ tb := tb_in 200 (by decide +kernel) rfl
theorem m_167 : (.selects R_PG y_PG_take y_PG_take : Cond) ∈ tb := tb_in 201 (by decide +kernel) rfl
set_option maxRecDepth 20000 in
theorem m_168 : (.code y_PG_take b_PG_take 2 (some .int) : Cond) ∈ tb := tb_in 202 rfl rfl
theorem m_169 : (.methodLink R_PG 137 y_PG_learnLength : Cond) ∈ tb := tb_in 203 (by decide +kernel) rfl
theorem m_171 : (.instanceMethod y_PG_learnLength : Cond) ∈ tb := tb_in 205 (by decide +kernel) rfl
set_option maxRecDepth 20000 in
theorem m_172 : (.code y_PG_learnLength b_PG_learnLength 3 none : Cond) ∈ tb := tb_in 206 rfl rfl
theorem m_173 : (.methodLink R_PG 84 y_SD_keys : Cond) ∈ tb := tb_in 207 (by decide +kernel) rfl
theorem m_174 : (.instanceMethod y_SD_keys : Cond) ∈ tb := tb_in 208 (by decide +kernel) rfl
theorem m_175 : (.selects R_SD y_SD_keys y_SD_keys : Cond) ∈ tb := tb_in 209 (by decide +kernel) rfl
set_option maxRecDepth 20000 in
theorem m_176 : (.code y_SD_keys b_SD_keys 1 (some (.object "PacketGuard$Keys")) : Cond) ∈ tb := tb_in 210 rfl rfl
theorem m_177 : (.methodLink R_PG 188 y_CC_firstBlock : Cond) ∈ tb := tb_in 211 (by decide +kernel) rfl
theorem m_178 : (.instanceMethod y_CC_firstBlock : Cond) ∈ tb := tb_in 212 (by decide +kernel) rfl
theorem m_179 : (.selects R_CC y_CC_firstBlock y_CC_firstBlock : Cond) ∈ tb := tb_in 213 (by decide +kernel) rfl
set_option maxRecDepth 20000 in
theorem m_180 : (.code y_CC_firstBlock b_CC_firstBlock 2 none : Cond) ∈ tb := tb_in 214 rfl rfl
theorem m_181 : (.methodLink R_CC 21 y_CC_spreadKey : Cond) ∈ tb := tb_in 215 (by decide +kernel) rfl
theorem m_183 : (.instanceMethod y_CC_spreadKey : Cond) ∈ tb := tb_in 217 (by decide +kernel) rfl
set_option maxRecDepth 20000 in
theorem m_184 : (.code y_CC_spreadKey b_CC_spreadKey 5 none : Cond) ∈ tb := tb_in 218 rfl rfl
theorem m_185 : (.methodLink R_CC 43 y_KY_word : Cond) ∈ tb := tb_in 219 (by decide +kernel) rfl
theorem m_186 : (.instanceMethod y_KY_word : Cond) ∈ tb := tb_in 220 (by decide +kernel) rfl
theorem m_187 : (.selects R_KY y_KY_word y_KY_word : Cond) ∈ tb := tb_in 221 (by decide +kernel) rfl
set_option maxRecDepth 20000 in
theorem m_188 : (.code y_KY_word b_KY_word 2 (some .int) : Cond) ∈ tb := tb_in 222 rfl rfl
theorem m_189 : (.methodLink R_KY 13 y_KY_checkIndex : Cond) ∈ tb := tb_in 223 (by decide +kernel) rfl
theorem m_190 : (.static y_KY_checkIndex : Cond) ∈ tb := tb_in 224 (by decide +kernel) rfl
set_option maxRecDepth 20000 in
theorem m_191 : (.code y_KY_checkIndex b_KY_checkIndex 1 none : Cond) ∈ tb := tb_in 225 rfl rfl
theorem m_192 : (.classLink R_KY 17 "java/lang/IndexOutOfBoundsException" : Cond) ∈ tb := tb_in 226 (by decide +kernel) rfl
theorem m_193 : (.instantiable "java/lang/IndexOutOfBoundsException" 6 : Cond) ∈ tb := tb_in 227 (by decide +kernel) rfl
theorem m_201 : (.selects "java/lang/IndexOutOfBoundsException" ⟨"java/lang/Throwable", "fillInStackTrace", "(I)Ljava/lang/Throwable;"⟩ ⟨"java/lang/Throwable", "fillInStackTrace", "(I)Ljava/lang/Throwable;"⟩ : Cond) ∈ tb := tb_in 235 (by decide +kernel) rfl
theorem m_202 : (.selects "java/lang/IndexOutOfBoundsException" ⟨"java/lang/Throwable", "fillInStackTrace", "()Ljava/lang/Throwable;"⟩ ⟨"java/lang/Throwable", "fillInStackTrace", "()Ljava/lang/Throwable;"⟩ : Cond) ∈ tb := tb_in 236 (by decide +kernel) rfl
theorem m_213 : (.fieldLink "java/lang/Throwable" 198 "java/lang/Throwable" "backtrace" "Ljava/lang/Object;" : Cond) ∈ tb := tb_in 247 (by decide +kernel) rfl
theorem m_215 : (.instanceMethod ⟨"java/lang/Throwable", "<init>", "()V"⟩ : Cond) ∈ tb := tb_in 249 (by decide +kernel) rfl
theorem m_217 : (.methodLink "java/lang/Throwable" 1 objectInit : Cond) ∈ tb := tb_in 251 (by decide +kernel) rfl
theorem m_218 : (.fieldLink "java/lang/Throwable" 13 "java/lang/Throwable" "UNASSIGNED_STACK" "[Ljava/lang/StackTraceElement;" : Cond) ∈ tb := tb_in 252 (by decide +kernel) rfl
theorem m_220 : (.fieldLink "java/lang/Throwable" 20 "java/lang/Throwable" "SUPPRESSED_SENTINEL" "Ljava/util/List;" : Cond) ∈ tb := tb_in 254 (by decide +kernel) rfl
theorem m_222 : (.methodLink "java/lang/Throwable" 27 ⟨"java/lang/Throwable", "fillInStackTrace", "()Ljava/lang/Throwable;"⟩ : Cond) ∈ tb := tb_in 256 (by decide +kernel) rfl
theorem m_223 : (.instanceMethod ⟨"java/lang/Throwable", "fillInStackTrace", "()Ljava/lang/Throwable;"⟩ : Cond) ∈ tb := tb_in 257 (by decide +kernel) rfl
theorem m_225 : (.selects "java/lang/IllegalArgumentException" ⟨"java/lang/Throwable", "fillInStackTrace", "()Ljava/lang/Throwable;"⟩ ⟨"java/lang/Throwable", "fillInStackTrace", "()Ljava/lang/Throwable;"⟩ : Cond) ∈ tb := tb_in 259 (by decide +kernel) rfl
theorem m_226 : (.selects "java/lang/IllegalStateException" ⟨"java/lang/Throwable", "fillInStackTrace", "()Ljava/lang/Throwable;"⟩ ⟨"java/lang/Throwable", "fillInStackTrace", "()Ljava/lang/Throwable;"⟩ : Cond) ∈ tb := tb_in 260 (by decide +kernel) rfl
theorem m_228 : (.methodLink "java/lang/Throwable" 202 ⟨"java/lang/Throwable", "fillInStackTrace", "(I)Ljava/lang/Throwable;"⟩ : Cond) ∈ tb := tb_in 262 (by decide +kernel) rfl
theorem m_230 : (.instanceMethod ⟨"java/lang/Throwable", "fillInStackTrace", "(I)Ljava/lang/Throwable;"⟩ : Cond) ∈ tb := tb_in 264 (by decide +kernel) rfl
theorem m_231 : (.instantiable "java/lang/Throwable" 6 : Cond) ∈ tb := tb_in 265 (by decide +kernel) rfl
theorem m_232 : (.native ⟨"java/lang/Throwable", "fillInStackTrace", "(I)Ljava/lang/Throwable;"⟩ : Cond) ∈ tb := tb_in 266 (by decide +kernel) rfl
theorem m_234 : (.methodLink R_KY 21 ⟨"java/lang/IndexOutOfBoundsException", "<init>", "(Ljava/lang/String;)V"⟩ : Cond) ∈ tb := tb_in 268 (by decide +kernel) rfl
theorem m_235 : (.instanceMethod ⟨"java/lang/IndexOutOfBoundsException", "<init>", "(Ljava/lang/String;)V"⟩ : Cond) ∈ tb := tb_in 269 (by decide +kernel) rfl
theorem m_237 : (.methodLink "java/lang/IndexOutOfBoundsException" 7 ⟨"java/lang/RuntimeException", "<init>", "(Ljava/lang/String;)V"⟩ : Cond) ∈ tb := tb_in 271 (by decide +kernel) rfl
theorem m_238 : (.instanceMethod ⟨"java/lang/RuntimeException", "<init>", "(Ljava/lang/String;)V"⟩ : Cond) ∈ tb := tb_in 272 (by decide +kernel) rfl
theorem m_240 : (.methodLink "java/lang/RuntimeException" 7 ⟨"java/lang/Exception", "<init>", "(Ljava/lang/String;)V"⟩ : Cond) ∈ tb := tb_in 274 (by decide +kernel) rfl
theorem m_241 : (.instanceMethod ⟨"java/lang/Exception", "<init>", "(Ljava/lang/String;)V"⟩ : Cond) ∈ tb := tb_in 275 (by decide +kernel) rfl
theorem m_243 : (.methodLink "java/lang/Exception" 7 ⟨"java/lang/Throwable", "<init>", "(Ljava/lang/String;)V"⟩ : Cond) ∈ tb := tb_in 277 (by decide +kernel) rfl
theorem m_244 : (.instanceMethod ⟨"java/lang/Throwable", "<init>", "(Ljava/lang/String;)V"⟩ : Cond) ∈ tb := tb_in 278 (by decide +kernel) rfl
theorem m_246 : (.fieldLink "java/lang/Throwable" 198 "java/lang/Throwable" "backtrace" "Ljava/lang/Object;" : Cond) ∈ tb := tb_in 280 (by decide +kernel) rfl
theorem m_247 : (.fieldLink "java/lang/Throwable" 31 "java/lang/Throwable" "detailMessage" "Ljava/lang/String;" : Cond) ∈ tb := tb_in 281 (by decide +kernel) rfl
theorem m_248 : (.fieldLink "java/lang/Throwable" 7 "java/lang/Throwable" "cause" "Ljava/lang/Throwable;" : Cond) ∈ tb := tb_in 282 (by decide +kernel) rfl
theorem m_249 : (.fieldLink "java/lang/Throwable" 17 "java/lang/Throwable" "stackTrace" "[Ljava/lang/StackTraceElement;" : Cond) ∈ tb := tb_in 283 (by decide +kernel) rfl
theorem m_250 : (.fieldLink "java/lang/Throwable" 24 "java/lang/Throwable" "suppressedExceptions" "Ljava/util/List;" : Cond) ∈ tb := tb_in 284 (by decide +kernel) rfl
theorem m_259 : (.methodLink R_CC 47 y_CC_substituteWord : Cond) ∈ tb := tb_in 293 (by decide +kernel) rfl
theorem m_260 : (.static y_CC_substituteWord : Cond) ∈ tb := tb_in 294 (by decide +kernel) rfl
set_option maxRecDepth 20000 in
theorem m_261 : (.code y_CC_substituteWord b_CC_substituteWord 3 (some .int) : Cond) ∈ tb := tb_in 295 rfl rfl
theorem m_264 : (.methodLink R_CC 53 y_CC_byteOf : Cond) ∈ tb := tb_in 298 (by decide +kernel) rfl
theorem m_265 : (.static y_CC_byteOf : Cond) ∈ tb := tb_in 299 (by decide +kernel) rfl
set_option maxRecDepth 20000 in
theorem m_266 : (.code y_CC_byteOf b_CC_byteOf 2 (some .int) : Cond) ∈ tb := tb_in 300 rfl rfl
theorem m_267 : (.methodLink R_CC 50 y_CC_twice : Cond) ∈ tb := tb_in 301 (by decide +kernel) rfl
theorem m_268 : (.static y_CC_twice : Cond) ∈ tb := tb_in 302 (by decide +kernel) rfl
set_option maxRecDepth 20000 in
theorem m_269 : (.code y_CC_twice b_CC_twice 1 (some .int) : Cond) ∈ tb := tb_in 303 rfl rfl
theorem m_270 : (.methodLink R_CC 31 y_CC_encipherCounter : Cond) ∈ tb := tb_in 304 (by decide +kernel) rfl
theorem m_272 : (.instanceMethod y_CC_encipherCounter : Cond) ∈ tb := tb_in 306 (by decide +kernel) rfl
set_option maxRecDepth 20000 in
theorem m_273 : (.code y_CC_encipherCounter b_CC_encipherCounter 3 none : Cond) ∈ tb := tb_in 307 rfl rfl
theorem m_274 : (.methodLink R_CC 57 y_CC_addRoundKey : Cond) ∈ tb := tb_in 308 (by decide +kernel) rfl
theorem m_276 : (.instanceMethod y_CC_addRoundKey : Cond) ∈ tb := tb_in 310 (by decide +kernel) rfl
set_option maxRecDepth 20000 in
theorem m_277 : (.code y_CC_addRoundKey b_CC_addRoundKey 3 none : Cond) ∈ tb := tb_in 311 rfl rfl
theorem m_278 : (.methodLink R_CC 61 y_CC_substituteAndShift : Cond) ∈ tb := tb_in 312 (by decide +kernel) rfl
theorem m_280 : (.instanceMethod y_CC_substituteAndShift : Cond) ∈ tb := tb_in 314 (by decide +kernel) rfl
set_option maxRecDepth 20000 in
theorem m_281 : (.code y_CC_substituteAndShift b_CC_substituteAndShift 3 none : Cond) ∈ tb := tb_in 315 rfl rfl
theorem m_282 : (.methodLink R_CC 64 y_CC_mixColumns : Cond) ∈ tb := tb_in 316 (by decide +kernel) rfl
theorem m_284 : (.instanceMethod y_CC_mixColumns : Cond) ∈ tb := tb_in 318 (by decide +kernel) rfl
set_option maxRecDepth 20000 in
theorem m_285 : (.code y_CC_mixColumns b_CC_mixColumns 7 none : Cond) ∈ tb := tb_in 319 rfl rfl
theorem m_286 : (.methodLink R_PG 115 y_BQ_at : Cond) ∈ tb := tb_in 320 (by decide +kernel) rfl
theorem m_287 : (.instanceMethod y_BQ_at : Cond) ∈ tb := tb_in 321 (by decide +kernel) rfl
theorem m_288 : (.selects R_BQ y_BQ_at y_BQ_at : Cond) ∈ tb := tb_in 322 (by decide +kernel) rfl
set_option maxRecDepth 20000 in
theorem m_289 : (.code y_BQ_at b_BQ_at 2 (some .int) : Cond) ∈ tb := tb_in 323 rfl rfl
theorem m_290 : (.methodLink R_BQ 23 y_BQ_checkIndex : Cond) ∈ tb := tb_in 324 (by decide +kernel) rfl
theorem m_292 : (.instanceMethod y_BQ_checkIndex : Cond) ∈ tb := tb_in 326 (by decide +kernel) rfl
set_option maxRecDepth 20000 in
theorem m_293 : (.code y_BQ_checkIndex b_BQ_checkIndex 2 none : Cond) ∈ tb := tb_in 327 rfl rfl
theorem m_294 : (.classLink R_BQ 43 "java/lang/IndexOutOfBoundsException" : Cond) ∈ tb := tb_in 328 (by decide +kernel) rfl
theorem m_296 : (.methodLink R_BQ 47 ⟨"java/lang/IndexOutOfBoundsException", "<init>", "(Ljava/lang/String;)V"⟩ : Cond) ∈ tb := tb_in 330 (by decide +kernel) rfl
theorem m_297 : (.methodLink R_BQ 27 y_BQ_place : Cond) ∈ tb := tb_in 331 (by decide +kernel) rfl
theorem m_299 : (.instanceMethod y_BQ_place : Cond) ∈ tb := tb_in 333 (by decide +kernel) rfl
set_option maxRecDepth 20000 in
theorem m_300 : (.code y_BQ_place b_BQ_place 3 (some .int) : Cond) ∈ tb := tb_in 334 rfl rfl
theorem m_301 : (.methodLink R_PG 191 y_CC_blockByte : Cond) ∈ tb := tb_in 335 (by decide +kernel) rfl
theorem m_302 : (.instanceMethod y_CC_blockByte : Cond) ∈ tb := tb_in 336 (by decide +kernel) rfl
theorem m_303 : (.selects R_CC y_CC_blockByte y_CC_blockByte : Cond) ∈ tb := tb_in 337 (by decide +kernel) rfl
set_option maxRecDepth 20000 in
theorem m_304 : (.code y_CC_blockByte b_CC_blockByte 2 (some .int) : Cond) ∈ tb := tb_in 338 rfl rfl
theorem m_305 : (.methodLink R_PG 140 y_PG_decipherPacket : Cond) ∈ tb := tb_in 339 (by decide +kernel) rfl
theorem m_307 : (.instanceMethod y_PG_decipherPacket : Cond) ∈ tb := tb_in 341 (by decide +kernel) rfl
set_option maxRecDepth 20000 in
theorem m_308 : (.code y_PG_decipherPacket b_PG_decipherPacket 2 none : Cond) ∈ tb := tb_in 342 rfl rfl
theorem m_309 : (.methodLink R_PG 156 y_BQ_clear : Cond) ∈ tb := tb_in 343 (by decide +kernel) rfl
theorem m_310 : (.instanceMethod y_BQ_clear : Cond) ∈ tb := tb_in 344 (by decide +kernel) rfl
theorem m_311 : (.selects R_BQ y_BQ_clear y_BQ_clear : Cond) ∈ tb := tb_in 345 (by decide +kernel) rfl
set_option maxRecDepth 20000 in
theorem m_312 : (.code y_BQ_clear b_BQ_clear 1 none : Cond) ∈ tb := tb_in 346 rfl rfl
theorem m_313 : (.methodLink R_PG 170 y_BQ_addFrom : Cond) ∈ tb := tb_in 347 (by decide +kernel) rfl
theorem m_314 : (.instanceMethod y_BQ_addFrom : Cond) ∈ tb := tb_in 348 (by decide +kernel) rfl
theorem m_315 : (.selects R_BQ y_BQ_addFrom y_BQ_addFrom : Cond) ∈ tb := tb_in 349 (by decide +kernel) rfl
set_option maxRecDepth 20000 in
theorem m_316 : (.code y_BQ_addFrom b_BQ_addFrom 5 none : Cond) ∈ tb := tb_in 350 rfl rfl
theorem m_317 : (.methodLink R_BQ 34 y_BQ_at : Cond) ∈ tb := tb_in 351 (by decide +kernel) rfl
theorem m_318 : (.methodLink R_BQ 31 y_BQ_add : Cond) ∈ tb := tb_in 352 (by decide +kernel) rfl
theorem m_319 : (.instanceMethod y_BQ_add : Cond) ∈ tb := tb_in 353 (by decide +kernel) rfl
theorem m_320 : (.selects R_BQ y_BQ_add y_BQ_add : Cond) ∈ tb := tb_in 354 (by decide +kernel) rfl
set_option maxRecDepth 20000 in
theorem m_321 : (.code y_BQ_add b_BQ_add 2 none : Cond) ∈ tb := tb_in 355 rfl rfl
theorem m_322 : (.methodLink R_PG 178 y_CC_apply : Cond) ∈ tb := tb_in 356 (by decide +kernel) rfl
theorem m_323 : (.instanceMethod y_CC_apply : Cond) ∈ tb := tb_in 357 (by decide +kernel) rfl
theorem m_324 : (.selects R_CC y_CC_apply y_CC_apply : Cond) ∈ tb := tb_in 358 (by decide +kernel) rfl
set_option maxRecDepth 20000 in
theorem m_325 : (.code y_CC_apply b_CC_apply 6 none : Cond) ∈ tb := tb_in 359 rfl rfl
theorem m_326 : (.methodLink R_CC 25 y_BQ_size : Cond) ∈ tb := tb_in 360 (by decide +kernel) rfl
theorem m_327 : (.methodLink R_CC 34 y_KY_countUp : Cond) ∈ tb := tb_in 361 (by decide +kernel) rfl
theorem m_328 : (.instanceMethod y_KY_countUp : Cond) ∈ tb := tb_in 362 (by decide +kernel) rfl
theorem m_329 : (.selects R_KY y_KY_countUp y_KY_countUp : Cond) ∈ tb := tb_in 363 (by decide +kernel) rfl
set_option maxRecDepth 20000 in
theorem m_330 : (.code y_KY_countUp b_KY_countUp 2 none : Cond) ∈ tb := tb_in 364 rfl rfl
theorem m_331 : (.methodLink R_CC 39 y_BQ_flip : Cond) ∈ tb := tb_in 365 (by decide +kernel) rfl
theorem m_332 : (.instanceMethod y_BQ_flip : Cond) ∈ tb := tb_in 366 (by decide +kernel) rfl
theorem m_333 : (.selects R_BQ y_BQ_flip y_BQ_flip : Cond) ∈ tb := tb_in 367 (by decide +kernel) rfl
set_option maxRecDepth 20000 in
theorem m_334 : (.code y_BQ_flip b_BQ_flip 3 none : Cond) ∈ tb := tb_in 368 rfl rfl
theorem m_335 : (.methodLink R_PG 143 y_PG_faultOfPacket : Cond) ∈ tb := tb_in 369 (by decide +kernel) rfl
theorem m_337 : (.instanceMethod y_PG_faultOfPacket : Cond) ∈ tb := tb_in 371 (by decide +kernel) rfl
set_option maxRecDepth 20000 in
theorem m_338 : (.code y_PG_faultOfPacket b_PG_faultOfPacket 3 (some .int) : Cond) ∈ tb := tb_in 372 rfl rfl
theorem m_339 : (.methodLink R_PG 149 y_SD_nextNumber : Cond) ∈ tb := tb_in 373 (by decide +kernel) rfl
theorem m_340 : (.instanceMethod y_SD_nextNumber : Cond) ∈ tb := tb_in 374 (by decide +kernel) rfl
theorem m_341 : (.selects R_SD y_SD_nextNumber y_SD_nextNumber : Cond) ∈ tb := tb_in 375 (by decide +kernel) rfl
set_option maxRecDepth 20000 in
theorem m_342 : (.code y_SD_nextNumber b_SD_nextNumber 1 (some .int) : Cond) ∈ tb := tb_in 376 rfl rfl
theorem m_343 : (.methodLink R_PG 174 y_SL_seal : Cond) ∈ tb := tb_in 377 (by decide +kernel) rfl
theorem m_344 : (.instanceMethod y_SL_seal : Cond) ∈ tb := tb_in 378 (by decide +kernel) rfl
theorem m_345 : (.selects R_SL y_SL_seal y_SL_seal : Cond) ∈ tb := tb_in 379 (by decide +kernel) rfl
set_option maxRecDepth 20000 in
theorem m_346 : (.code y_SL_seal b_SL_seal 5 none : Cond) ∈ tb := tb_in 380 rfl rfl
theorem m_347 : (.constant R_SL 25 (909522486) : Cond) ∈ tb := tb_in 381 (by decide +kernel) rfl
theorem m_348 : (.methodLink R_SL 26 y_SL_startText : Cond) ∈ tb := tb_in 382 (by decide +kernel) rfl
theorem m_350 : (.instanceMethod y_SL_startText : Cond) ∈ tb := tb_in 384 (by decide +kernel) rfl
set_option maxRecDepth 20000 in
theorem m_351 : (.code y_SL_startText b_SL_startText 4 none : Cond) ∈ tb := tb_in 385 rfl rfl
theorem m_352 : (.methodLink R_SL 49 y_BQ_clear : Cond) ∈ tb := tb_in 386 (by decide +kernel) rfl
theorem m_353 : (.methodLink R_SL 52 y_KY_word : Cond) ∈ tb := tb_in 387 (by decide +kernel) rfl
theorem m_354 : (.methodLink R_SL 30 y_BQ_addWord : Cond) ∈ tb := tb_in 388 (by decide +kernel) rfl
theorem m_355 : (.instanceMethod y_BQ_addWord : Cond) ∈ tb := tb_in 389 (by decide +kernel) rfl
theorem m_356 : (.selects R_BQ y_BQ_addWord y_BQ_addWord : Cond) ∈ tb := tb_in 390 (by decide +kernel) rfl
set_option maxRecDepth 20000 in
theorem m_357 : (.code y_BQ_addWord b_BQ_addWord 3 none : Cond) ∈ tb := tb_in 391 rfl rfl
theorem m_358 : (.methodLink R_SL 33 y_BQ_size : Cond) ∈ tb := tb_in 392 (by decide +kernel) rfl
theorem m_359 : (.methodLink R_SL 37 y_BQ_addFrom : Cond) ∈ tb := tb_in 393 (by decide +kernel) rfl
theorem m_360 : (.methodLink R_SL 41 y_DG_digest : Cond) ∈ tb := tb_in 394 (by decide +kernel) rfl
theorem m_361 : (.instanceMethod y_DG_digest : Cond) ∈ tb := tb_in 395 (by decide +kernel) rfl
theorem m_362 : (.selects R_DG y_DG_digest y_DG_digest : Cond) ∈ tb := tb_in 396 (by decide +kernel) rfl
set_option maxRecDepth 20000 in
theorem m_363 : (.code y_DG_digest b_DG_digest 6 none : Cond) ∈ tb := tb_in 397 rfl rfl
theorem m_364 : (.methodLink R_DG 16 y_BQ_size : Cond) ∈ tb := tb_in 398 (by decide +kernel) rfl
theorem m_365 : (.methodLink R_DG 22 y_BQ_add : Cond) ∈ tb := tb_in 399 (by decide +kernel) rfl
theorem m_366 : (.methodLink R_DG 26 y_JM_floorMod : Cond) ∈ tb := tb_in 400 (by decide +kernel) rfl
theorem m_367 : (.static y_JM_floorMod : Cond) ∈ tb := tb_in 401 (by decide +kernel) rfl
set_option maxRecDepth 20000 in
theorem m_368 : (.code y_JM_floorMod b_JM_floorMod 3 (some .int) : Cond) ∈ tb := tb_in 402 rfl rfl
theorem m_369 : (.methodLink R_DG 32 y_BQ_addWord : Cond) ∈ tb := tb_in 403 (by decide +kernel) rfl
theorem m_372 : (.methodLink R_DG 40 y_DG_readRow : Cond) ∈ tb := tb_in 406 (by decide +kernel) rfl
theorem m_374 : (.instanceMethod y_DG_readRow : Cond) ∈ tb := tb_in 408 (by decide +kernel) rfl
set_option maxRecDepth 20000 in
theorem m_375 : (.code y_DG_readRow b_DG_readRow 4 none : Cond) ∈ tb := tb_in 409 rfl rfl
theorem m_376 : (.methodLink R_DG 50 y_BQ_at : Cond) ∈ tb := tb_in 410 (by decide +kernel) rfl
theorem m_377 : (.methodLink R_DG 44 y_DG_spreadRow : Cond) ∈ tb := tb_in 411 (by decide +kernel) rfl
theorem m_379 : (.instanceMethod y_DG_spreadRow : Cond) ∈ tb := tb_in 413 (by decide +kernel) rfl
set_option maxRecDepth 20000 in
theorem m_380 : (.code y_DG_spreadRow b_DG_spreadRow 6 none : Cond) ∈ tb := tb_in 414 rfl rfl
theorem m_381 : (.methodLink R_DG 63 y_DG_ror : Cond) ∈ tb := tb_in 415 (by decide +kernel) rfl
theorem m_382 : (.static y_DG_ror : Cond) ∈ tb := tb_in 416 (by decide +kernel) rfl
set_option maxRecDepth 20000 in
theorem m_383 : (.code y_DG_ror b_DG_ror 2 (some .int) : Cond) ∈ tb := tb_in 417 rfl rfl
theorem m_384 : (.methodLink R_DG 47 y_DG_mixRow : Cond) ∈ tb := tb_in 418 (by decide +kernel) rfl
theorem m_386 : (.instanceMethod y_DG_mixRow : Cond) ∈ tb := tb_in 420 (by decide +kernel) rfl
set_option maxRecDepth 20000 in
theorem m_387 : (.code y_DG_mixRow b_DG_mixRow 12 none : Cond) ∈ tb := tb_in 421 rfl rfl
theorem m_388 : (.methodLink R_DG 54 y_DG_turnedE : Cond) ∈ tb := tb_in 422 (by decide +kernel) rfl
theorem m_389 : (.static y_DG_turnedE : Cond) ∈ tb := tb_in 423 (by decide +kernel) rfl
set_option maxRecDepth 20000 in
theorem m_390 : (.code y_DG_turnedE b_DG_turnedE 1 (some .int) : Cond) ∈ tb := tb_in 424 rfl rfl
theorem m_393 : (.methodLink R_DG 60 y_DG_turnedA : Cond) ∈ tb := tb_in 427 (by decide +kernel) rfl
theorem m_394 : (.static y_DG_turnedA : Cond) ∈ tb := tb_in 428 (by decide +kernel) rfl
set_option maxRecDepth 20000 in
theorem m_395 : (.code y_DG_turnedA b_DG_turnedA 1 (some .int) : Cond) ∈ tb := tb_in 429 rfl rfl
theorem m_396 : (.constant R_SL 44 (1549556828) : Cond) ∈ tb := tb_in 430 (by decide +kernel) rfl
theorem m_397 : (.methodLink R_SL 45 y_DG_stateWord : Cond) ∈ tb := tb_in 431 (by decide +kernel) rfl
theorem m_398 : (.instanceMethod y_DG_stateWord : Cond) ∈ tb := tb_in 432 (by decide +kernel) rfl
theorem m_399 : (.selects R_DG y_DG_stateWord y_DG_stateWord : Cond) ∈ tb := tb_in 433 (by decide +kernel) rfl
set_option maxRecDepth 20000 in
theorem m_400 : (.code y_DG_stateWord b_DG_stateWord 2 (some .int) : Cond) ∈ tb := tb_in 434 rfl rfl
theorem m_401 : (.methodLink R_PG 182 y_SL_sealByte : Cond) ∈ tb := tb_in 435 (by decide +kernel) rfl
theorem m_402 : (.instanceMethod y_SL_sealByte : Cond) ∈ tb := tb_in 436 (by decide +kernel) rfl
theorem m_403 : (.selects R_SL y_SL_sealByte y_SL_sealByte : Cond) ∈ tb := tb_in 437 (by decide +kernel) rfl
set_option maxRecDepth 20000 in
theorem m_404 : (.code y_SL_sealByte b_SL_sealByte 2 (some .int) : Cond) ∈ tb := tb_in 438 rfl rfl
theorem m_405 : (.methodLink R_PG 146 y_PG_openPacket : Cond) ∈ tb := tb_in 439 (by decide +kernel) rfl
theorem m_407 : (.instanceMethod y_PG_openPacket : Cond) ∈ tb := tb_in 441 (by decide +kernel) rfl
set_option maxRecDepth 20000 in
theorem m_408 : (.code y_PG_openPacket b_PG_openPacket 2 none : Cond) ∈ tb := tb_in 442 rfl rfl
theorem m_409 : (.methodLink R_PG 131 y_BQ_dropFirst : Cond) ∈ tb := tb_in 443 (by decide +kernel) rfl
theorem m_410 : (.instanceMethod y_BQ_dropFirst : Cond) ∈ tb := tb_in 444 (by decide +kernel) rfl
theorem m_411 : (.selects R_BQ y_BQ_dropFirst y_BQ_dropFirst : Cond) ∈ tb := tb_in 445 (by decide +kernel) rfl
set_option maxRecDepth 20000 in
theorem m_412 : (.code y_BQ_dropFirst b_BQ_dropFirst 3 none : Cond) ∈ tb := tb_in 446 rfl rfl
theorem m_413 : (.methodLink R_BQ 37 y_JM_min : Cond) ∈ tb := tb_in 447 (by decide +kernel) rfl
theorem m_414 : (.static y_JM_min : Cond) ∈ tb := tb_in 448 (by decide +kernel) rfl
set_option maxRecDepth 20000 in
theorem m_415 : (.code y_JM_min b_JM_min 2 (some .int) : Cond) ∈ tb := tb_in 449 rfl rfl
theorem m_416 : (.methodLink R_PG 185 y_SD_countPacket : Cond) ∈ tb := tb_in 450 (by decide +kernel) rfl
theorem m_417 : (.instanceMethod y_SD_countPacket : Cond) ∈ tb := tb_in 451 (by decide +kernel) rfl
theorem m_418 : (.selects R_SD y_SD_countPacket y_SD_countPacket : Cond) ∈ tb := tb_in 452 (by decide +kernel) rfl
set_option maxRecDepth 20000 in
theorem m_419 : (.code y_SD_countPacket b_SD_countPacket 1 none : Cond) ∈ tb := tb_in 453 rfl rfl
theorem m_420 : (.methodLink R_PG 76 y_KY_copyFrom : Cond) ∈ tb := tb_in 454 (by decide +kernel) rfl
theorem m_421 : (.instanceMethod y_KY_copyFrom : Cond) ∈ tb := tb_in 455 (by decide +kernel) rfl
theorem m_422 : (.selects R_KY y_KY_copyFrom y_KY_copyFrom : Cond) ∈ tb := tb_in 456 (by decide +kernel) rfl
set_option maxRecDepth 20000 in
theorem m_423 : (.code y_KY_copyFrom b_KY_copyFrom 3 none : Cond) ∈ tb := tb_in 457 rfl rfl
theorem m_424 : (.methodLink R_LW 101 y_PG_begin : Cond) ∈ tb := tb_in 458 (by decide +kernel) rfl
theorem m_425 : (.instanceMethod y_PG_begin : Cond) ∈ tb := tb_in 459 (by decide +kernel) rfl
theorem m_426 : (.selects R_PG y_PG_begin y_PG_begin : Cond) ∈ tb := tb_in 460 (by decide +kernel) rfl
set_option maxRecDepth 20000 in
theorem m_427 : (.code y_PG_begin b_PG_begin 1 none : Cond) ∈ tb := tb_in 461 rfl rfl
theorem m_428 : (.methodLink R_PG 152 y_KY_clear : Cond) ∈ tb := tb_in 462 (by decide +kernel) rfl
theorem m_429 : (.instanceMethod y_KY_clear : Cond) ∈ tb := tb_in 463 (by decide +kernel) rfl
theorem m_430 : (.selects R_KY y_KY_clear y_KY_clear : Cond) ∈ tb := tb_in 464 (by decide +kernel) rfl
set_option maxRecDepth 20000 in
theorem m_431 : (.code y_KY_clear b_KY_clear 2 none : Cond) ∈ tb := tb_in 465 rfl rfl
theorem m_432 : (.methodLink R_PG 155 y_SD_clear : Cond) ∈ tb := tb_in 466 (by decide +kernel) rfl
theorem m_433 : (.instanceMethod y_SD_clear : Cond) ∈ tb := tb_in 467 (by decide +kernel) rfl
theorem m_434 : (.selects R_SD y_SD_clear y_SD_clear : Cond) ∈ tb := tb_in 468 (by decide +kernel) rfl
set_option maxRecDepth 20000 in
theorem m_435 : (.code y_SD_clear b_SD_clear 1 none : Cond) ∈ tb := tb_in 469 rfl rfl
theorem m_436 : (.methodLink R_SD 20 y_KY_clear : Cond) ∈ tb := tb_in 470 (by decide +kernel) rfl
theorem m_437 : (.methodLink R_LW 53 y_LW_key : Cond) ∈ tb := tb_in 471 (by decide +kernel) rfl
theorem m_438 : (.static y_LW_key : Cond) ∈ tb := tb_in 472 (by decide +kernel) rfl
set_option maxRecDepth 20000 in
theorem m_439 : (.codeWith y_LW_key b_LW_key 4 (some .int) [((0 : Nat), (6 : Nat), (9 : Nat), (13 : Nat))] : Cond) ∈ tb := tb_in 473 rfl rfl
theorem m_440 : (.classLink R_LW 13 "java/lang/IndexOutOfBoundsException" : Cond) ∈ tb := tb_in 474 (by decide +kernel) rfl
theorem m_441 : (.methodLink R_LW 7 y_PG_key : Cond) ∈ tb := tb_in 475 (by decide +kernel) rfl
theorem m_442 : (.instanceMethod y_PG_key : Cond) ∈ tb := tb_in 476 (by decide +kernel) rfl
theorem m_443 : (.selects R_PG y_PG_key y_PG_key : Cond) ∈ tb := tb_in 477 (by decide +kernel) rfl
set_option maxRecDepth 20000 in
theorem m_444 : (.code y_PG_key b_PG_key 3 none : Cond) ∈ tb := tb_in 478 rfl rfl
theorem m_445 : (.methodLink R_PG 64 y_KY_change : Cond) ∈ tb := tb_in 479 (by decide +kernel) rfl
theorem m_446 : (.instanceMethod y_KY_change : Cond) ∈ tb := tb_in 480 (by decide +kernel) rfl
theorem m_447 : (.selects R_KY y_KY_change y_KY_change : Cond) ∈ tb := tb_in 481 (by decide +kernel) rfl
set_option maxRecDepth 20000 in
theorem m_448 : (.code y_KY_change b_KY_change 3 none : Cond) ∈ tb := tb_in 482 rfl rfl
theorem m_449 : (.methodLink R_LW 63 y_LW_turn : Cond) ∈ tb := tb_in 483 (by decide +kernel) rfl
theorem m_450 : (.static y_LW_turn : Cond) ∈ tb := tb_in 484 (by decide +kernel) rfl
set_option maxRecDepth 20000 in
theorem m_451 : (.codeWith y_LW_turn b_LW_turn 3 (some .int) [((0 : Nat), (5 : Nat), (8 : Nat), (13 : Nat))] : Cond) ∈ tb := tb_in 485 rfl rfl
theorem m_452 : (.methodLink R_LW 15 y_PG_turn : Cond) ∈ tb := tb_in 486 (by decide +kernel) rfl
theorem m_453 : (.instanceMethod y_PG_turn : Cond) ∈ tb := tb_in 487 (by decide +kernel) rfl
theorem m_454 : (.selects R_PG y_PG_turn y_PG_turn : Cond) ∈ tb := tb_in 488 (by decide +kernel) rfl
set_option maxRecDepth 20000 in
theorem m_455 : (.code y_PG_turn b_PG_turn 3 none : Cond) ∈ tb := tb_in 489 rfl rfl
theorem m_456 : (.methodLink R_PG 68 y_PG_sideOf : Cond) ∈ tb := tb_in 490 (by decide +kernel) rfl
theorem m_458 : (.instanceMethod y_PG_sideOf : Cond) ∈ tb := tb_in 492 (by decide +kernel) rfl
set_option maxRecDepth 20000 in
theorem m_459 : (.code y_PG_sideOf b_PG_sideOf 2 (some (.object "PacketGuard$Side")) : Cond) ∈ tb := tb_in 493 rfl rfl
theorem m_460 : (.classLink R_PG 157 "java/lang/IndexOutOfBoundsException" : Cond) ∈ tb := tb_in 494 (by decide +kernel) rfl
theorem m_462 : (.methodLink R_PG 161 ⟨"java/lang/IndexOutOfBoundsException", "<init>", "(Ljava/lang/String;)V"⟩ : Cond) ∈ tb := tb_in 496 (by decide +kernel) rfl
theorem m_463 : (.methodLink R_LW 67 y_LW_put : Cond) ∈ tb := tb_in 497 (by decide +kernel) rfl
theorem m_464 : (.static y_LW_put : Cond) ∈ tb := tb_in 498 (by decide +kernel) rfl
set_option maxRecDepth 20000 in
theorem m_465 : (.codeWith y_LW_put b_LW_put 5 (some .int) [((0 : Nat), (10 : Nat), (13 : Nat), (23 : Nat)), ((0 : Nat), (10 : Nat), (17 : Nat), (25 : Nat))] : Cond) ∈ tb := tb_in 499 rfl rfl
theorem m_466 : (.classLink R_LW 23 "java/lang/IllegalArgumentException" : Cond) ∈ tb := tb_in 500 (by decide +kernel) rfl
theorem m_467 : (.classLink R_LW 25 "java/lang/IllegalStateException" : Cond) ∈ tb := tb_in 501 (by decide +kernel) rfl
theorem m_468 : (.methodLink R_LW 19 y_PG_put : Cond) ∈ tb := tb_in 502 (by decide +kernel) rfl
theorem m_469 : (.instanceMethod y_PG_put : Cond) ∈ tb := tb_in 503 (by decide +kernel) rfl
theorem m_470 : (.selects R_PG y_PG_put y_PG_put : Cond) ∈ tb := tb_in 504 (by decide +kernel) rfl
set_option maxRecDepth 20000 in
theorem m_471 : (.code y_PG_put b_PG_put 4 (some .int) : Cond) ∈ tb := tb_in 505 rfl rfl
theorem m_472 : (.classLink R_PG 88 "java/lang/IllegalArgumentException" : Cond) ∈ tb := tb_in 506 (by decide +kernel) rfl
theorem m_473 : (.instantiable "java/lang/IllegalArgumentException" 6 : Cond) ∈ tb := tb_in 507 (by decide +kernel) rfl
theorem m_475 : (.selects "java/lang/IllegalArgumentException" ⟨"java/lang/Throwable", "fillInStackTrace", "(I)Ljava/lang/Throwable;"⟩ ⟨"java/lang/Throwable", "fillInStackTrace", "(I)Ljava/lang/Throwable;"⟩ : Cond) ∈ tb := tb_in 509 (by decide +kernel) rfl
theorem m_482 : (.methodLink R_PG 92 ⟨"java/lang/IllegalArgumentException", "<init>", "(Ljava/lang/String;)V"⟩ : Cond) ∈ tb := tb_in 516 (by decide +kernel) rfl
theorem m_483 : (.instanceMethod ⟨"java/lang/IllegalArgumentException", "<init>", "(Ljava/lang/String;)V"⟩ : Cond) ∈ tb := tb_in 517 (by decide +kernel) rfl
theorem m_485 : (.methodLink "java/lang/IllegalArgumentException" 7 ⟨"java/lang/RuntimeException", "<init>", "(Ljava/lang/String;)V"⟩ : Cond) ∈ tb := tb_in 519 (by decide +kernel) rfl
theorem m_488 : (.classLink R_PG 99 "java/lang/IllegalStateException" : Cond) ∈ tb := tb_in 522 (by decide +kernel) rfl
theorem m_489 : (.instantiable "java/lang/IllegalStateException" 6 : Cond) ∈ tb := tb_in 523 (by decide +kernel) rfl
theorem m_491 : (.selects "java/lang/IllegalStateException" ⟨"java/lang/Throwable", "fillInStackTrace", "(I)Ljava/lang/Throwable;"⟩ ⟨"java/lang/Throwable", "fillInStackTrace", "(I)Ljava/lang/Throwable;"⟩ : Cond) ∈ tb := tb_in 525 (by decide +kernel) rfl
theorem m_498 : (.methodLink R_PG 103 ⟨"java/lang/IllegalStateException", "<init>", "(Ljava/lang/String;)V"⟩ : Cond) ∈ tb := tb_in 532 (by decide +kernel) rfl
theorem m_499 : (.instanceMethod ⟨"java/lang/IllegalStateException", "<init>", "(Ljava/lang/String;)V"⟩ : Cond) ∈ tb := tb_in 533 (by decide +kernel) rfl
theorem m_501 : (.methodLink "java/lang/IllegalStateException" 7 ⟨"java/lang/RuntimeException", "<init>", "(Ljava/lang/String;)V"⟩ : Cond) ∈ tb := tb_in 535 (by decide +kernel) rfl
theorem m_504 : (.methodLink R_PG 104 y_BQ_add : Cond) ∈ tb := tb_in 538 (by decide +kernel) rfl
theorem m_505 : (.methodLink R_LW 71 y_LW_send : Cond) ∈ tb := tb_in 539 (by decide +kernel) rfl
theorem m_506 : (.static y_LW_send : Cond) ∈ tb := tb_in 540 (by decide +kernel) rfl
set_option maxRecDepth 20000 in
theorem m_507 : (.codeWith y_LW_send b_LW_send 4 (some .int) [((0 : Nat), (9 : Nat), (12 : Nat), (25 : Nat))] : Cond) ∈ tb := tb_in 541 rfl rfl
theorem m_508 : (.methodLink R_LW 27 y_PG_send : Cond) ∈ tb := tb_in 542 (by decide +kernel) rfl
theorem m_509 : (.instanceMethod y_PG_send : Cond) ∈ tb := tb_in 543 (by decide +kernel) rfl
theorem m_510 : (.selects R_PG y_PG_send y_PG_send : Cond) ∈ tb := tb_in 544 (by decide +kernel) rfl
set_option maxRecDepth 20000 in
theorem m_511 : (.code y_PG_send b_PG_send 3 (some .int) : Cond) ∈ tb := tb_in 545 rfl rfl
theorem m_512 : (.methodLink R_PG 107 y_PG_paddingFor : Cond) ∈ tb := tb_in 546 (by decide +kernel) rfl
theorem m_513 : (.static y_PG_paddingFor : Cond) ∈ tb := tb_in 547 (by decide +kernel) rfl
set_option maxRecDepth 20000 in
theorem m_514 : (.code y_PG_paddingFor b_PG_paddingFor 2 (some .int) : Cond) ∈ tb := tb_in 548 rfl rfl
theorem m_515 : (.methodLink R_PG 162 y_JM_floorMod : Cond) ∈ tb := tb_in 549 (by decide +kernel) rfl
theorem m_516 : (.methodLink R_PG 111 y_PG_ship : Cond) ∈ tb := tb_in 550 (by decide +kernel) rfl
theorem m_518 : (.instanceMethod y_PG_ship : Cond) ∈ tb := tb_in 552 (by decide +kernel) rfl
set_option maxRecDepth 20000 in
theorem m_519 : (.code y_PG_ship b_PG_ship 7 (some .int) : Cond) ∈ tb := tb_in 553 rfl rfl
theorem m_521 : (.methodLink R_PG 167 y_BQ_addWord : Cond) ∈ tb := tb_in 555 (by decide +kernel) rfl
theorem m_522 : (.methodLink R_LW 75 y_LW_forge : Cond) ∈ tb := tb_in 556 (by decide +kernel) rfl
theorem m_523 : (.static y_LW_forge : Cond) ∈ tb := tb_in 557 (by decide +kernel) rfl
set_option maxRecDepth 20000 in
theorem m_524 : (.codeWith y_LW_forge b_LW_forge 5 (some .int) [((0 : Nat), (10 : Nat), (13 : Nat), (25 : Nat))] : Cond) ∈ tb := tb_in 558 rfl rfl
theorem m_525 : (.methodLink R_LW 31 y_PG_forge : Cond) ∈ tb := tb_in 559 (by decide +kernel) rfl
theorem m_526 : (.instanceMethod y_PG_forge : Cond) ∈ tb := tb_in 560 (by decide +kernel) rfl
theorem m_527 : (.selects R_PG y_PG_forge y_PG_forge : Cond) ∈ tb := tb_in 561 (by decide +kernel) rfl
set_option maxRecDepth 20000 in
theorem m_528 : (.code y_PG_forge b_PG_forge 3 (some .int) : Cond) ∈ tb := tb_in 562 rfl rfl
theorem m_529 : (.methodLink R_LW 82 y_LW_octet : Cond) ∈ tb := tb_in 563 (by decide +kernel) rfl
theorem m_530 : (.static y_LW_octet : Cond) ∈ tb := tb_in 564 (by decide +kernel) rfl
set_option maxRecDepth 20000 in
theorem m_531 : (.codeWith y_LW_octet b_LW_octet 4 (some .int) [((0 : Nat), (9 : Nat), (12 : Nat), (13 : Nat))] : Cond) ∈ tb := tb_in 565 rfl rfl
theorem m_532 : (.methodLink R_LW 34 y_PG_octet : Cond) ∈ tb := tb_in 566 (by decide +kernel) rfl
theorem m_533 : (.instanceMethod y_PG_octet : Cond) ∈ tb := tb_in 567 (by decide +kernel) rfl
theorem m_534 : (.selects R_PG y_PG_octet y_PG_octet : Cond) ∈ tb := tb_in 568 (by decide +kernel) rfl
set_option maxRecDepth 20000 in
theorem m_535 : (.code y_PG_octet b_PG_octet 2 (some .int) : Cond) ∈ tb := tb_in 569 rfl rfl
theorem m_536 : (.methodLink R_LW 85 y_LW_alter : Cond) ∈ tb := tb_in 570 (by decide +kernel) rfl
theorem m_537 : (.static y_LW_alter : Cond) ∈ tb := tb_in 571 (by decide +kernel) rfl
set_option maxRecDepth 20000 in
theorem m_538 : (.codeWith y_LW_alter b_LW_alter 4 (some .int) [((0 : Nat), (6 : Nat), (9 : Nat), (13 : Nat))] : Cond) ∈ tb := tb_in 572 rfl rfl
theorem m_539 : (.methodLink R_LW 37 y_PG_alter : Cond) ∈ tb := tb_in 573 (by decide +kernel) rfl
theorem m_540 : (.instanceMethod y_PG_alter : Cond) ∈ tb := tb_in 574 (by decide +kernel) rfl
theorem m_541 : (.selects R_PG y_PG_alter y_PG_alter : Cond) ∈ tb := tb_in 575 (by decide +kernel) rfl
set_option maxRecDepth 20000 in
theorem m_542 : (.code y_PG_alter b_PG_alter 3 none : Cond) ∈ tb := tb_in 576 rfl rfl
theorem m_543 : (.methodLink R_PG 118 y_BQ_flip : Cond) ∈ tb := tb_in 577 (by decide +kernel) rfl
theorem m_544 : (.methodLink R_LW 88 y_LW_link : Cond) ∈ tb := tb_in 578 (by decide +kernel) rfl
theorem m_545 : (.static y_LW_link : Cond) ∈ tb := tb_in 579 (by decide +kernel) rfl
set_option maxRecDepth 20000 in
theorem m_546 : (.codeWith y_LW_link b_LW_link 4 (some .int) [((0 : Nat), (9 : Nat), (12 : Nat), (23 : Nat)), ((0 : Nat), (9 : Nat), (15 : Nat), (25 : Nat))] : Cond) ∈ tb := tb_in 580 rfl rfl
theorem m_547 : (.methodLink R_LW 40 y_PG_link : Cond) ∈ tb := tb_in 581 (by decide +kernel) rfl
theorem m_548 : (.instanceMethod y_PG_link : Cond) ∈ tb := tb_in 582 (by decide +kernel) rfl
theorem m_549 : (.selects R_PG y_PG_link y_PG_link : Cond) ∈ tb := tb_in 583 (by decide +kernel) rfl
set_option maxRecDepth 20000 in
theorem m_550 : (.code y_PG_link b_PG_link 4 (some .int) : Cond) ∈ tb := tb_in 584 rfl rfl
theorem m_552 : (.methodLink R_PG 123 y_JM_min : Cond) ∈ tb := tb_in 586 (by decide +kernel) rfl
theorem m_554 : (.methodLink R_LW 95 y_LW_got : Cond) ∈ tb := tb_in 588 (by decide +kernel) rfl
theorem m_555 : (.static y_LW_got : Cond) ∈ tb := tb_in 589 (by decide +kernel) rfl
set_option maxRecDepth 20000 in
theorem m_556 : (.codeWith y_LW_got b_LW_got 4 (some .int) [((0 : Nat), (9 : Nat), (12 : Nat), (13 : Nat))] : Cond) ∈ tb := tb_in 590 rfl rfl
theorem m_557 : (.methodLink R_LW 43 y_PG_got : Cond) ∈ tb := tb_in 591 (by decide +kernel) rfl
theorem m_558 : (.instanceMethod y_PG_got : Cond) ∈ tb := tb_in 592 (by decide +kernel) rfl
theorem m_559 : (.selects R_PG y_PG_got y_PG_got : Cond) ∈ tb := tb_in 593 (by decide +kernel) rfl
set_option maxRecDepth 20000 in
theorem m_560 : (.code y_PG_got b_PG_got 2 (some .int) : Cond) ∈ tb := tb_in 594 rfl rfl
theorem m_561 : (.methodLink R_LW 98 y_LW_number : Cond) ∈ tb := tb_in 595 (by decide +kernel) rfl
theorem m_562 : (.static y_LW_number : Cond) ∈ tb := tb_in 596 (by decide +kernel) rfl
set_option maxRecDepth 20000 in
theorem m_563 : (.codeWith y_LW_number b_LW_number 4 (some .int) [((0 : Nat), (9 : Nat), (12 : Nat), (13 : Nat))] : Cond) ∈ tb := tb_in 597 rfl rfl
theorem m_564 : (.methodLink R_LW 46 y_PG_number : Cond) ∈ tb := tb_in 598 (by decide +kernel) rfl
theorem m_565 : (.instanceMethod y_PG_number : Cond) ∈ tb := tb_in 599 (by decide +kernel) rfl
theorem m_566 : (.selects R_PG y_PG_number y_PG_number : Cond) ∈ tb := tb_in 600 (by decide +kernel) rfl
set_option maxRecDepth 20000 in
theorem m_567 : (.code y_PG_number b_PG_number 2 (some .int) : Cond) ∈ tb := tb_in 601 rfl rfl
theorem m_568 : (.classLink R_LW 50 R_MD : Cond) ∈ tb := tb_in 602 (by decide +kernel) rfl
theorem m_569 : (.instantiable R_MD 28 : Cond) ∈ tb := tb_in 603 (by decide +kernel) rfl
theorem m_570 : (.methodLink R_LW 52 y_MD_init : Cond) ∈ tb := tb_in 604 (by decide +kernel) rfl
theorem m_571 : (.instanceMethod y_MD_init : Cond) ∈ tb := tb_in 605 (by decide +kernel) rfl
set_option maxRecDepth 20000 in
theorem m_572 : (.code y_MD_init b_MD_init 2 none : Cond) ∈ tb := tb_in 606 rfl rfl
theorem m_573 : (.methodLink R_MD 1 objectInit : Cond) ∈ tb := tb_in 607 (by decide +kernel) rfl
theorem m_574 : (.constant R_MD 62 (1116352408) : Cond) ∈ tb := tb_in 608 (by decide +kernel) rfl
theorem m_575 : (.constant R_MD 63 (1899447441) : Cond) ∈ tb := tb_in 609 (by decide +kernel) rfl
theorem m_576 : (.constant R_MD 64 (-1245643825) : Cond) ∈ tb := tb_in 610 (by decide +kernel) rfl
theorem m_577 : (.constant R_MD 65 (-373957723) : Cond) ∈ tb := tb_in 611 (by decide +kernel) rfl
theorem m_578 : (.constant R_MD 66 (961987163) : Cond) ∈ tb := tb_in 612 (by decide +kernel) rfl
theorem m_579 : (.constant R_MD 67 (1508970993) : Cond) ∈ tb := tb_in 613 (by decide +kernel) rfl
theorem m_580 : (.constant R_MD 68 (-1841331548) : Cond) ∈ tb := tb_in 614 (by decide +kernel) rfl
theorem m_581 : (.constant R_MD 69 (-1424204075) : Cond) ∈ tb := tb_in 615 (by decide +kernel) rfl
theorem m_582 : (.constant R_MD 70 (-670586216) : Cond) ∈ tb := tb_in 616 (by decide +kernel) rfl
theorem m_583 : (.constant R_MD 71 (310598401) : Cond) ∈ tb := tb_in 617 (by decide +kernel) rfl
theorem m_584 : (.constant R_MD 72 (607225278) : Cond) ∈ tb := tb_in 618 (by decide +kernel) rfl
theorem m_585 : (.constant R_MD 73 (1426881987) : Cond) ∈ tb := tb_in 619 (by decide +kernel) rfl
theorem m_586 : (.constant R_MD 74 (1925078388) : Cond) ∈ tb := tb_in 620 (by decide +kernel) rfl
theorem m_587 : (.constant R_MD 75 (-2132889090) : Cond) ∈ tb := tb_in 621 (by decide +kernel) rfl
theorem m_588 : (.constant R_MD 76 (-1680079193) : Cond) ∈ tb := tb_in 622 (by decide +kernel) rfl
theorem m_589 : (.constant R_MD 77 (-1046744716) : Cond) ∈ tb := tb_in 623 (by decide +kernel) rfl
theorem m_590 : (.constant R_MD 78 (-459576895) : Cond) ∈ tb := tb_in 624 (by decide +kernel) rfl
theorem m_591 : (.constant R_MD 79 (-272742522) : Cond) ∈ tb := tb_in 625 (by decide +kernel) rfl
theorem m_592 : (.constant R_MD 80 (264347078) : Cond) ∈ tb := tb_in 626 (by decide +kernel) rfl
theorem m_593 : (.constant R_MD 81 (604807628) : Cond) ∈ tb := tb_in 627 (by decide +kernel) rfl
theorem m_594 : (.constant R_MD 82 (770255983) : Cond) ∈ tb := tb_in 628 (by decide +kernel) rfl
theorem m_595 : (.constant R_MD 83 (1249150122) : Cond) ∈ tb := tb_in 629 (by decide +kernel) rfl
theorem m_596 : (.constant R_MD 84 (1555081692) : Cond) ∈ tb := tb_in 630 (by decide +kernel) rfl
theorem m_597 : (.constant R_MD 85 (1996064986) : Cond) ∈ tb := tb_in 631 (by decide +kernel) rfl
theorem m_598 : (.constant R_MD 86 (-1740746414) : Cond) ∈ tb := tb_in 632 (by decide +kernel) rfl
theorem m_599 : (.constant R_MD 87 (-1473132947) : Cond) ∈ tb := tb_in 633 (by decide +kernel) rfl
theorem m_600 : (.constant R_MD 88 (-1341970488) : Cond) ∈ tb := tb_in 634 (by decide +kernel) rfl
theorem m_601 : (.constant R_MD 89 (-1084653625) : Cond) ∈ tb := tb_in 635 (by decide +kernel) rfl
theorem m_602 : (.constant R_MD 90 (-958395405) : Cond) ∈ tb := tb_in 636 (by decide +kernel) rfl
theorem m_603 : (.constant R_MD 91 (-710438585) : Cond) ∈ tb := tb_in 637 (by decide +kernel) rfl
theorem m_604 : (.constant R_MD 92 (113926993) : Cond) ∈ tb := tb_in 638 (by decide +kernel) rfl
theorem m_605 : (.constant R_MD 93 (338241895) : Cond) ∈ tb := tb_in 639 (by decide +kernel) rfl
theorem m_606 : (.constant R_MD 94 (666307205) : Cond) ∈ tb := tb_in 640 (by decide +kernel) rfl
theorem m_607 : (.constant R_MD 95 (773529912) : Cond) ∈ tb := tb_in 641 (by decide +kernel) rfl
theorem m_608 : (.constant R_MD 96 (1294757372) : Cond) ∈ tb := tb_in 642 (by decide +kernel) rfl
theorem m_609 : (.constant R_MD 97 (1396182291) : Cond) ∈ tb := tb_in 643 (by decide +kernel) rfl
theorem m_610 : (.constant R_MD 98 (1695183700) : Cond) ∈ tb := tb_in 644 (by decide +kernel) rfl
theorem m_611 : (.constant R_MD 99 (1986661051) : Cond) ∈ tb := tb_in 645 (by decide +kernel) rfl
theorem m_612 : (.constant R_MD 100 (-2117940946) : Cond) ∈ tb := tb_in 646 (by decide +kernel) rfl
theorem m_613 : (.constant R_MD 101 (-1838011259) : Cond) ∈ tb := tb_in 647 (by decide +kernel) rfl
theorem m_614 : (.constant R_MD 102 (-1564481375) : Cond) ∈ tb := tb_in 648 (by decide +kernel) rfl
theorem m_615 : (.constant R_MD 103 (-1474664885) : Cond) ∈ tb := tb_in 649 (by decide +kernel) rfl
theorem m_616 : (.constant R_MD 104 (-1035236496) : Cond) ∈ tb := tb_in 650 (by decide +kernel) rfl
theorem m_617 : (.constant R_MD 105 (-949202525) : Cond) ∈ tb := tb_in 651 (by decide +kernel) rfl
theorem m_618 : (.constant R_MD 106 (-778901479) : Cond) ∈ tb := tb_in 652 (by decide +kernel) rfl
theorem m_619 : (.constant R_MD 107 (-694614492) : Cond) ∈ tb := tb_in 653 (by decide +kernel) rfl
theorem m_620 : (.constant R_MD 108 (-200395387) : Cond) ∈ tb := tb_in 654 (by decide +kernel) rfl
theorem m_621 : (.constant R_MD 109 (275423344) : Cond) ∈ tb := tb_in 655 (by decide +kernel) rfl
theorem m_622 : (.constant R_MD 110 (430227734) : Cond) ∈ tb := tb_in 656 (by decide +kernel) rfl
theorem m_623 : (.constant R_MD 111 (506948616) : Cond) ∈ tb := tb_in 657 (by decide +kernel) rfl
theorem m_624 : (.constant R_MD 112 (659060556) : Cond) ∈ tb := tb_in 658 (by decide +kernel) rfl
theorem m_625 : (.constant R_MD 113 (883997877) : Cond) ∈ tb := tb_in 659 (by decide +kernel) rfl
theorem m_626 : (.constant R_MD 114 (958139571) : Cond) ∈ tb := tb_in 660 (by decide +kernel) rfl
theorem m_627 : (.constant R_MD 115 (1322822218) : Cond) ∈ tb := tb_in 661 (by decide +kernel) rfl
theorem m_628 : (.constant R_MD 116 (1537002063) : Cond) ∈ tb := tb_in 662 (by decide +kernel) rfl
theorem m_629 : (.constant R_MD 117 (1747873779) : Cond) ∈ tb := tb_in 663 (by decide +kernel) rfl
theorem m_630 : (.constant R_MD 118 (1955562222) : Cond) ∈ tb := tb_in 664 (by decide +kernel) rfl
theorem m_631 : (.constant R_MD 119 (2024104815) : Cond) ∈ tb := tb_in 665 (by decide +kernel) rfl
theorem m_632 : (.constant R_MD 120 (-2067236844) : Cond) ∈ tb := tb_in 666 (by decide +kernel) rfl
theorem m_633 : (.constant R_MD 121 (-1933114872) : Cond) ∈ tb := tb_in 667 (by decide +kernel) rfl
theorem m_634 : (.constant R_MD 122 (-1866530822) : Cond) ∈ tb := tb_in 668 (by decide +kernel) rfl
theorem m_635 : (.constant R_MD 123 (-1538233109) : Cond) ∈ tb := tb_in 669 (by decide +kernel) rfl
theorem m_636 : (.constant R_MD 124 (-1090935817) : Cond) ∈ tb := tb_in 670 (by decide +kernel) rfl
theorem m_637 : (.constant R_MD 125 (-965641998) : Cond) ∈ tb := tb_in 671 (by decide +kernel) rfl
theorem m_638 : (.constant R_MD 129 (1779033703) : Cond) ∈ tb := tb_in 672 (by decide +kernel) rfl
theorem m_639 : (.constant R_MD 130 (-1150833019) : Cond) ∈ tb := tb_in 673 (by decide +kernel) rfl
theorem m_640 : (.constant R_MD 131 (1013904242) : Cond) ∈ tb := tb_in 674 (by decide +kernel) rfl
theorem m_641 : (.constant R_MD 132 (-1521486534) : Cond) ∈ tb := tb_in 675 (by decide +kernel) rfl
theorem m_642 : (.constant R_MD 133 (1359893119) : Cond) ∈ tb := tb_in 676 (by decide +kernel) rfl
theorem m_643 : (.constant R_MD 134 (-1694144372) : Cond) ∈ tb := tb_in 677 (by decide +kernel) rfl
theorem m_644 : (.constant R_MD 135 (528734635) : Cond) ∈ tb := tb_in 678 (by decide +kernel) rfl
theorem m_645 : (.constant R_MD 136 (1541459225) : Cond) ∈ tb := tb_in 679 (by decide +kernel) rfl
theorem m_646 : (.methodLink R_MD 140 y_MD_boxOf : Cond) ∈ tb := tb_in 680 (by decide +kernel) rfl
theorem m_647 : (.static y_MD_boxOf : Cond) ∈ tb := tb_in 681 (by decide +kernel) rfl
set_option maxRecDepth 20000 in
theorem m_648 : (.code y_MD_boxOf b_MD_boxOf 5 (some .int) : Cond) ∈ tb := tb_in 682 rfl rfl
theorem m_649 : (.methodLink R_MD 148 y_MD_times : Cond) ∈ tb := tb_in 683 (by decide +kernel) rfl
theorem m_650 : (.static y_MD_times : Cond) ∈ tb := tb_in 684 (by decide +kernel) rfl
set_option maxRecDepth 20000 in
theorem m_651 : (.code y_MD_times b_MD_times 5 (some .int) : Cond) ∈ tb := tb_in 685 rfl rfl
theorem m_652 : (.fieldLink R_MD 144 R_MD "thrown" "I" : Cond) ∈ tb := tb_in 686 (by decide +kernel) rfl
theorem m_653 : (.fieldLink R_MD 7 R_MD "next" "[I" : Cond) ∈ tb := tb_in 687 (by decide +kernel) rfl
theorem m_654 : (.fieldLink R_MD 13 R_MD "keys" "[I" : Cond) ∈ tb := tb_in 688 (by decide +kernel) rfl
theorem m_655 : (.fieldLink R_MD 189 R_MD "later" "Z" : Cond) ∈ tb := tb_in 689 (by decide +kernel) rfl
theorem m_656 : (.fieldLink R_MD 185 R_MD "seen" "Z" : Cond) ∈ tb := tb_in 690 (by decide +kernel) rfl
theorem m_657 : (.fieldLink R_MD 16 R_MD "numbers" "[I" : Cond) ∈ tb := tb_in 691 (by decide +kernel) rfl
theorem m_658 : (.fieldLink R_MD 195 R_MD "size" "I" : Cond) ∈ tb := tb_in 692 (by decide +kernel) rfl
theorem m_659 : (.fieldLink R_MD 19 R_MD "payload" "[B" : Cond) ∈ tb := tb_in 693 (by decide +kernel) rfl
theorem m_660 : (.fieldLink R_MD 209 R_MD "many" "I" : Cond) ∈ tb := tb_in 694 (by decide +kernel) rfl
theorem m_661 : (.fieldLink R_MD 23 R_MD "way" "[B" : Cond) ∈ tb := tb_in 695 (by decide +kernel) rfl
theorem m_662 : (.fieldLink R_MD 216 R_MD "cameSize" "I" : Cond) ∈ tb := tb_in 696 (by decide +kernel) rfl
theorem m_663 : (.fieldLink R_MD 26 R_MD "came" "[B" : Cond) ∈ tb := tb_in 697 (by decide +kernel) rfl
theorem m_664 : (.fieldLink R_MD 222 R_MD "length" "I" : Cond) ∈ tb := tb_in 698 (by decide +kernel) rfl
theorem m_665 : (.fieldLink R_MD 219 R_MD "fault" "I" : Cond) ∈ tb := tb_in 699 (by decide +kernel) rfl
theorem m_666 : (.fieldLink R_MD 231 R_MD "gotSize" "I" : Cond) ∈ tb := tb_in 700 (by decide +kernel) rfl
theorem m_667 : (.fieldLink R_MD 29 R_MD "got" "[B" : Cond) ∈ tb := tb_in 701 (by decide +kernel) rfl
theorem m_668 : (.fieldLink R_MD 32 R_MD "box" "[I" : Cond) ∈ tb := tb_in 702 (by decide +kernel) rfl
theorem m_669 : (.fieldLink R_MD 35 R_MD "words" "[I" : Cond) ∈ tb := tb_in 703 (by decide +kernel) rfl
theorem m_670 : (.fieldLink R_MD 38 R_MD "block" "[I" : Cond) ∈ tb := tb_in 704 (by decide +kernel) rfl
theorem m_671 : (.fieldLink R_MD 41 R_MD "moved" "[I" : Cond) ∈ tb := tb_in 705 (by decide +kernel) rfl
theorem m_672 : (.fieldLink R_MD 44 R_MD "packet" "[B" : Cond) ∈ tb := tb_in 706 (by decide +kernel) rfl
theorem m_673 : (.fieldLink R_MD 47 R_MD "row" "[B" : Cond) ∈ tb := tb_in 707 (by decide +kernel) rfl
theorem m_674 : (.fieldLink R_MD 50 R_MD "digest" "[B" : Cond) ∈ tb := tb_in 708 (by decide +kernel) rfl
theorem m_675 : (.fieldLink R_MD 53 R_MD "w" "[I" : Cond) ∈ tb := tb_in 709 (by decide +kernel) rfl
theorem m_676 : (.fieldLink R_MD 56 R_MD "state" "[I" : Cond) ∈ tb := tb_in 710 (by decide +kernel) rfl
theorem m_677 : (.fieldLink R_MD 59 R_MD "begun" "[I" : Cond) ∈ tb := tb_in 711 (by decide +kernel) rfl
theorem m_678 : (.fieldLink R_MD 126 R_MD "roots" "[I" : Cond) ∈ tb := tb_in 712 (by decide +kernel) rfl
theorem m_679 : (.fieldLink R_MD 137 R_MD "begins" "[I" : Cond) ∈ tb := tb_in 713 (by decide +kernel) rfl
theorem m_737 : (.methodLink R_LW 59 y_MD_thrown : Cond) ∈ tb := tb_in 771 (by decide +kernel) rfl
theorem m_738 : (.instanceMethod y_MD_thrown : Cond) ∈ tb := tb_in 772 (by decide +kernel) rfl
theorem m_739 : (.selects R_MD y_MD_thrown y_MD_thrown : Cond) ∈ tb := tb_in 773 (by decide +kernel) rfl
set_option maxRecDepth 20000 in
theorem m_740 : (.code y_MD_thrown b_MD_thrown 1 (some .int) : Cond) ∈ tb := tb_in 774 rfl rfl
theorem m_741 : (.methodLink R_LW 58 y_MD_key : Cond) ∈ tb := tb_in 775 (by decide +kernel) rfl
theorem m_742 : (.instanceMethod y_MD_key : Cond) ∈ tb := tb_in 776 (by decide +kernel) rfl
theorem m_743 : (.selects R_MD y_MD_key y_MD_key : Cond) ∈ tb := tb_in 777 (by decide +kernel) rfl
set_option maxRecDepth 20000 in
theorem m_744 : (.code y_MD_key b_MD_key 3 none : Cond) ∈ tb := tb_in 778 rfl rfl
theorem m_745 : (.methodLink R_MD 181 y_MD_refused : Cond) ∈ tb := tb_in 779 (by decide +kernel) rfl
theorem m_747 : (.instanceMethod y_MD_refused : Cond) ∈ tb := tb_in 781 (by decide +kernel) rfl
set_option maxRecDepth 20000 in
theorem m_748 : (.code y_MD_refused b_MD_refused 3 (some .boolean) : Cond) ∈ tb := tb_in 782 rfl rfl
theorem m_749 : (.methodLink R_LW 66 y_MD_turn2 : Cond) ∈ tb := tb_in 783 (by decide +kernel) rfl
theorem m_750 : (.instanceMethod y_MD_turn2 : Cond) ∈ tb := tb_in 784 (by decide +kernel) rfl
theorem m_751 : (.selects R_MD y_MD_turn2 y_MD_turn2 : Cond) ∈ tb := tb_in 785 (by decide +kernel) rfl
set_option maxRecDepth 20000 in
theorem m_752 : (.code y_MD_turn2 b_MD_turn2 2 none : Cond) ∈ tb := tb_in 786 rfl rfl
theorem m_753 : (.methodLink R_MD 192 y_MD_copyNext : Cond) ∈ tb := tb_in 787 (by decide +kernel) rfl
theorem m_755 : (.instanceMethod y_MD_copyNext : Cond) ∈ tb := tb_in 789 (by decide +kernel) rfl
set_option maxRecDepth 20000 in
theorem m_756 : (.code y_MD_copyNext b_MD_copyNext 3 none : Cond) ∈ tb := tb_in 790 rfl rfl
theorem m_757 : (.methodLink R_LW 70 y_MD_put : Cond) ∈ tb := tb_in 791 (by decide +kernel) rfl
theorem m_758 : (.instanceMethod y_MD_put : Cond) ∈ tb := tb_in 792 (by decide +kernel) rfl
theorem m_759 : (.selects R_MD y_MD_put y_MD_put : Cond) ∈ tb := tb_in 793 (by decide +kernel) rfl
set_option maxRecDepth 20000 in
theorem m_760 : (.code y_MD_put b_MD_put 5 (some .int) : Cond) ∈ tb := tb_in 794 rfl rfl
theorem m_761 : (.methodLink R_LW 74 y_MD_send : Cond) ∈ tb := tb_in 795 (by decide +kernel) rfl
theorem m_762 : (.instanceMethod y_MD_send : Cond) ∈ tb := tb_in 796 (by decide +kernel) rfl
theorem m_763 : (.selects R_MD y_MD_send y_MD_send : Cond) ∈ tb := tb_in 797 (by decide +kernel) rfl
set_option maxRecDepth 20000 in
theorem m_764 : (.code y_MD_send b_MD_send 2 (some .int) : Cond) ∈ tb := tb_in 798 rfl rfl
theorem m_765 : (.methodLink R_MD 198 y_MD_whole : Cond) ∈ tb := tb_in 799 (by decide +kernel) rfl
theorem m_767 : (.instanceMethod y_MD_whole : Cond) ∈ tb := tb_in 801 (by decide +kernel) rfl
set_option maxRecDepth 20000 in
theorem m_768 : (.code y_MD_whole b_MD_whole 1 (some .int) : Cond) ∈ tb := tb_in 802 rfl rfl
theorem m_769 : (.methodLink R_MD 212 y_MD_pack : Cond) ∈ tb := tb_in 803 (by decide +kernel) rfl
theorem m_771 : (.instanceMethod y_MD_pack : Cond) ∈ tb := tb_in 805 (by decide +kernel) rfl
set_option maxRecDepth 20000 in
theorem m_772 : (.code y_MD_pack b_MD_pack 6 (some .int) : Cond) ∈ tb := tb_in 806 rfl rfl
theorem m_773 : (.methodLink R_MD 202 y_MD_seal : Cond) ∈ tb := tb_in 807 (by decide +kernel) rfl
theorem m_775 : (.instanceMethod y_MD_seal : Cond) ∈ tb := tb_in 809 (by decide +kernel) rfl
set_option maxRecDepth 20000 in
theorem m_776 : (.code y_MD_seal b_MD_seal 4 none : Cond) ∈ tb := tb_in 810 rfl rfl
theorem m_777 : (.methodLink R_MD 174 y_MD_padKey : Cond) ∈ tb := tb_in 811 (by decide +kernel) rfl
theorem m_779 : (.instanceMethod y_MD_padKey : Cond) ∈ tb := tb_in 813 (by decide +kernel) rfl
set_option maxRecDepth 20000 in
theorem m_780 : (.code y_MD_padKey b_MD_padKey 5 none : Cond) ∈ tb := tb_in 814 rfl rfl
theorem m_781 : (.methodLink R_MD 178 y_MD_reckon : Cond) ∈ tb := tb_in 815 (by decide +kernel) rfl
theorem m_783 : (.instanceMethod y_MD_reckon : Cond) ∈ tb := tb_in 817 (by decide +kernel) rfl
set_option maxRecDepth 20000 in
theorem m_784 : (.code y_MD_reckon b_MD_reckon 6 none : Cond) ∈ tb := tb_in 818 rfl rfl
theorem m_785 : (.methodLink R_MD 171 y_MD_mix : Cond) ∈ tb := tb_in 819 (by decide +kernel) rfl
theorem m_787 : (.instanceMethod y_MD_mix : Cond) ∈ tb := tb_in 821 (by decide +kernel) rfl
set_option maxRecDepth 20000 in
theorem m_788 : (.code y_MD_mix b_MD_mix 7 none : Cond) ∈ tb := tb_in 822 rfl rfl
theorem m_789 : (.methodLink R_MD 168 y_MD_turn : Cond) ∈ tb := tb_in 823 (by decide +kernel) rfl
theorem m_790 : (.static y_MD_turn : Cond) ∈ tb := tb_in 824 (by decide +kernel) rfl
set_option maxRecDepth 20000 in
theorem m_791 : (.code y_MD_turn b_MD_turn 2 (some .int) : Cond) ∈ tb := tb_in 825 rfl rfl
theorem m_792 : (.methodLink R_MD 205 y_MD_cipher : Cond) ∈ tb := tb_in 826 (by decide +kernel) rfl
theorem m_794 : (.instanceMethod y_MD_cipher : Cond) ∈ tb := tb_in 828 (by decide +kernel) rfl
set_option maxRecDepth 20000 in
theorem m_795 : (.code y_MD_cipher b_MD_cipher 6 none : Cond) ∈ tb := tb_in 829 rfl rfl
theorem m_796 : (.methodLink R_MD 159 y_MD_expand : Cond) ∈ tb := tb_in 830 (by decide +kernel) rfl
theorem m_798 : (.instanceMethod y_MD_expand : Cond) ∈ tb := tb_in 832 (by decide +kernel) rfl
set_option maxRecDepth 20000 in
theorem m_799 : (.code y_MD_expand b_MD_expand 5 none : Cond) ∈ tb := tb_in 833 rfl rfl
theorem m_800 : (.methodLink R_MD 152 y_MD_boxWord : Cond) ∈ tb := tb_in 834 (by decide +kernel) rfl
theorem m_802 : (.instanceMethod y_MD_boxWord : Cond) ∈ tb := tb_in 836 (by decide +kernel) rfl
set_option maxRecDepth 20000 in
theorem m_803 : (.code y_MD_boxWord b_MD_boxWord 2 (some .int) : Cond) ∈ tb := tb_in 837 rfl rfl
theorem m_804 : (.methodLink R_MD 162 y_MD_encipher : Cond) ∈ tb := tb_in 838 (by decide +kernel) rfl
theorem m_806 : (.instanceMethod y_MD_encipher : Cond) ∈ tb := tb_in 840 (by decide +kernel) rfl
set_option maxRecDepth 20000 in
theorem m_807 : (.code y_MD_encipher b_MD_encipher 6 none : Cond) ∈ tb := tb_in 841 rfl rfl
theorem m_808 : (.methodLink R_MD 155 y_MD_addWords : Cond) ∈ tb := tb_in 842 (by decide +kernel) rfl
theorem m_810 : (.instanceMethod y_MD_addWords : Cond) ∈ tb := tb_in 844 (by decide +kernel) rfl
set_option maxRecDepth 20000 in
theorem m_811 : (.code y_MD_addWords b_MD_addWords 3 none : Cond) ∈ tb := tb_in 845 rfl rfl
theorem m_812 : (.methodLink R_MD 165 y_MD_count : Cond) ∈ tb := tb_in 846 (by decide +kernel) rfl
theorem m_814 : (.instanceMethod y_MD_count : Cond) ∈ tb := tb_in 848 (by decide +kernel) rfl
set_option maxRecDepth 20000 in
theorem m_815 : (.code y_MD_count b_MD_count 3 none : Cond) ∈ tb := tb_in 849 rfl rfl
theorem m_816 : (.methodLink R_LW 77 y_MD_forge : Cond) ∈ tb := tb_in 850 (by decide +kernel) rfl
theorem m_817 : (.instanceMethod y_MD_forge : Cond) ∈ tb := tb_in 851 (by decide +kernel) rfl
theorem m_818 : (.selects R_MD y_MD_forge y_MD_forge : Cond) ∈ tb := tb_in 852 (by decide +kernel) rfl
set_option maxRecDepth 20000 in
theorem m_819 : (.code y_MD_forge b_MD_forge 3 (some .int) : Cond) ∈ tb := tb_in 853 rfl rfl
theorem m_820 : (.methodLink R_LW 81 y_MD_onTheWay : Cond) ∈ tb := tb_in 854 (by decide +kernel) rfl
theorem m_821 : (.instanceMethod y_MD_onTheWay : Cond) ∈ tb := tb_in 855 (by decide +kernel) rfl
theorem m_822 : (.selects R_MD y_MD_onTheWay y_MD_onTheWay : Cond) ∈ tb := tb_in 856 (by decide +kernel) rfl
set_option maxRecDepth 20000 in
theorem m_823 : (.code y_MD_onTheWay b_MD_onTheWay 1 (some .int) : Cond) ∈ tb := tb_in 857 rfl rfl
theorem m_824 : (.methodLink R_LW 84 y_MD_octet : Cond) ∈ tb := tb_in 858 (by decide +kernel) rfl
theorem m_825 : (.instanceMethod y_MD_octet : Cond) ∈ tb := tb_in 859 (by decide +kernel) rfl
theorem m_826 : (.selects R_MD y_MD_octet y_MD_octet : Cond) ∈ tb := tb_in 860 (by decide +kernel) rfl
set_option maxRecDepth 20000 in
theorem m_827 : (.code y_MD_octet b_MD_octet 2 (some .int) : Cond) ∈ tb := tb_in 861 rfl rfl
theorem m_828 : (.methodLink R_LW 87 y_MD_alter : Cond) ∈ tb := tb_in 862 (by decide +kernel) rfl
theorem m_829 : (.instanceMethod y_MD_alter : Cond) ∈ tb := tb_in 863 (by decide +kernel) rfl
theorem m_830 : (.selects R_MD y_MD_alter y_MD_alter : Cond) ∈ tb := tb_in 864 (by decide +kernel) rfl
set_option maxRecDepth 20000 in
theorem m_831 : (.code y_MD_alter b_MD_alter 3 none : Cond) ∈ tb := tb_in 865 rfl rfl
theorem m_832 : (.methodLink R_LW 90 y_MD_link : Cond) ∈ tb := tb_in 866 (by decide +kernel) rfl
theorem m_833 : (.instanceMethod y_MD_link : Cond) ∈ tb := tb_in 867 (by decide +kernel) rfl
theorem m_834 : (.selects R_MD y_MD_link y_MD_link : Cond) ∈ tb := tb_in 868 (by decide +kernel) rfl
set_option maxRecDepth 20000 in
theorem m_835 : (.code y_MD_link b_MD_link 4 (some .int) : Cond) ∈ tb := tb_in 869 rfl rfl
theorem m_836 : (.methodLink R_LW 94 y_MD_take : Cond) ∈ tb := tb_in 870 (by decide +kernel) rfl
theorem m_837 : (.instanceMethod y_MD_take : Cond) ∈ tb := tb_in 871 (by decide +kernel) rfl
theorem m_838 : (.selects R_MD y_MD_take y_MD_take : Cond) ∈ tb := tb_in 872 (by decide +kernel) rfl
set_option maxRecDepth 20000 in
theorem m_839 : (.code y_MD_take b_MD_take 2 (some .int) : Cond) ∈ tb := tb_in 873 rfl rfl
theorem m_840 : (.methodLink R_MD 225 y_MD_fail : Cond) ∈ tb := tb_in 874 (by decide +kernel) rfl
theorem m_842 : (.instanceMethod y_MD_fail : Cond) ∈ tb := tb_in 876 (by decide +kernel) rfl
set_option maxRecDepth 20000 in
theorem m_843 : (.code y_MD_fail b_MD_fail 2 (some .int) : Cond) ∈ tb := tb_in 877 rfl rfl
theorem m_844 : (.methodLink R_MD 228 y_MD_open : Cond) ∈ tb := tb_in 878 (by decide +kernel) rfl
theorem m_846 : (.instanceMethod y_MD_open : Cond) ∈ tb := tb_in 880 (by decide +kernel) rfl
set_option maxRecDepth 20000 in
theorem m_847 : (.code y_MD_open b_MD_open 4 (some .int) : Cond) ∈ tb := tb_in 881 rfl rfl
theorem m_848 : (.methodLink R_LW 97 y_MD_got : Cond) ∈ tb := tb_in 882 (by decide +kernel) rfl
theorem m_849 : (.instanceMethod y_MD_got : Cond) ∈ tb := tb_in 883 (by decide +kernel) rfl
theorem m_850 : (.selects R_MD y_MD_got y_MD_got : Cond) ∈ tb := tb_in 884 (by decide +kernel) rfl
set_option maxRecDepth 20000 in
theorem m_851 : (.code y_MD_got b_MD_got 2 (some .int) : Cond) ∈ tb := tb_in 885 rfl rfl
theorem m_852 : (.methodLink R_LW 100 y_MD_number : Cond) ∈ tb := tb_in 886 (by decide +kernel) rfl
theorem m_853 : (.instanceMethod y_MD_number : Cond) ∈ tb := tb_in 887 (by decide +kernel) rfl
theorem m_854 : (.selects R_MD y_MD_number y_MD_number : Cond) ∈ tb := tb_in 888 (by decide +kernel) rfl
set_option maxRecDepth 20000 in
theorem m_855 : (.code y_MD_number b_MD_number 2 (some .int) : Cond) ∈ tb := tb_in 889 rfl rfl
theorem m_856 : (.methodLink R_LW 104 y_MD_begin : Cond) ∈ tb := tb_in 890 (by decide +kernel) rfl
theorem m_857 : (.instanceMethod y_MD_begin : Cond) ∈ tb := tb_in 891 (by decide +kernel) rfl
theorem m_858 : (.selects R_MD y_MD_begin y_MD_begin : Cond) ∈ tb := tb_in 892 (by decide +kernel) rfl
set_option maxRecDepth 20000 in
theorem m_859 : (.code y_MD_begin b_MD_begin 2 none : Cond) ∈ tb := tb_in 893 rfl rfl
theorem m_860 : (.arrayClass .long : Cond) ∈ tb := tb_in 894 (by decide +kernel) rfl
theorem ms_0 : (.selects R_PG y_PG_learnLength y_PG_learnLength : Cond) ∈ tb := tb_in 0 (by decide +kernel) rfl
theorem ms_1 : (.selects R_CC y_CC_spreadKey y_CC_spreadKey : Cond) ∈ tb := tb_in 1 (by decide +kernel) rfl
theorem ms_3 : (.selects R_CC y_CC_encipherCounter y_CC_encipherCounter : Cond) ∈ tb := tb_in 3 (by decide +kernel) rfl
theorem ms_4 : (.selects R_CC y_CC_addRoundKey y_CC_addRoundKey : Cond) ∈ tb := tb_in 4 (by decide +kernel) rfl
theorem ms_5 : (.selects R_CC y_CC_substituteAndShift y_CC_substituteAndShift : Cond) ∈ tb := tb_in 5 (by decide +kernel) rfl
theorem ms_6 : (.selects R_CC y_CC_mixColumns y_CC_mixColumns : Cond) ∈ tb := tb_in 6 (by decide +kernel) rfl
theorem ms_7 : (.selects R_BQ y_BQ_checkIndex y_BQ_checkIndex : Cond) ∈ tb := tb_in 7 (by decide +kernel) rfl
theorem ms_8 : (.selects R_BQ y_BQ_place y_BQ_place : Cond) ∈ tb := tb_in 8 (by decide +kernel) rfl
theorem ms_9 : (.selects R_PG y_PG_decipherPacket y_PG_decipherPacket : Cond) ∈ tb := tb_in 9 (by decide +kernel) rfl
theorem ms_10 : (.selects R_PG y_PG_faultOfPacket y_PG_faultOfPacket : Cond) ∈ tb := tb_in 10 (by decide +kernel) rfl
theorem ms_11 : (.selects R_SL y_SL_startText y_SL_startText : Cond) ∈ tb := tb_in 11 (by decide +kernel) rfl
theorem ms_12 : (.selects R_DG y_DG_readRow y_DG_readRow : Cond) ∈ tb := tb_in 12 (by decide +kernel) rfl
theorem ms_13 : (.selects R_DG y_DG_spreadRow y_DG_spreadRow : Cond) ∈ tb := tb_in 13 (by decide +kernel) rfl
theorem ms_14 : (.selects R_DG y_DG_mixRow y_DG_mixRow : Cond) ∈ tb := tb_in 14 (by decide +kernel) rfl
theorem ms_15 : (.selects R_PG y_PG_openPacket y_PG_openPacket : Cond) ∈ tb := tb_in 15 (by decide +kernel) rfl
theorem ms_16 : (.selects R_PG y_PG_sideOf y_PG_sideOf : Cond) ∈ tb := tb_in 16 (by decide +kernel) rfl
theorem ms_17 : (.selects R_PG y_PG_ship y_PG_ship : Cond) ∈ tb := tb_in 17 (by decide +kernel) rfl
theorem ms_18 : (.selects R_MD y_MD_refused y_MD_refused : Cond) ∈ tb := tb_in 18 (by decide +kernel) rfl
theorem ms_19 : (.selects R_MD y_MD_copyNext y_MD_copyNext : Cond) ∈ tb := tb_in 19 (by decide +kernel) rfl
theorem ms_20 : (.selects R_MD y_MD_whole y_MD_whole : Cond) ∈ tb := tb_in 20 (by decide +kernel) rfl
theorem ms_21 : (.selects R_MD y_MD_pack y_MD_pack : Cond) ∈ tb := tb_in 21 (by decide +kernel) rfl
theorem ms_22 : (.selects R_MD y_MD_seal y_MD_seal : Cond) ∈ tb := tb_in 22 (by decide +kernel) rfl
theorem ms_23 : (.selects R_MD y_MD_padKey y_MD_padKey : Cond) ∈ tb := tb_in 23 (by decide +kernel) rfl
theorem ms_24 : (.selects R_MD y_MD_reckon y_MD_reckon : Cond) ∈ tb := tb_in 24 (by decide +kernel) rfl
theorem ms_25 : (.selects R_MD y_MD_mix y_MD_mix : Cond) ∈ tb := tb_in 25 (by decide +kernel) rfl
theorem ms_26 : (.selects R_MD y_MD_cipher y_MD_cipher : Cond) ∈ tb := tb_in 26 (by decide +kernel) rfl
theorem ms_27 : (.selects R_MD y_MD_expand y_MD_expand : Cond) ∈ tb := tb_in 27 (by decide +kernel) rfl
theorem ms_28 : (.selects R_MD y_MD_boxWord y_MD_boxWord : Cond) ∈ tb := tb_in 28 (by decide +kernel) rfl
theorem ms_29 : (.selects R_MD y_MD_encipher y_MD_encipher : Cond) ∈ tb := tb_in 29 (by decide +kernel) rfl
theorem ms_30 : (.selects R_MD y_MD_addWords y_MD_addWords : Cond) ∈ tb := tb_in 30 (by decide +kernel) rfl
theorem ms_31 : (.selects R_MD y_MD_count y_MD_count : Cond) ∈ tb := tb_in 31 (by decide +kernel) rfl
theorem ms_32 : (.selects R_MD y_MD_fail y_MD_fail : Cond) ∈ tb := tb_in 32 (by decide +kernel) rfl
theorem ms_33 : (.selects R_MD y_MD_open y_MD_open : Cond) ∈ tb := tb_in 33 (by decide +kernel) rfl
theorem m_obj : (.code objectInit ⟨#[0xb1]⟩ 1 none : Cond) ∈ tb := tb_in 57 rfl rfl
