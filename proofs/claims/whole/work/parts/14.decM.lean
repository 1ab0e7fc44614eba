theorem dX12_init_0 : decode cX12_init 0 = .ok (.aload_n 0, 1) := by decide +kernel
theorem dX12_init_1 : decode cX12_init 1 = .ok (.invokespecial 3, 3) := by decide +kernel
theorem dX12_init_4 : decode cX12_init 4 = .ok (.aload_n 0, 1) := by decide +kernel
theorem dX12_init_5 : decode cX12_init 5 = .ok (.iconst (-1), 1) := by decide +kernel
theorem dX12_init_6 : decode cX12_init 6 = .ok (.putfield 11, 3) := by decide +kernel
theorem dX12_init_9 : decode cX12_init 9 = .ok (.aload_n 0, 1) := by decide +kernel
theorem dX12_init_10 : decode cX12_init 10 = .ok (.sipush 900, 3) := by decide +kernel
theorem dX12_init_13 : decode cX12_init 13 = .ok (.newarray .int, 2) := by decide +kernel
theorem dX12_init_15 : decode cX12_init 15 = .ok (.putfield 15, 3) := by decide +kernel
theorem dX12_init_18 : decode cX12_init 18 = .ok (.aload_n 0, 1) := by decide +kernel
theorem dX12_init_19 : decode cX12_init 19 = .ok (.iconst 4, 1) := by decide +kernel
theorem dX12_init_20 : decode cX12_init 20 = .ok (.newarray .boolean, 2) := by decide +kernel
theorem dX12_init_22 : decode cX12_init 22 = .ok (.putfield 19, 3) := by decide +kernel
theorem dX12_init_25 : decode cX12_init 25 = .ok (.aload_n 0, 1) := by decide +kernel
theorem dX12_init_26 : decode cX12_init 26 = .ok (.iconst 4, 1) := by decide +kernel
theorem dX12_init_27 : decode cX12_init 27 = .ok (.newarray .int, 2) := by decide +kernel
theorem dX12_init_29 : decode cX12_init 29 = .ok (.putfield 23, 3) := by decide +kernel
theorem dX12_init_32 : decode cX12_init 32 = .ok (.aload_n 0, 1) := by decide +kernel
theorem dX12_init_33 : decode cX12_init 33 = .ok (.iconst 4, 1) := by decide +kernel
theorem dX12_init_34 : decode cX12_init 34 = .ok (.newarray .boolean, 2) := by decide +kernel
theorem dX12_init_36 : decode cX12_init 36 = .ok (.putfield 26, 3) := by decide +kernel
theorem dX12_init_39 : decode cX12_init 39 = .ok (.aload_n 0, 1) := by decide +kernel
theorem dX12_init_40 : decode cX12_init 40 = .ok (.iconst 4, 1) := by decide +kernel
theorem dX12_init_41 : decode cX12_init 41 = .ok (.newarray .boolean, 2) := by decide +kernel
theorem dX12_init_43 : decode cX12_init 43 = .ok (.putfield 29, 3) := by decide +kernel
theorem dX12_init_46 : decode cX12_init 46 = .ok (.aload_n 0, 1) := by decide +kernel
theorem dX12_init_47 : decode cX12_init 47 = .ok (.iconst 4, 1) := by decide +kernel
theorem dX12_init_48 : decode cX12_init 48 = .ok (.newarray .long, 2) := by decide +kernel
theorem dX12_init_50 : decode cX12_init 50 = .ok (.putfield 32, 3) := by decide +kernel
theorem dX12_init_53 : decode cX12_init 53 = .ok (.aload_n 0, 1) := by decide +kernel
theorem dX12_init_54 : decode cX12_init 54 = .ok (.iconst 4, 1) := by decide +kernel
theorem dX12_init_55 : decode cX12_init 55 = .ok (.newarray .boolean, 2) := by decide +kernel
theorem dX12_init_57 : decode cX12_init 57 = .ok (.putfield 36, 3) := by decide +kernel
theorem dX12_init_60 : decode cX12_init 60 = .ok (.aload_n 0, 1) := by decide +kernel
theorem dX12_init_61 : decode cX12_init 61 = .ok (.iconst 4, 1) := by decide +kernel
theorem dX12_init_62 : decode cX12_init 62 = .ok (.newarray .int, 2) := by decide +kernel
theorem dX12_init_64 : decode cX12_init 64 = .ok (.putfield 39, 3) := by decide +kernel
theorem dX12_init_67 : decode cX12_init 67 = .ok (.aload_n 0, 1) := by decide +kernel
theorem dX12_init_68 : decode cX12_init 68 = .ok (.iconst 4, 1) := by decide +kernel
theorem dX12_init_69 : decode cX12_init 69 = .ok (.newarray .boolean, 2) := by decide +kernel
theorem dX12_init_71 : decode cX12_init 71 = .ok (.putfield 42, 3) := by decide +kernel
theorem dX12_init_74 : decode cX12_init 74 = .ok (.aload_n 0, 1) := by decide +kernel
theorem dX12_init_75 : decode cX12_init 75 = .ok (.iconst 4, 1) := by decide +kernel
theorem dX12_init_76 : decode cX12_init 76 = .ok (.newarray .boolean, 2) := by decide +kernel
theorem dX12_init_78 : decode cX12_init 78 = .ok (.putfield 45, 3) := by decide +kernel
theorem dX12_init_81 : decode cX12_init 81 = .ok (.aload_n 0, 1) := by decide +kernel
theorem dX12_init_82 : decode cX12_init 82 = .ok (.bipush 120, 2) := by decide +kernel
theorem dX12_init_84 : decode cX12_init 84 = .ok (.newarray .long, 2) := by decide +kernel
theorem dX12_init_86 : decode cX12_init 86 = .ok (.putfield 48, 3) := by decide +kernel
theorem dX12_init_89 : decode cX12_init 89 = .ok (.aload_n 0, 1) := by decide +kernel
theorem dX12_init_90 : decode cX12_init 90 = .ok (.sipush 2624, 3) := by decide +kernel
theorem dX12_init_93 : decode cX12_init 93 = .ok (.newarray .boolean, 2) := by decide +kernel
theorem dX12_init_95 : decode cX12_init 95 = .ok (.putfield 51, 3) := by decide +kernel
theorem dX12_init_98 : decode cX12_init 98 = .ok (.aload_n 0, 1) := by decide +kernel
theorem dX12_init_99 : decode cX12_init 99 = .ok (.sipush 10496, 3) := by decide +kernel
theorem dX12_init_102 : decode cX12_init 102 = .ok (.newarray .long, 2) := by decide +kernel
theorem dX12_init_104 : decode cX12_init 104 = .ok (.putfield 54, 3) := by decide +kernel
theorem dX12_init_107 : decode cX12_init 107 = .ok (.aload_n 0, 1) := by decide +kernel
theorem dX12_init_108 : decode cX12_init 108 = .ok (.bipush 64, 2) := by decide +kernel
theorem dX12_init_110 : decode cX12_init 110 = .ok (.newarray .int, 2) := by decide +kernel
theorem dX12_init_112 : decode cX12_init 112 = .ok (.putfield 57, 3) := by decide +kernel
theorem dX12_init_115 : decode cX12_init 115 = .ok (.aload_n 0, 1) := by decide +kernel
theorem dX12_init_116 : decode cX12_init 116 = .ok (.bipush 36, 2) := by decide +kernel
theorem dX12_init_118 : decode cX12_init 118 = .ok (.newarray .int, 2) := by decide +kernel
theorem dX12_init_120 : decode cX12_init 120 = .ok (.putfield 60, 3) := by decide +kernel
theorem dX12_init_123 : decode cX12_init 123 = .ok (.aload_n 0, 1) := by decide +kernel
theorem dX12_init_124 : decode cX12_init 124 = .ok (.bipush 42, 2) := by decide +kernel
theorem dX12_init_126 : decode cX12_init 126 = .ok (.newarray .int, 2) := by decide +kernel
theorem dX12_init_128 : decode cX12_init 128 = .ok (.putfield 63, 3) := by decide +kernel
theorem dX12_init_131 : decode cX12_init 131 = .ok (.aload_n 0, 1) := by decide +kernel
theorem dX12_init_132 : decode cX12_init 132 = .ok (.iconst 2, 1) := by decide +kernel
theorem dX12_init_133 : decode cX12_init 133 = .ok (.newarray .int, 2) := by decide +kernel
theorem dX12_init_135 : decode cX12_init 135 = .ok (.putfield 66, 3) := by decide +kernel
theorem dX12_init_138 : decode cX12_init 138 = .ok (.aload_n 0, 1) := by decide +kernel
theorem dX12_init_139 : decode cX12_init 139 = .ok (.iconst 2, 1) := by decide +kernel
theorem dX12_init_140 : decode cX12_init 140 = .ok (.newarray .int, 2) := by decide +kernel
theorem dX12_init_142 : decode cX12_init 142 = .ok (.putfield 69, 3) := by decide +kernel
theorem dX12_init_145 : decode cX12_init 145 = .ok (.aload_n 0, 1) := by decide +kernel
theorem dX12_init_146 : decode cX12_init 146 = .ok (.iconst 2, 1) := by decide +kernel
theorem dX12_init_147 : decode cX12_init 147 = .ok (.newarray .long, 2) := by decide +kernel
theorem dX12_init_149 : decode cX12_init 149 = .ok (.putfield 72, 3) := by decide +kernel
theorem dX12_init_152 : decode cX12_init 152 = .ok (.aload_n 0, 1) := by decide +kernel
theorem dX12_init_153 : decode cX12_init 153 = .ok (.bipush 20, 2) := by decide +kernel
theorem dX12_init_155 : decode cX12_init 155 = .ok (.newarray .int, 2) := by decide +kernel
theorem dX12_init_157 : decode cX12_init 157 = .ok (.putfield 75, 3) := by decide +kernel
theorem dX12_init_160 : decode cX12_init 160 = .ok (.aload_n 0, 1) := by decide +kernel
theorem dX12_init_161 : decode cX12_init 161 = .ok (.bipush 36, 2) := by decide +kernel
theorem dX12_init_163 : decode cX12_init 163 = .ok (.newarray .int, 2) := by decide +kernel
theorem dX12_init_165 : decode cX12_init 165 = .ok (.putfield 78, 3) := by decide +kernel
theorem dX12_init_168 : decode cX12_init 168 = .ok (.aload_n 0, 1) := by decide +kernel
theorem dX12_init_169 : decode cX12_init 169 = .ok (.bipush 20, 2) := by decide +kernel
theorem dX12_init_171 : decode cX12_init 171 = .ok (.newarray .int, 2) := by decide +kernel
theorem dX12_init_173 : decode cX12_init 173 = .ok (.putfield 81, 3) := by decide +kernel
theorem dX12_init_176 : decode cX12_init 176 = .ok (.aload_n 0, 1) := by decide +kernel
theorem dX12_init_177 : decode cX12_init 177 = .ok (.bipush 80, 2) := by decide +kernel
theorem dX12_init_179 : decode cX12_init 179 = .ok (.newarray .long, 2) := by decide +kernel
theorem dX12_init_181 : decode cX12_init 181 = .ok (.putfield 84, 3) := by decide +kernel
theorem dX12_init_184 : decode cX12_init 184 = .ok (.aload_n 0, 1) := by decide +kernel
theorem dX12_init_185 : decode cX12_init 185 = .ok (.sipush 1800, 3) := by decide +kernel
theorem dX12_init_188 : decode cX12_init 188 = .ok (.newarray .int, 2) := by decide +kernel
theorem dX12_init_190 : decode cX12_init 190 = .ok (.putfield 87, 3) := by decide +kernel
theorem dX12_init_193 : decode cX12_init 193 = .ok (.aload_n 0, 1) := by decide +kernel
theorem dX12_init_194 : decode cX12_init 194 = .ok (.iconst 2, 1) := by decide +kernel
theorem dX12_init_195 : decode cX12_init 195 = .ok (.newarray .int, 2) := by decide +kernel
theorem dX12_init_197 : decode cX12_init 197 = .ok (.putfield 90, 3) := by decide +kernel
theorem dX12_init_200 : decode cX12_init 200 = .ok (.aload_n 0, 1) := by decide +kernel
theorem dX12_init_201 : decode cX12_init 201 = .ok (.iconst 2, 1) := by decide +kernel
theorem dX12_init_202 : decode cX12_init 202 = .ok (.newarray .int, 2) := by decide +kernel
theorem dX12_init_204 : decode cX12_init 204 = .ok (.putfield 93, 3) := by decide +kernel
theorem dX12_init_207 : decode cX12_init 207 = .ok (.aload_n 0, 1) := by decide +kernel
theorem dX12_init_208 : decode cX12_init 208 = .ok (.sipush 900, 3) := by decide +kernel
theorem dX12_init_211 : decode cX12_init 211 = .ok (.newarray .int, 2) := by decide +kernel
theorem dX12_init_213 : decode cX12_init 213 = .ok (.putfield 96, 3) := by decide +kernel
theorem dX12_init_216 : decode cX12_init 216 = .ok (.aload_n 0, 1) := by decide +kernel
theorem dX12_init_217 : decode cX12_init 217 = .ok (.iconst 4, 1) := by decide +kernel
theorem dX12_init_218 : decode cX12_init 218 = .ok (.newarray .int, 2) := by decide +kernel
theorem dX12_init_220 : decode cX12_init 220 = .ok (.putfield 99, 3) := by decide +kernel
theorem dX12_init_223 : decode cX12_init 223 = .ok (.aload_n 0, 1) := by decide +kernel
theorem dX12_init_224 : decode cX12_init 224 = .ok (.iconst 4, 1) := by decide +kernel
theorem dX12_init_225 : decode cX12_init 225 = .ok (.newarray .int, 2) := by decide +kernel
theorem dX12_init_227 : decode cX12_init 227 = .ok (.putfield 102, 3) := by decide +kernel
theorem dX12_init_230 : decode cX12_init 230 = .ok (.aload_n 0, 1) := by decide +kernel
theorem dX12_init_231 : decode cX12_init 231 = .ok (.iconst 4, 1) := by decide +kernel
theorem dX12_init_232 : decode cX12_init 232 = .ok (.newarray .boolean, 2) := by decide +kernel
theorem dX12_init_234 : decode cX12_init 234 = .ok (.putfield 105, 3) := by decide +kernel
theorem dX12_init_237 : decode cX12_init 237 = .ok (.aload_n 0, 1) := by decide +kernel
theorem dX12_init_238 : decode cX12_init 238 = .ok (.iconst 4, 1) := by decide +kernel
theorem dX12_init_239 : decode cX12_init 239 = .ok (.newarray .int, 2) := by decide +kernel
theorem dX12_init_241 : decode cX12_init 241 = .ok (.putfield 108, 3) := by decide +kernel
theorem dX12_init_244 : decode cX12_init 244 = .ok (.aload_n 0, 1) := by decide +kernel
theorem dX12_init_245 : decode cX12_init 245 = .ok (.iconst 4, 1) := by decide +kernel
theorem dX12_init_246 : decode cX12_init 246 = .ok (.newarray .int, 2) := by decide +kernel
theorem dX12_init_248 : decode cX12_init 248 = .ok (.putfield 111, 3) := by decide +kernel
theorem dX12_init_251 : decode cX12_init 251 = .ok (.aload_n 0, 1) := by decide +kernel
theorem dX12_init_252 : decode cX12_init 252 = .ok (.sipush 144, 3) := by decide +kernel
theorem dX12_init_255 : decode cX12_init 255 = .ok (.newarray .int, 2) := by decide +kernel
theorem dX12_init_257 : decode cX12_init 257 = .ok (.putfield 114, 3) := by decide +kernel
theorem dX12_init_260 : decode cX12_init 260 = .ok (.aload_n 0, 1) := by decide +kernel
theorem dX12_init_261 : decode cX12_init 261 = .ok (.sipush 256, 3) := by decide +kernel
theorem dX12_init_264 : decode cX12_init 264 = .ok (.newarray .int, 2) := by decide +kernel
theorem dX12_init_266 : decode cX12_init 266 = .ok (.putfield 117, 3) := by decide +kernel
theorem dX12_init_269 : decode cX12_init 269 = .ok (.aload_n 0, 1) := by decide +kernel
theorem dX12_init_270 : decode cX12_init 270 = .ok (.sipush 256, 3) := by decide +kernel
theorem dX12_init_273 : decode cX12_init 273 = .ok (.newarray .int, 2) := by decide +kernel
theorem dX12_init_275 : decode cX12_init 275 = .ok (.putfield 120, 3) := by decide +kernel
theorem dX12_init_278 : decode cX12_init 278 = .ok (.aload_n 0, 1) := by decide +kernel
theorem dX12_init_279 : decode cX12_init 279 = .ok (.iconst 4, 1) := by decide +kernel
theorem dX12_init_280 : decode cX12_init 280 = .ok (.newarray .int, 2) := by decide +kernel
theorem dX12_init_282 : decode cX12_init 282 = .ok (.putfield 123, 3) := by decide +kernel
theorem dX12_init_285 : decode cX12_init 285 = .ok (.return_, 1) := by decide +kernel
theorem dX12_thrown_0 : decode cX12_thrown 0 = .ok (.aload_n 0, 1) := by decide +kernel
theorem dX12_thrown_1 : decode cX12_thrown 1 = .ok (.getfield 126, 3) := by decide +kernel
theorem dX12_thrown_4 : decode cX12_thrown 4 = .ok (.ireturn, 1) := by decide +kernel
theorem dX12_in_0 : decode cX12_in 0 = .ok (.lload_n 0, 1) := by decide +kernel
theorem dX12_in_1 : decode cX12_in 1 = .ok (.lload_n 2, 1) := by decide +kernel
theorem dX12_in_2 : decode cX12_in 2 = .ok (.lcmp, 1) := by decide +kernel
theorem dX12_in_3 : decode cX12_in 3 = .ok (.ifCond .lt 14, 3) := by decide +kernel
theorem dX12_in_6 : decode cX12_in 6 = .ok (.lload_n 0, 1) := by decide +kernel
theorem dX12_in_7 : decode cX12_in 7 = .ok (.lload 4, 2) := by decide +kernel
theorem dX12_in_9 : decode cX12_in 9 = .ok (.lcmp, 1) := by decide +kernel
theorem dX12_in_10 : decode cX12_in 10 = .ok (.ifCond .gt 7, 3) := by decide +kernel
theorem dX12_in_13 : decode cX12_in 13 = .ok (.iconst 1, 1) := by decide +kernel
theorem dX12_in_14 : decode cX12_in 14 = .ok (.goto 4, 3) := by decide +kernel
theorem dX12_in_17 : decode cX12_in 17 = .ok (.iconst 0, 1) := by decide +kernel
theorem dX12_in_18 : decode cX12_in 18 = .ok (.ireturn, 1) := by decide +kernel
theorem dX12_no_0 : decode cX12_no 0 = .ok (.aload_n 0, 1) := by decide +kernel
theorem dX12_no_1 : decode cX12_no 1 = .ok (.iload_n 1, 1) := by decide +kernel
theorem dX12_no_2 : decode cX12_no 2 = .ok (.putfield 129, 3) := by decide +kernel
theorem dX12_no_5 : decode cX12_no 5 = .ok (.iconst (-1), 1) := by decide +kernel
theorem dX12_no_6 : decode cX12_no 6 = .ok (.ireturn, 1) := by decide +kernel
theorem dX12_isRefused_0 : decode cX12_isRefused 0 = .ok (.aload_n 0, 1) := by decide +kernel
theorem dX12_isRefused_1 : decode cX12_isRefused 1 = .ok (.iconst 0, 1) := by decide +kernel
theorem dX12_isRefused_2 : decode cX12_isRefused 2 = .ok (.putfield 126, 3) := by decide +kernel
theorem dX12_isRefused_5 : decode cX12_isRefused 5 = .ok (.aload_n 0, 1) := by decide +kernel
theorem dX12_isRefused_6 : decode cX12_isRefused 6 = .ok (.iconst (-1), 1) := by decide +kernel
theorem dX12_isRefused_7 : decode cX12_isRefused 7 = .ok (.putfield 11, 3) := by decide +kernel
theorem dX12_isRefused_10 : decode cX12_isRefused 10 = .ok (.aload_n 0, 1) := by decide +kernel
theorem dX12_isRefused_11 : decode cX12_isRefused 11 = .ok (.iload_n 1, 1) := by decide +kernel
theorem dX12_isRefused_12 : decode cX12_isRefused 12 = .ok (.putfield 129, 3) := by decide +kernel
theorem dX12_isRefused_15 : decode cX12_isRefused 15 = .ok (.iload_n 1, 1) := by decide +kernel
theorem dX12_isRefused_16 : decode cX12_isRefused 16 = .ok (.ifCond .eq 7, 3) := by decide +kernel
theorem dX12_isRefused_19 : decode cX12_isRefused 19 = .ok (.iconst 1, 1) := by decide +kernel
theorem dX12_isRefused_20 : decode cX12_isRefused 20 = .ok (.goto 4, 3) := by decide +kernel
theorem dX12_isRefused_23 : decode cX12_isRefused 23 = .ok (.iconst 0, 1) := by decide +kernel
theorem dX12_isRefused_24 : decode cX12_isRefused 24 = .ok (.ireturn, 1) := by decide +kernel
theorem dX12_unless_0 : decode cX12_unless 0 = .ok (.iload_n 0, 1) := by decide +kernel
theorem dX12_unless_1 : decode cX12_unless 1 = .ok (.ifCond .eq 7, 3) := by decide +kernel
theorem dX12_unless_4 : decode cX12_unless 4 = .ok (.iconst 0, 1) := by decide +kernel
theorem dX12_unless_5 : decode cX12_unless 5 = .ok (.goto 4, 3) := by decide +kernel
theorem dX12_unless_8 : decode cX12_unless 8 = .ok (.iconst 1, 1) := by decide +kernel
theorem dX12_unless_9 : decode cX12_unless 9 = .ok (.ireturn, 1) := by decide +kernel
theorem dX12_feed_0 : decode cX12_feed 0 = .ok (.aload_n 0, 1) := by decide +kernel
theorem dX12_feed_1 : decode cX12_feed 1 = .ok (.iconst 0, 1) := by decide +kernel
theorem dX12_feed_2 : decode cX12_feed 2 = .ok (.putfield 126, 3) := by decide +kernel
theorem dX12_feed_5 : decode cX12_feed 5 = .ok (.aload_n 0, 1) := by decide +kernel
theorem dX12_feed_6 : decode cX12_feed 6 = .ok (.getfield 132, 3) := by decide +kernel
theorem dX12_feed_9 : decode cX12_feed 9 = .ok (.sipush 880, 3) := by decide +kernel
theorem dX12_feed_12 : decode cX12_feed 12 = .ok (.if_icmp .le 5, 3) := by decide +kernel
theorem dX12_feed_15 : decode cX12_feed 15 = .ok (.iconst (-1), 1) := by decide +kernel
theorem dX12_feed_16 : decode cX12_feed 16 = .ok (.ireturn, 1) := by decide +kernel
theorem dX12_feed_17 : decode cX12_feed 17 = .ok (.aload_n 0, 1) := by decide +kernel
theorem dX12_feed_18 : decode cX12_feed 18 = .ok (.iload_n 1, 1) := by decide +kernel
theorem dX12_feed_19 : decode cX12_feed 19 = .ok (.invokevirtual 135, 3) := by decide +kernel
theorem dX12_feed_22 : decode cX12_feed 22 = .ok (.aload_n 0, 1) := by decide +kernel
theorem dX12_feed_23 : decode cX12_feed 23 = .ok (.iload_n 2, 1) := by decide +kernel
theorem dX12_feed_24 : decode cX12_feed 24 = .ok (.invokevirtual 135, 3) := by decide +kernel
theorem dX12_feed_27 : decode cX12_feed 27 = .ok (.aload_n 0, 1) := by decide +kernel
theorem dX12_feed_28 : decode cX12_feed 28 = .ok (.iload_n 3, 1) := by decide +kernel
theorem dX12_feed_29 : decode cX12_feed 29 = .ok (.invokevirtual 135, 3) := by decide +kernel
theorem dX12_feed_32 : decode cX12_feed 32 = .ok (.aload_n 0, 1) := by decide +kernel
theorem dX12_feed_33 : decode cX12_feed 33 = .ok (.iload 4, 2) := by decide +kernel
theorem dX12_feed_35 : decode cX12_feed 35 = .ok (.invokevirtual 135, 3) := by decide +kernel
theorem dX12_feed_38 : decode cX12_feed 38 = .ok (.aload_n 0, 1) := by decide +kernel
theorem dX12_feed_39 : decode cX12_feed 39 = .ok (.iload 5, 2) := by decide +kernel
theorem dX12_feed_41 : decode cX12_feed 41 = .ok (.invokevirtual 135, 3) := by decide +kernel
theorem dX12_feed_44 : decode cX12_feed 44 = .ok (.aload_n 0, 1) := by decide +kernel
theorem dX12_feed_45 : decode cX12_feed 45 = .ok (.getfield 132, 3) := by decide +kernel
theorem dX12_feed_48 : decode cX12_feed 48 = .ok (.ireturn, 1) := by decide +kernel
theorem dX12_laysWord_0 : decode cX12_laysWord 0 = .ok (.iconst 0, 1) := by decide +kernel
theorem dX12_laysWord_1 : decode cX12_laysWord 1 = .ok (.istore_n 2, 1) := by decide +kernel
theorem dX12_laysWord_2 : decode cX12_laysWord 2 = .ok (.iload_n 2, 1) := by decide +kernel
theorem dX12_laysWord_3 : decode cX12_laysWord 3 = .ok (.iconst 4, 1) := by decide +kernel
theorem dX12_laysWord_4 : decode cX12_laysWord 4 = .ok (.if_icmp .ge 33, 3) := by decide +kernel
theorem dX12_laysWord_7 : decode cX12_laysWord 7 = .ok (.aload_n 0, 1) := by decide +kernel
theorem dX12_laysWord_8 : decode cX12_laysWord 8 = .ok (.getfield 15, 3) := by decide +kernel
theorem dX12_laysWord_11 : decode cX12_laysWord 11 = .ok (.aload_n 0, 1) := by decide +kernel
theorem dX12_laysWord_12 : decode cX12_laysWord 12 = .ok (.getfield 132, 3) := by decide +kernel
theorem dX12_laysWord_15 : decode cX12_laysWord 15 = .ok (.iload_n 2, 1) := by decide +kernel
theorem dX12_laysWord_16 : decode cX12_laysWord 16 = .ok (.iadd, 1) := by decide +kernel
theorem dX12_laysWord_17 : decode cX12_laysWord 17 = .ok (.iload_n 1, 1) := by decide +kernel
theorem dX12_laysWord_18 : decode cX12_laysWord 18 = .ok (.bipush 24, 2) := by decide +kernel
theorem dX12_laysWord_20 : decode cX12_laysWord 20 = .ok (.bipush 8, 2) := by decide +kernel
theorem dX12_laysWord_22 : decode cX12_laysWord 22 = .ok (.iload_n 2, 1) := by decide +kernel
theorem dX12_laysWord_23 : decode cX12_laysWord 23 = .ok (.imul, 1) := by decide +kernel
theorem dX12_laysWord_24 : decode cX12_laysWord 24 = .ok (.isub, 1) := by decide +kernel
theorem dX12_laysWord_25 : decode cX12_laysWord 25 = .ok (.ishr, 1) := by decide +kernel
theorem dX12_laysWord_26 : decode cX12_laysWord 26 = .ok (.sipush 255, 3) := by decide +kernel
theorem dX12_laysWord_29 : decode cX12_laysWord 29 = .ok (.iand, 1) := by decide +kernel
theorem dX12_laysWord_30 : decode cX12_laysWord 30 = .ok (.iastore, 1) := by decide +kernel
theorem dX12_laysWord_31 : decode cX12_laysWord 31 = .ok (.iinc 2 1, 3) := by decide +kernel
theorem dX12_laysWord_34 : decode cX12_laysWord 34 = .ok (.goto (-32), 3) := by decide +kernel
theorem dX12_laysWord_37 : decode cX12_laysWord 37 = .ok (.aload_n 0, 1) := by decide +kernel
theorem dX12_laysWord_38 : decode cX12_laysWord 38 = .ok (.dup, 1) := by decide +kernel
theorem dX12_laysWord_39 : decode cX12_laysWord 39 = .ok (.getfield 132, 3) := by decide +kernel
theorem dX12_laysWord_42 : decode cX12_laysWord 42 = .ok (.iconst 4, 1) := by decide +kernel
theorem dX12_laysWord_43 : decode cX12_laysWord 43 = .ok (.iadd, 1) := by decide +kernel
theorem dX12_laysWord_44 : decode cX12_laysWord 44 = .ok (.putfield 132, 3) := by decide +kernel
theorem dX12_laysWord_47 : decode cX12_laysWord 47 = .ok (.return_, 1) := by decide +kernel
theorem dX12_see_0 : decode cX12_see 0 = .ok (.iload_n 1, 1) := by decide +kernel
theorem dX12_see_1 : decode cX12_see 1 = .ok (.aload_n 0, 1) := by decide +kernel
theorem dX12_see_2 : decode cX12_see 2 = .ok (.getfield 139, 3) := by decide +kernel
theorem dX12_see_5 : decode cX12_see 5 = .ok (.if_icmp .ge 12, 3) := by decide +kernel
theorem dX12_see_8 : decode cX12_see 8 = .ok (.aload_n 0, 1) := by decide +kernel
theorem dX12_see_9 : decode cX12_see 9 = .ok (.getfield 15, 3) := by decide +kernel
theorem dX12_see_12 : decode cX12_see 12 = .ok (.iload_n 1, 1) := by decide +kernel
theorem dX12_see_13 : decode cX12_see 13 = .ok (.iaload, 1) := by decide +kernel
theorem dX12_see_14 : decode cX12_see 14 = .ok (.goto 4, 3) := by decide +kernel
theorem dX12_see_17 : decode cX12_see 17 = .ok (.iconst (-1), 1) := by decide +kernel
theorem dX12_see_18 : decode cX12_see 18 = .ok (.ireturn, 1) := by decide +kernel
theorem dX12_goesOn_0 : decode cX12_goesOn 0 = .ok (.aload_n 0, 1) := by decide +kernel
theorem dX12_goesOn_1 : decode cX12_goesOn 1 = .ok (.aload_n 0, 1) := by decide +kernel
theorem dX12_goesOn_2 : decode cX12_goesOn 2 = .ok (.getfield 142, 3) := by decide +kernel
theorem dX12_goesOn_5 : decode cX12_goesOn 5 = .ok (.invokevirtual 145, 3) := by decide +kernel
theorem dX12_goesOn_8 : decode cX12_goesOn 8 = .ok (.bipush 32, 2) := by decide +kernel
theorem dX12_goesOn_10 : decode cX12_goesOn 10 = .ok (.if_icmp .ne 16, 3) := by decide +kernel
theorem dX12_goesOn_13 : decode cX12_goesOn 13 = .ok (.aload_n 0, 1) := by decide +kernel
theorem dX12_goesOn_14 : decode cX12_goesOn 14 = .ok (.dup, 1) := by decide +kernel
theorem dX12_goesOn_15 : decode cX12_goesOn 15 = .ok (.getfield 142, 3) := by decide +kernel
theorem dX12_goesOn_18 : decode cX12_goesOn 18 = .ok (.iconst 1, 1) := by decide +kernel
theorem dX12_goesOn_19 : decode cX12_goesOn 19 = .ok (.iadd, 1) := by decide +kernel
theorem dX12_goesOn_20 : decode cX12_goesOn 20 = .ok (.putfield 142, 3) := by decide +kernel
theorem dX12_goesOn_23 : decode cX12_goesOn 23 = .ok (.goto (-23), 3) := by decide +kernel
theorem dX12_goesOn_26 : decode cX12_goesOn 26 = .ok (.aload_n 0, 1) := by decide +kernel
theorem dX12_goesOn_27 : decode cX12_goesOn 27 = .ok (.aload_n 0, 1) := by decide +kernel
theorem dX12_goesOn_28 : decode cX12_goesOn 28 = .ok (.getfield 142, 3) := by decide +kernel
theorem dX12_goesOn_31 : decode cX12_goesOn 31 = .ok (.putfield 149, 3) := by decide +kernel
theorem dX12_goesOn_34 : decode cX12_goesOn 34 = .ok (.aload_n 0, 1) := by decide +kernel
theorem dX12_goesOn_35 : decode cX12_goesOn 35 = .ok (.aload_n 0, 1) := by decide +kernel
theorem dX12_goesOn_36 : decode cX12_goesOn 36 = .ok (.getfield 142, 3) := by decide +kernel
theorem dX12_goesOn_39 : decode cX12_goesOn 39 = .ok (.invokevirtual 145, 3) := by decide +kernel
theorem dX12_goesOn_42 : decode cX12_goesOn 42 = .ok (.istore_n 1, 1) := by decide +kernel
theorem dX12_goesOn_43 : decode cX12_goesOn 43 = .ok (.iload_n 1, 1) := by decide +kernel
theorem dX12_goesOn_44 : decode cX12_goesOn 44 = .ok (.iconst (-1), 1) := by decide +kernel
theorem dX12_goesOn_45 : decode cX12_goesOn 45 = .ok (.if_icmp .ne 9, 3) := by decide +kernel
theorem dX12_goesOn_48 : decode cX12_goesOn 48 = .ok (.aload_n 0, 1) := by decide +kernel
theorem dX12_goesOn_49 : decode cX12_goesOn 49 = .ok (.iconst 0, 1) := by decide +kernel
theorem dX12_goesOn_50 : decode cX12_goesOn 50 = .ok (.putfield 152, 3) := by decide +kernel
theorem dX12_goesOn_53 : decode cX12_goesOn 53 = .ok (.return_, 1) := by decide +kernel
theorem dX12_goesOn_54 : decode cX12_goesOn 54 = .ok (.iload_n 1, 1) := by decide +kernel
theorem dX12_goesOn_55 : decode cX12_goesOn 55 = .ok (.i2l, 1) := by decide +kernel
theorem dX12_goesOn_56 : decode cX12_goesOn 56 = .ok (.ldc2_w 155, 3) := by decide +kernel
theorem dX12_goesOn_59 : decode cX12_goesOn 59 = .ok (.ldc2_w 157, 3) := by decide +kernel
theorem dX12_goesOn_62 : decode cX12_goesOn 62 = .ok (.invokestatic 159, 3) := by decide +kernel
theorem dX12_goesOn_65 : decode cX12_goesOn 65 = .ok (.ifCond .eq 61, 3) := by decide +kernel
theorem dX12_goesOn_68 : decode cX12_goesOn 68 = .ok (.aload_n 0, 1) := by decide +kernel
theorem dX12_goesOn_69 : decode cX12_goesOn 69 = .ok (.aload_n 0, 1) := by decide +kernel
theorem dX12_goesOn_70 : decode cX12_goesOn 70 = .ok (.getfield 142, 3) := by decide +kernel
theorem dX12_goesOn_73 : decode cX12_goesOn 73 = .ok (.invokevirtual 145, 3) := by decide +kernel
theorem dX12_goesOn_76 : decode cX12_goesOn 76 = .ok (.i2l, 1) := by decide +kernel
theorem dX12_goesOn_77 : decode cX12_goesOn 77 = .ok (.ldc2_w 155, 3) := by decide +kernel
theorem dX12_goesOn_80 : decode cX12_goesOn 80 = .ok (.ldc2_w 157, 3) := by decide +kernel
theorem dX12_goesOn_83 : decode cX12_goesOn 83 = .ok (.invokestatic 159, 3) := by decide +kernel
theorem dX12_goesOn_86 : decode cX12_goesOn 86 = .ok (.ifCond .eq 16, 3) := by decide +kernel
theorem dX12_goesOn_89 : decode cX12_goesOn 89 = .ok (.aload_n 0, 1) := by decide +kernel
theorem dX12_goesOn_90 : decode cX12_goesOn 90 = .ok (.dup, 1) := by decide +kernel
theorem dX12_goesOn_91 : decode cX12_goesOn 91 = .ok (.getfield 142, 3) := by decide +kernel
theorem dX12_goesOn_94 : decode cX12_goesOn 94 = .ok (.iconst 1, 1) := by decide +kernel
theorem dX12_goesOn_95 : decode cX12_goesOn 95 = .ok (.iadd, 1) := by decide +kernel
theorem dX12_goesOn_96 : decode cX12_goesOn 96 = .ok (.putfield 142, 3) := by decide +kernel
theorem dX12_goesOn_99 : decode cX12_goesOn 99 = .ok (.goto (-31), 3) := by decide +kernel
theorem dX12_goesOn_102 : decode cX12_goesOn 102 = .ok (.aload_n 0, 1) := by decide +kernel
theorem dX12_goesOn_103 : decode cX12_goesOn 103 = .ok (.aload_n 0, 1) := by decide +kernel
theorem dX12_goesOn_104 : decode cX12_goesOn 104 = .ok (.getfield 142, 3) := by decide +kernel
theorem dX12_goesOn_107 : decode cX12_goesOn 107 = .ok (.aload_n 0, 1) := by decide +kernel
theorem dX12_goesOn_108 : decode cX12_goesOn 108 = .ok (.getfield 149, 3) := by decide +kernel
theorem dX12_goesOn_111 : decode cX12_goesOn 111 = .ok (.isub, 1) := by decide +kernel
theorem dX12_goesOn_112 : decode cX12_goesOn 112 = .ok (.bipush 6, 2) := by decide +kernel
theorem dX12_goesOn_114 : decode cX12_goesOn 114 = .ok (.if_icmp .le 7, 3) := by decide +kernel
theorem dX12_goesOn_117 : decode cX12_goesOn 117 = .ok (.iconst 1, 1) := by decide +kernel
theorem dX12_goesOn_118 : decode cX12_goesOn 118 = .ok (.goto 4, 3) := by decide +kernel
theorem dX12_goesOn_121 : decode cX12_goesOn 121 = .ok (.iconst 2, 1) := by decide +kernel
theorem dX12_goesOn_122 : decode cX12_goesOn 122 = .ok (.putfield 152, 3) := by decide +kernel
theorem dX12_goesOn_125 : decode cX12_goesOn 125 = .ok (.return_, 1) := by decide +kernel
theorem dX12_goesOn_126 : decode cX12_goesOn 126 = .ok (.iload_n 1, 1) := by decide +kernel
theorem dX12_goesOn_127 : decode cX12_goesOn 127 = .ok (.i2l, 1) := by decide +kernel
theorem dX12_goesOn_128 : decode cX12_goesOn 128 = .ok (.ldc2_w 163, 3) := by decide +kernel
theorem dX12_goesOn_131 : decode cX12_goesOn 131 = .ok (.ldc2_w 165, 3) := by decide +kernel
theorem dX12_goesOn_134 : decode cX12_goesOn 134 = .ok (.invokestatic 159, 3) := by decide +kernel
theorem dX12_goesOn_137 : decode cX12_goesOn 137 = .ok (.ifCond .eq 108, 3) := by decide +kernel
theorem dX12_goesOn_140 : decode cX12_goesOn 140 = .ok (.aload_n 0, 1) := by decide +kernel
theorem dX12_goesOn_141 : decode cX12_goesOn 141 = .ok (.iconst 0, 1) := by decide +kernel
theorem dX12_goesOn_142 : decode cX12_goesOn 142 = .ok (.putfield 167, 3) := by decide +kernel
theorem dX12_goesOn_145 : decode cX12_goesOn 145 = .ok (.aload_n 0, 1) := by decide +kernel
theorem dX12_goesOn_146 : decode cX12_goesOn 146 = .ok (.aload_n 0, 1) := by decide +kernel
theorem dX12_goesOn_147 : decode cX12_goesOn 147 = .ok (.getfield 142, 3) := by decide +kernel
theorem dX12_goesOn_150 : decode cX12_goesOn 150 = .ok (.invokevirtual 145, 3) := by decide +kernel
theorem dX12_goesOn_153 : decode cX12_goesOn 153 = .ok (.i2l, 1) := by decide +kernel
theorem dX12_goesOn_154 : decode cX12_goesOn 154 = .ok (.ldc2_w 163, 3) := by decide +kernel
theorem dX12_goesOn_157 : decode cX12_goesOn 157 = .ok (.ldc2_w 165, 3) := by decide +kernel
theorem dX12_goesOn_160 : decode cX12_goesOn 160 = .ok (.invokestatic 159, 3) := by decide +kernel
theorem dX12_goesOn_163 : decode cX12_goesOn 163 = .ok (.ifCond .eq 59, 3) := by decide +kernel
theorem dX12_goesOn_166 : decode cX12_goesOn 166 = .ok (.aload_n 0, 1) := by decide +kernel
theorem dX12_goesOn_167 : decode cX12_goesOn 167 = .ok (.aload_n 0, 1) := by decide +kernel
theorem dX12_goesOn_168 : decode cX12_goesOn 168 = .ok (.getfield 142, 3) := by decide +kernel
theorem dX12_goesOn_171 : decode cX12_goesOn 171 = .ok (.aload_n 0, 1) := by decide +kernel
theorem dX12_goesOn_172 : decode cX12_goesOn 172 = .ok (.getfield 149, 3) := by decide +kernel
theorem dX12_goesOn_175 : decode cX12_goesOn 175 = .ok (.isub, 1) := by decide +kernel
theorem dX12_goesOn_176 : decode cX12_goesOn 176 = .ok (.iconst 4, 1) := by decide +kernel
theorem dX12_goesOn_177 : decode cX12_goesOn 177 = .ok (.if_icmp .ge 25, 3) := by decide +kernel
theorem dX12_goesOn_180 : decode cX12_goesOn 180 = .ok (.bipush 10, 2) := by decide +kernel
theorem dX12_goesOn_182 : decode cX12_goesOn 182 = .ok (.aload_n 0, 1) := by decide +kernel
theorem dX12_goesOn_183 : decode cX12_goesOn 183 = .ok (.getfield 167, 3) := by decide +kernel
theorem dX12_goesOn_186 : decode cX12_goesOn 186 = .ok (.imul, 1) := by decide +kernel
theorem dX12_goesOn_187 : decode cX12_goesOn 187 = .ok (.aload_n 0, 1) := by decide +kernel
theorem dX12_goesOn_188 : decode cX12_goesOn 188 = .ok (.aload_n 0, 1) := by decide +kernel
theorem dX12_goesOn_189 : decode cX12_goesOn 189 = .ok (.getfield 142, 3) := by decide +kernel
theorem dX12_goesOn_192 : decode cX12_goesOn 192 = .ok (.invokevirtual 145, 3) := by decide +kernel
theorem dX12_goesOn_195 : decode cX12_goesOn 195 = .ok (.iadd, 1) := by decide +kernel
theorem dX12_goesOn_196 : decode cX12_goesOn 196 = .ok (.bipush 48, 2) := by decide +kernel
theorem dX12_goesOn_198 : decode cX12_goesOn 198 = .ok (.isub, 1) := by decide +kernel
theorem dX12_goesOn_199 : decode cX12_goesOn 199 = .ok (.goto 7, 3) := by decide +kernel
theorem dX12_goesOn_202 : decode cX12_goesOn 202 = .ok (.aload_n 0, 1) := by decide +kernel
theorem dX12_goesOn_203 : decode cX12_goesOn 203 = .ok (.getfield 167, 3) := by decide +kernel
theorem dX12_goesOn_206 : decode cX12_goesOn 206 = .ok (.putfield 167, 3) := by decide +kernel
theorem dX12_goesOn_209 : decode cX12_goesOn 209 = .ok (.aload_n 0, 1) := by decide +kernel
theorem dX12_goesOn_210 : decode cX12_goesOn 210 = .ok (.dup, 1) := by decide +kernel
theorem dX12_goesOn_211 : decode cX12_goesOn 211 = .ok (.getfield 142, 3) := by decide +kernel
theorem dX12_goesOn_214 : decode cX12_goesOn 214 = .ok (.iconst 1, 1) := by decide +kernel
theorem dX12_goesOn_215 : decode cX12_goesOn 215 = .ok (.iadd, 1) := by decide +kernel
theorem dX12_goesOn_216 : decode cX12_goesOn 216 = .ok (.putfield 142, 3) := by decide +kernel
theorem dX12_goesOn_219 : decode cX12_goesOn 219 = .ok (.goto (-74), 3) := by decide +kernel
theorem dX12_goesOn_222 : decode cX12_goesOn 222 = .ok (.aload_n 0, 1) := by decide +kernel
theorem dX12_goesOn_223 : decode cX12_goesOn 223 = .ok (.aload_n 0, 1) := by decide +kernel
theorem dX12_goesOn_224 : decode cX12_goesOn 224 = .ok (.getfield 142, 3) := by decide +kernel
theorem dX12_goesOn_227 : decode cX12_goesOn 227 = .ok (.aload_n 0, 1) := by decide +kernel
theorem dX12_goesOn_228 : decode cX12_goesOn 228 = .ok (.getfield 149, 3) := by decide +kernel
theorem dX12_goesOn_231 : decode cX12_goesOn 231 = .ok (.isub, 1) := by decide +kernel
theorem dX12_goesOn_232 : decode cX12_goesOn 232 = .ok (.iconst 4, 1) := by decide +kernel
theorem dX12_goesOn_233 : decode cX12_goesOn 233 = .ok (.if_icmp .le 7, 3) := by decide +kernel
theorem dX12_goesOn_236 : decode cX12_goesOn 236 = .ok (.iconst 1, 1) := by decide +kernel
theorem dX12_goesOn_237 : decode cX12_goesOn 237 = .ok (.goto 4, 3) := by decide +kernel
theorem dX12_goesOn_240 : decode cX12_goesOn 240 = .ok (.iconst 3, 1) := by decide +kernel
theorem dX12_goesOn_241 : decode cX12_goesOn 241 = .ok (.putfield 152, 3) := by decide +kernel
theorem dX12_goesOn_244 : decode cX12_goesOn 244 = .ok (.return_, 1) := by decide +kernel
theorem dX12_goesOn_245 : decode cX12_goesOn 245 = .ok (.aload_n 0, 1) := by decide +kernel
theorem dX12_goesOn_246 : decode cX12_goesOn 246 = .ok (.dup, 1) := by decide +kernel
theorem dX12_goesOn_247 : decode cX12_goesOn 247 = .ok (.getfield 142, 3) := by decide +kernel
theorem dX12_goesOn_250 : decode cX12_goesOn 250 = .ok (.iconst 1, 1) := by decide +kernel
theorem dX12_goesOn_251 : decode cX12_goesOn 251 = .ok (.iadd, 1) := by decide +kernel
theorem dX12_goesOn_252 : decode cX12_goesOn 252 = .ok (.putfield 142, 3) := by decide +kernel
theorem dX12_goesOn_255 : decode cX12_goesOn 255 = .ok (.aload_n 0, 1) := by decide +kernel
theorem dX12_goesOn_256 : decode cX12_goesOn 256 = .ok (.iload_n 1, 1) := by decide +kernel
theorem dX12_goesOn_257 : decode cX12_goesOn 257 = .ok (.bipush 59, 2) := by decide +kernel
theorem dX12_goesOn_259 : decode cX12_goesOn 259 = .ok (.if_icmp .eq 15, 3) := by decide +kernel
theorem dX12_goesOn_262 : decode cX12_goesOn 262 = .ok (.iload_n 1, 1) := by decide +kernel
theorem dX12_goesOn_263 : decode cX12_goesOn 263 = .ok (.bipush 44, 2) := by decide +kernel
theorem dX12_goesOn_265 : decode cX12_goesOn 265 = .ok (.if_icmp .eq 9, 3) := by decide +kernel
theorem dX12_goesOn_268 : decode cX12_goesOn 268 = .ok (.iload_n 1, 1) := by decide +kernel
theorem dX12_goesOn_269 : decode cX12_goesOn 269 = .ok (.bipush 45, 2) := by decide +kernel
theorem dX12_goesOn_271 : decode cX12_goesOn 271 = .ok (.if_icmp .ne 7, 3) := by decide +kernel
theorem dX12_goesOn_274 : decode cX12_goesOn 274 = .ok (.iload_n 1, 1) := by decide +kernel
theorem dX12_goesOn_275 : decode cX12_goesOn 275 = .ok (.goto 4, 3) := by decide +kernel
theorem dX12_goesOn_278 : decode cX12_goesOn 278 = .ok (.iconst 1, 1) := by decide +kernel
theorem dX12_goesOn_279 : decode cX12_goesOn 279 = .ok (.putfield 152, 3) := by decide +kernel
theorem dX12_goesOn_282 : decode cX12_goesOn 282 = .ok (.return_, 1) := by decide +kernel
theorem dX12_isWord_0 : decode cX12_isWord 0 = .ok (.aload_n 0, 1) := by decide +kernel
theorem dX12_isWord_1 : decode cX12_isWord 1 = .ok (.getfield 152, 3) := by decide +kernel
theorem dX12_isWord_4 : decode cX12_isWord 4 = .ok (.iconst 2, 1) := by decide +kernel
theorem dX12_isWord_5 : decode cX12_isWord 5 = .ok (.if_icmp .ne 19, 3) := by decide +kernel
theorem dX12_isWord_8 : decode cX12_isWord 8 = .ok (.aload_n 0, 1) := by decide +kernel
theorem dX12_isWord_9 : decode cX12_isWord 9 = .ok (.getfield 142, 3) := by decide +kernel
theorem dX12_isWord_12 : decode cX12_isWord 12 = .ok (.aload_n 0, 1) := by decide +kernel
theorem dX12_isWord_13 : decode cX12_isWord 13 = .ok (.getfield 149, 3) := by decide +kernel
theorem dX12_isWord_16 : decode cX12_isWord 16 = .ok (.isub, 1) := by decide +kernel
theorem dX12_isWord_17 : decode cX12_isWord 17 = .ok (.aload_n 1, 1) := by decide +kernel
theorem dX12_isWord_18 : decode cX12_isWord 18 = .ok (.invokevirtual 170, 3) := by decide +kernel
theorem dX12_isWord_21 : decode cX12_isWord 21 = .ok (.if_icmp .eq 5, 3) := by decide +kernel
theorem dX12_isWord_24 : decode cX12_isWord 24 = .ok (.iconst 0, 1) := by decide +kernel
theorem dX12_isWord_25 : decode cX12_isWord 25 = .ok (.ireturn, 1) := by decide +kernel
theorem dX12_isWord_26 : decode cX12_isWord 26 = .ok (.iconst 0, 1) := by decide +kernel
theorem dX12_isWord_27 : decode cX12_isWord 27 = .ok (.istore_n 2, 1) := by decide +kernel
theorem dX12_isWord_28 : decode cX12_isWord 28 = .ok (.iload_n 2, 1) := by decide +kernel
theorem dX12_isWord_29 : decode cX12_isWord 29 = .ok (.aload_n 1, 1) := by decide +kernel
theorem dX12_isWord_30 : decode cX12_isWord 30 = .ok (.invokevirtual 170, 3) := by decide +kernel
theorem dX12_isWord_33 : decode cX12_isWord 33 = .ok (.if_icmp .ge 30, 3) := by decide +kernel
theorem dX12_isWord_36 : decode cX12_isWord 36 = .ok (.aload_n 0, 1) := by decide +kernel
theorem dX12_isWord_37 : decode cX12_isWord 37 = .ok (.getfield 15, 3) := by decide +kernel
theorem dX12_isWord_40 : decode cX12_isWord 40 = .ok (.aload_n 0, 1) := by decide +kernel
theorem dX12_isWord_41 : decode cX12_isWord 41 = .ok (.getfield 149, 3) := by decide +kernel
theorem dX12_isWord_44 : decode cX12_isWord 44 = .ok (.iload_n 2, 1) := by decide +kernel
theorem dX12_isWord_45 : decode cX12_isWord 45 = .ok (.iadd, 1) := by decide +kernel
theorem dX12_isWord_46 : decode cX12_isWord 46 = .ok (.iaload, 1) := by decide +kernel
theorem dX12_isWord_47 : decode cX12_isWord 47 = .ok (.aload_n 1, 1) := by decide +kernel
theorem dX12_isWord_48 : decode cX12_isWord 48 = .ok (.iload_n 2, 1) := by decide +kernel
theorem dX12_isWord_49 : decode cX12_isWord 49 = .ok (.invokevirtual 176, 3) := by decide +kernel
theorem dX12_isWord_52 : decode cX12_isWord 52 = .ok (.if_icmp .eq 5, 3) := by decide +kernel
theorem dX12_isWord_55 : decode cX12_isWord 55 = .ok (.iconst 0, 1) := by decide +kernel
theorem dX12_isWord_56 : decode cX12_isWord 56 = .ok (.ireturn, 1) := by decide +kernel
theorem dX12_isWord_57 : decode cX12_isWord 57 = .ok (.iinc 2 1, 3) := by decide +kernel
theorem dX12_isWord_60 : decode cX12_isWord 60 = .ok (.goto (-32), 3) := by decide +kernel
theorem dX12_isWord_63 : decode cX12_isWord 63 = .ok (.iconst 1, 1) := by decide +kernel
theorem dX12_isWord_64 : decode cX12_isWord 64 = .ok (.ireturn, 1) := by decide +kernel
theorem dX12_errs_0 : decode cX12_errs 0 = .ok (.aload_n 0, 1) := by decide +kernel
theorem dX12_errs_1 : decode cX12_errs 1 = .ok (.iload_n 1, 1) := by decide +kernel
theorem dX12_errs_2 : decode cX12_errs 2 = .ok (.putfield 180, 3) := by decide +kernel
theorem dX12_errs_5 : decode cX12_errs 5 = .ok (.aload_n 0, 1) := by decide +kernel
theorem dX12_errs_6 : decode cX12_errs 6 = .ok (.aload_n 0, 1) := by decide +kernel
theorem dX12_errs_7 : decode cX12_errs 7 = .ok (.getfield 149, 3) := by decide +kernel
theorem dX12_errs_10 : decode cX12_errs 10 = .ok (.putfield 183, 3) := by decide +kernel
theorem dX12_errs_13 : decode cX12_errs 13 = .ok (.iconst 0, 1) := by decide +kernel
theorem dX12_errs_14 : decode cX12_errs 14 = .ok (.ireturn, 1) := by decide +kernel
theorem dX12_spelt_0 : decode cX12_spelt 0 = .ok (.lconst 0, 1) := by decide +kernel
theorem dX12_spelt_1 : decode cX12_spelt 1 = .ok (.lstore_n 1, 1) := by decide +kernel
theorem dX12_spelt_2 : decode cX12_spelt 2 = .ok (.aload_n 0, 1) := by decide +kernel
theorem dX12_spelt_3 : decode cX12_spelt 3 = .ok (.getfield 149, 3) := by decide +kernel
theorem dX12_spelt_6 : decode cX12_spelt 6 = .ok (.istore_n 3, 1) := by decide +kernel
theorem dX12_spelt_7 : decode cX12_spelt 7 = .ok (.iload_n 3, 1) := by decide +kernel
theorem dX12_spelt_8 : decode cX12_spelt 8 = .ok (.aload_n 0, 1) := by decide +kernel
theorem dX12_spelt_9 : decode cX12_spelt 9 = .ok (.getfield 142, 3) := by decide +kernel
theorem dX12_spelt_12 : decode cX12_spelt 12 = .ok (.if_icmp .ge 23, 3) := by decide +kernel
theorem dX12_spelt_15 : decode cX12_spelt 15 = .ok (.ldc2_w 186, 3) := by decide +kernel
theorem dX12_spelt_18 : decode cX12_spelt 18 = .ok (.lload_n 1, 1) := by decide +kernel
theorem dX12_spelt_19 : decode cX12_spelt 19 = .ok (.lmul, 1) := by decide +kernel
theorem dX12_spelt_20 : decode cX12_spelt 20 = .ok (.aload_n 0, 1) := by decide +kernel
theorem dX12_spelt_21 : decode cX12_spelt 21 = .ok (.getfield 15, 3) := by decide +kernel
theorem dX12_spelt_24 : decode cX12_spelt 24 = .ok (.iload_n 3, 1) := by decide +kernel
theorem dX12_spelt_25 : decode cX12_spelt 25 = .ok (.iaload, 1) := by decide +kernel
theorem dX12_spelt_26 : decode cX12_spelt 26 = .ok (.i2l, 1) := by decide +kernel
theorem dX12_spelt_27 : decode cX12_spelt 27 = .ok (.ladd, 1) := by decide +kernel
theorem dX12_spelt_28 : decode cX12_spelt 28 = .ok (.lstore_n 1, 1) := by decide +kernel
theorem dX12_spelt_29 : decode cX12_spelt 29 = .ok (.iinc 3 1, 3) := by decide +kernel
theorem dX12_spelt_32 : decode cX12_spelt 32 = .ok (.goto (-25), 3) := by decide +kernel
theorem dX12_spelt_35 : decode cX12_spelt 35 = .ok (.lload_n 1, 1) := by decide +kernel
theorem dX12_spelt_36 : decode cX12_spelt 36 = .ok (.lreturn, 1) := by decide +kernel
theorem dX12_columnHere_0 : decode cX12_columnHere 0 = .ok (.iconst 0, 1) := by decide +kernel
theorem dX12_columnHere_1 : decode cX12_columnHere 1 = .ok (.istore_n 1, 1) := by decide +kernel
theorem dX12_columnHere_2 : decode cX12_columnHere 2 = .ok (.iload_n 1, 1) := by decide +kernel
theorem dX12_columnHere_3 : decode cX12_columnHere 3 = .ok (.aload_n 0, 1) := by decide +kernel
theorem dX12_columnHere_4 : decode cX12_columnHere 4 = .ok (.getfield 188, 3) := by decide +kernel
theorem dX12_columnHere_7 : decode cX12_columnHere 7 = .ok (.if_icmp .ge 25, 3) := by decide +kernel
theorem dX12_columnHere_10 : decode cX12_columnHere 10 = .ok (.aload_n 0, 1) := by decide +kernel
theorem dX12_columnHere_11 : decode cX12_columnHere 11 = .ok (.getfield 32, 3) := by decide +kernel
theorem dX12_columnHere_14 : decode cX12_columnHere 14 = .ok (.iload_n 1, 1) := by decide +kernel
theorem dX12_columnHere_15 : decode cX12_columnHere 15 = .ok (.laload, 1) := by decide +kernel
theorem dX12_columnHere_16 : decode cX12_columnHere 16 = .ok (.aload_n 0, 1) := by decide +kernel
theorem dX12_columnHere_17 : decode cX12_columnHere 17 = .ok (.invokevirtual 191, 3) := by decide +kernel
theorem dX12_columnHere_20 : decode cX12_columnHere 20 = .ok (.lcmp, 1) := by decide +kernel
theorem dX12_columnHere_21 : decode cX12_columnHere 21 = .ok (.ifCond .ne 5, 3) := by decide +kernel
theorem dX12_columnHere_24 : decode cX12_columnHere 24 = .ok (.iload_n 1, 1) := by decide +kernel
theorem dX12_columnHere_25 : decode cX12_columnHere 25 = .ok (.ireturn, 1) := by decide +kernel
theorem dX12_columnHere_26 : decode cX12_columnHere 26 = .ok (.iinc 1 1, 3) := by decide +kernel
theorem dX12_columnHere_29 : decode cX12_columnHere 29 = .ok (.goto (-27), 3) := by decide +kernel
theorem dX12_columnHere_32 : decode cX12_columnHere 32 = .ok (.iconst (-1), 1) := by decide +kernel
theorem dX12_columnHere_33 : decode cX12_columnHere 33 = .ok (.ireturn, 1) := by decide +kernel
theorem dX12_readColumn_0 : decode cX12_readColumn 0 = .ok (.aload_n 0, 1) := by decide +kernel
theorem dX12_readColumn_1 : decode cX12_readColumn 1 = .ok (.getfield 152, 3) := by decide +kernel
theorem dX12_readColumn_4 : decode cX12_readColumn 4 = .ok (.iconst 2, 1) := by decide +kernel
theorem dX12_readColumn_5 : decode cX12_readColumn 5 = .ok (.if_icmp .eq 9, 3) := by decide +kernel
theorem dX12_readColumn_8 : decode cX12_readColumn 8 = .ok (.aload_n 0, 1) := by decide +kernel
theorem dX12_readColumn_9 : decode cX12_readColumn 9 = .ok (.iconst 1, 1) := by decide +kernel
theorem dX12_readColumn_10 : decode cX12_readColumn 10 = .ok (.invokevirtual 195, 3) := by decide +kernel
theorem dX12_readColumn_13 : decode cX12_readColumn 13 = .ok (.ireturn, 1) := by decide +kernel
theorem dX12_readColumn_14 : decode cX12_readColumn 14 = .ok (.aload_n 0, 1) := by decide +kernel
theorem dX12_readColumn_15 : decode cX12_readColumn 15 = .ok (.invokevirtual 199, 3) := by decide +kernel
theorem dX12_readColumn_18 : decode cX12_readColumn 18 = .ok (.iconst (-1), 1) := by decide +kernel
theorem dX12_readColumn_19 : decode cX12_readColumn 19 = .ok (.if_icmp .eq 9, 3) := by decide +kernel
theorem dX12_readColumn_22 : decode cX12_readColumn 22 = .ok (.aload_n 0, 1) := by decide +kernel
theorem dX12_readColumn_23 : decode cX12_readColumn 23 = .ok (.iconst 3, 1) := by decide +kernel
theorem dX12_readColumn_24 : decode cX12_readColumn 24 = .ok (.invokevirtual 195, 3) := by decide +kernel
theorem dX12_readColumn_27 : decode cX12_readColumn 27 = .ok (.ireturn, 1) := by decide +kernel
theorem dX12_readColumn_28 : decode cX12_readColumn 28 = .ok (.aload_n 0, 1) := by decide +kernel
theorem dX12_readColumn_29 : decode cX12_readColumn 29 = .ok (.getfield 32, 3) := by decide +kernel
theorem dX12_readColumn_32 : decode cX12_readColumn 32 = .ok (.aload_n 0, 1) := by decide +kernel
theorem dX12_readColumn_33 : decode cX12_readColumn 33 = .ok (.getfield 188, 3) := by decide +kernel
theorem dX12_readColumn_36 : decode cX12_readColumn 36 = .ok (.aload_n 0, 1) := by decide +kernel
theorem dX12_readColumn_37 : decode cX12_readColumn 37 = .ok (.invokevirtual 191, 3) := by decide +kernel
theorem dX12_readColumn_40 : decode cX12_readColumn 40 = .ok (.lastore, 1) := by decide +kernel
theorem dX12_readColumn_41 : decode cX12_readColumn 41 = .ok (.aload_n 0, 1) := by decide +kernel
theorem dX12_readColumn_42 : decode cX12_readColumn 42 = .ok (.invokevirtual 202, 3) := by decide +kernel
theorem dX12_readColumn_45 : decode cX12_readColumn 45 = .ok (.aload_n 0, 1) := by decide +kernel
theorem dX12_readColumn_46 : decode cX12_readColumn 46 = .ok (.ldc 205, 2) := by decide +kernel
theorem dX12_readColumn_48 : decode cX12_readColumn 48 = .ok (.invokevirtual 207, 3) := by decide +kernel
theorem dX12_readColumn_51 : decode cX12_readColumn 51 = .ok (.ifCond .ne 18, 3) := by decide +kernel
theorem dX12_readColumn_54 : decode cX12_readColumn 54 = .ok (.aload_n 0, 1) := by decide +kernel
theorem dX12_readColumn_55 : decode cX12_readColumn 55 = .ok (.ldc 211, 2) := by decide +kernel
theorem dX12_readColumn_57 : decode cX12_readColumn 57 = .ok (.invokevirtual 207, 3) := by decide +kernel
theorem dX12_readColumn_60 : decode cX12_readColumn 60 = .ok (.ifCond .ne 9, 3) := by decide +kernel
theorem dX12_readColumn_63 : decode cX12_readColumn 63 = .ok (.aload_n 0, 1) := by decide +kernel
theorem dX12_readColumn_64 : decode cX12_readColumn 64 = .ok (.iconst 1, 1) := by decide +kernel
theorem dX12_readColumn_65 : decode cX12_readColumn 65 = .ok (.invokevirtual 195, 3) := by decide +kernel
theorem dX12_readColumn_68 : decode cX12_readColumn 68 = .ok (.ireturn, 1) := by decide +kernel
theorem dX12_readColumn_69 : decode cX12_readColumn 69 = .ok (.aload_n 0, 1) := by decide +kernel
theorem dX12_readColumn_70 : decode cX12_readColumn 70 = .ok (.getfield 36, 3) := by decide +kernel
theorem dX12_readColumn_73 : decode cX12_readColumn 73 = .ok (.aload_n 0, 1) := by decide +kernel
theorem dX12_readColumn_74 : decode cX12_readColumn 74 = .ok (.getfield 188, 3) := by decide +kernel
theorem dX12_readColumn_77 : decode cX12_readColumn 77 = .ok (.aload_n 0, 1) := by decide +kernel
theorem dX12_readColumn_78 : decode cX12_readColumn 78 = .ok (.ldc 211, 2) := by decide +kernel
theorem dX12_readColumn_80 : decode cX12_readColumn 80 = .ok (.invokevirtual 207, 3) := by decide +kernel
theorem dX12_readColumn_83 : decode cX12_readColumn 83 = .ok (.bastore, 1) := by decide +kernel
theorem dX12_readColumn_84 : decode cX12_readColumn 84 = .ok (.aload_n 0, 1) := by decide +kernel
theorem dX12_readColumn_85 : decode cX12_readColumn 85 = .ok (.dup, 1) := by decide +kernel
theorem dX12_readColumn_86 : decode cX12_readColumn 86 = .ok (.getfield 188, 3) := by decide +kernel
theorem dX12_readColumn_89 : decode cX12_readColumn 89 = .ok (.iconst 1, 1) := by decide +kernel
theorem dX12_readColumn_90 : decode cX12_readColumn 90 = .ok (.iadd, 1) := by decide +kernel
theorem dX12_readColumn_91 : decode cX12_readColumn 91 = .ok (.putfield 188, 3) := by decide +kernel
theorem dX12_readColumn_94 : decode cX12_readColumn 94 = .ok (.aload_n 0, 1) := by decide +kernel
theorem dX12_readColumn_95 : decode cX12_readColumn 95 = .ok (.invokevirtual 202, 3) := by decide +kernel
theorem dX12_readColumn_98 : decode cX12_readColumn 98 = .ok (.iconst 1, 1) := by decide +kernel
theorem dX12_readColumn_99 : decode cX12_readColumn 99 = .ok (.ireturn, 1) := by decide +kernel
theorem dX12_readTable_0 : decode cX12_readTable 0 = .ok (.aload_n 0, 1) := by decide +kernel
theorem dX12_readTable_1 : decode cX12_readTable 1 = .ok (.getfield 188, 3) := by decide +kernel
theorem dX12_readTable_4 : decode cX12_readTable 4 = .ok (.ifCond .le 9, 3) := by decide +kernel
theorem dX12_readTable_7 : decode cX12_readTable 7 = .ok (.aload_n 0, 1) := by decide +kernel
theorem dX12_readTable_8 : decode cX12_readTable 8 = .ok (.iconst 3, 1) := by decide +kernel
theorem dX12_readTable_9 : decode cX12_readTable 9 = .ok (.invokevirtual 195, 3) := by decide +kernel
theorem dX12_readTable_12 : decode cX12_readTable 12 = .ok (.ireturn, 1) := by decide +kernel
theorem dX12_readTable_13 : decode cX12_readTable 13 = .ok (.aload_n 0, 1) := by decide +kernel
theorem dX12_readTable_14 : decode cX12_readTable 14 = .ok (.invokevirtual 202, 3) := by decide +kernel
theorem dX12_readTable_17 : decode cX12_readTable 17 = .ok (.aload_n 0, 1) := by decide +kernel
theorem dX12_readTable_18 : decode cX12_readTable 18 = .ok (.invokevirtual 213, 3) := by decide +kernel
theorem dX12_readTable_21 : decode cX12_readTable 21 = .ok (.ifCond .ne 5, 3) := by decide +kernel
theorem dX12_readTable_24 : decode cX12_readTable 24 = .ok (.iconst 0, 1) := by decide +kernel
theorem dX12_readTable_25 : decode cX12_readTable 25 = .ok (.ireturn, 1) := by decide +kernel
theorem dX12_readTable_26 : decode cX12_readTable 26 = .ok (.aload_n 0, 1) := by decide +kernel
theorem dX12_readTable_27 : decode cX12_readTable 27 = .ok (.getfield 152, 3) := by decide +kernel
theorem dX12_readTable_30 : decode cX12_readTable 30 = .ok (.bipush 44, 2) := by decide +kernel
theorem dX12_readTable_32 : decode cX12_readTable 32 = .ok (.if_icmp .ne 24, 3) := by decide +kernel
theorem dX12_readTable_35 : decode cX12_readTable 35 = .ok (.aload_n 0, 1) := by decide +kernel
theorem dX12_readTable_36 : decode cX12_readTable 36 = .ok (.getfield 188, 3) := by decide +kernel
theorem dX12_readTable_39 : decode cX12_readTable 39 = .ok (.iconst 4, 1) := by decide +kernel
theorem dX12_readTable_40 : decode cX12_readTable 40 = .ok (.if_icmp .ge 16, 3) := by decide +kernel
theorem dX12_readTable_43 : decode cX12_readTable 43 = .ok (.aload_n 0, 1) := by decide +kernel
theorem dX12_readTable_44 : decode cX12_readTable 44 = .ok (.invokevirtual 202, 3) := by decide +kernel
theorem dX12_readTable_47 : decode cX12_readTable 47 = .ok (.aload_n 0, 1) := by decide +kernel
theorem dX12_readTable_48 : decode cX12_readTable 48 = .ok (.invokevirtual 213, 3) := by decide +kernel
theorem dX12_readTable_51 : decode cX12_readTable 51 = .ok (.ifCond .ne (-25), 3) := by decide +kernel
theorem dX12_readTable_54 : decode cX12_readTable 54 = .ok (.iconst 0, 1) := by decide +kernel
theorem dX12_readTable_55 : decode cX12_readTable 55 = .ok (.ireturn, 1) := by decide +kernel
theorem dX12_readTable_56 : decode cX12_readTable 56 = .ok (.aload_n 0, 1) := by decide +kernel
theorem dX12_readTable_57 : decode cX12_readTable 57 = .ok (.getfield 152, 3) := by decide +kernel
theorem dX12_readTable_60 : decode cX12_readTable 60 = .ok (.bipush 59, 2) := by decide +kernel
theorem dX12_readTable_62 : decode cX12_readTable 62 = .ok (.if_icmp .eq 18, 3) := by decide +kernel
theorem dX12_readTable_65 : decode cX12_readTable 65 = .ok (.aload_n 0, 1) := by decide +kernel
theorem dX12_readTable_66 : decode cX12_readTable 66 = .ok (.getfield 152, 3) := by decide +kernel
theorem dX12_readTable_69 : decode cX12_readTable 69 = .ok (.ifCond .eq 11, 3) := by decide +kernel
theorem dX12_readTable_72 : decode cX12_readTable 72 = .ok (.aload_n 0, 1) := by decide +kernel
theorem dX12_readTable_73 : decode cX12_readTable 73 = .ok (.iconst 1, 1) := by decide +kernel
theorem dX12_readTable_74 : decode cX12_readTable 74 = .ok (.invokevirtual 195, 3) := by decide +kernel
theorem dX12_readTable_77 : decode cX12_readTable 77 = .ok (.ifCond .eq 7, 3) := by decide +kernel
theorem dX12_readTable_80 : decode cX12_readTable 80 = .ok (.iconst 1, 1) := by decide +kernel
theorem dX12_readTable_81 : decode cX12_readTable 81 = .ok (.goto 4, 3) := by decide +kernel
theorem dX12_readTable_84 : decode cX12_readTable 84 = .ok (.iconst 0, 1) := by decide +kernel
theorem dX12_readTable_85 : decode cX12_readTable 85 = .ok (.ireturn, 1) := by decide +kernel
theorem dX12_readOne_0 : decode cX12_readOne 0 = .ok (.aload_n 0, 1) := by decide +kernel
theorem dX12_readOne_1 : decode cX12_readOne 1 = .ok (.getfield 152, 3) := by decide +kernel
theorem dX12_readOne_4 : decode cX12_readOne 4 = .ok (.iconst 2, 1) := by decide +kernel
theorem dX12_readOne_5 : decode cX12_readOne 5 = .ok (.if_icmp .eq 9, 3) := by decide +kernel
theorem dX12_readOne_8 : decode cX12_readOne 8 = .ok (.aload_n 0, 1) := by decide +kernel
theorem dX12_readOne_9 : decode cX12_readOne 9 = .ok (.iconst 1, 1) := by decide +kernel
theorem dX12_readOne_10 : decode cX12_readOne 10 = .ok (.invokevirtual 195, 3) := by decide +kernel
theorem dX12_readOne_13 : decode cX12_readOne 13 = .ok (.ireturn, 1) := by decide +kernel
theorem dX12_readOne_14 : decode cX12_readOne 14 = .ok (.aload_n 0, 1) := by decide +kernel
theorem dX12_readOne_15 : decode cX12_readOne 15 = .ok (.invokevirtual 199, 3) := by decide +kernel
theorem dX12_readOne_18 : decode cX12_readOne 18 = .ok (.istore_n 1, 1) := by decide +kernel
theorem dX12_readOne_19 : decode cX12_readOne 19 = .ok (.iload_n 1, 1) := by decide +kernel
theorem dX12_readOne_20 : decode cX12_readOne 20 = .ok (.iconst (-1), 1) := by decide +kernel
theorem dX12_readOne_21 : decode cX12_readOne 21 = .ok (.if_icmp .ne 9, 3) := by decide +kernel
theorem dX12_readOne_24 : decode cX12_readOne 24 = .ok (.aload_n 0, 1) := by decide +kernel
theorem dX12_readOne_25 : decode cX12_readOne 25 = .ok (.iconst 2, 1) := by decide +kernel
theorem dX12_readOne_26 : decode cX12_readOne 26 = .ok (.invokevirtual 195, 3) := by decide +kernel
theorem dX12_readOne_29 : decode cX12_readOne 29 = .ok (.ireturn, 1) := by decide +kernel
theorem dX12_readOne_30 : decode cX12_readOne 30 = .ok (.iconst 0, 1) := by decide +kernel
theorem dX12_readOne_31 : decode cX12_readOne 31 = .ok (.istore_n 2, 1) := by decide +kernel
theorem dX12_readOne_32 : decode cX12_readOne 32 = .ok (.iload_n 2, 1) := by decide +kernel
theorem dX12_readOne_33 : decode cX12_readOne 33 = .ok (.aload_n 0, 1) := by decide +kernel
theorem dX12_readOne_34 : decode cX12_readOne 34 = .ok (.getfield 217, 3) := by decide +kernel
theorem dX12_readOne_37 : decode cX12_readOne 37 = .ok (.if_icmp .ge 25, 3) := by decide +kernel
theorem dX12_readOne_40 : decode cX12_readOne 40 = .ok (.aload_n 0, 1) := by decide +kernel
theorem dX12_readOne_41 : decode cX12_readOne 41 = .ok (.getfield 39, 3) := by decide +kernel
theorem dX12_readOne_44 : decode cX12_readOne 44 = .ok (.iload_n 2, 1) := by decide +kernel
theorem dX12_readOne_45 : decode cX12_readOne 45 = .ok (.iaload, 1) := by decide +kernel
theorem dX12_readOne_46 : decode cX12_readOne 46 = .ok (.iload_n 1, 1) := by decide +kernel
theorem dX12_readOne_47 : decode cX12_readOne 47 = .ok (.if_icmp .ne 9, 3) := by decide +kernel
theorem dX12_readOne_50 : decode cX12_readOne 50 = .ok (.aload_n 0, 1) := by decide +kernel
theorem dX12_readOne_51 : decode cX12_readOne 51 = .ok (.iconst 3, 1) := by decide +kernel
theorem dX12_readOne_52 : decode cX12_readOne 52 = .ok (.invokevirtual 195, 3) := by decide +kernel
theorem dX12_readOne_55 : decode cX12_readOne 55 = .ok (.ireturn, 1) := by decide +kernel
theorem dX12_readOne_56 : decode cX12_readOne 56 = .ok (.iinc 2 1, 3) := by decide +kernel
theorem dX12_readOne_59 : decode cX12_readOne 59 = .ok (.goto (-27), 3) := by decide +kernel
theorem dX12_readOne_62 : decode cX12_readOne 62 = .ok (.aload_n 0, 1) := by decide +kernel
theorem dX12_readOne_63 : decode cX12_readOne 63 = .ok (.invokevirtual 202, 3) := by decide +kernel
theorem dX12_readOne_66 : decode cX12_readOne 66 = .ok (.aload_n 0, 1) := by decide +kernel
theorem dX12_readOne_67 : decode cX12_readOne 67 = .ok (.ldc 220, 2) := by decide +kernel
theorem dX12_readOne_69 : decode cX12_readOne 69 = .ok (.invokevirtual 207, 3) := by decide +kernel
theorem dX12_readOne_72 : decode cX12_readOne 72 = .ok (.ifCond .ne 18, 3) := by decide +kernel
theorem dX12_readOne_75 : decode cX12_readOne 75 = .ok (.aload_n 0, 1) := by decide +kernel
theorem dX12_readOne_76 : decode cX12_readOne 76 = .ok (.ldc 222, 2) := by decide +kernel
theorem dX12_readOne_78 : decode cX12_readOne 78 = .ok (.invokevirtual 207, 3) := by decide +kernel
theorem dX12_readOne_81 : decode cX12_readOne 81 = .ok (.ifCond .ne 9, 3) := by decide +kernel
theorem dX12_readOne_84 : decode cX12_readOne 84 = .ok (.aload_n 0, 1) := by decide +kernel
theorem dX12_readOne_85 : decode cX12_readOne 85 = .ok (.iconst 1, 1) := by decide +kernel
theorem dX12_readOne_86 : decode cX12_readOne 86 = .ok (.invokevirtual 195, 3) := by decide +kernel
theorem dX12_readOne_89 : decode cX12_readOne 89 = .ok (.ireturn, 1) := by decide +kernel
theorem dX12_readOne_90 : decode cX12_readOne 90 = .ok (.aload_n 0, 1) := by decide +kernel
theorem dX12_readOne_91 : decode cX12_readOne 91 = .ok (.getfield 39, 3) := by decide +kernel
theorem dX12_readOne_94 : decode cX12_readOne 94 = .ok (.aload_n 0, 1) := by decide +kernel
theorem dX12_readOne_95 : decode cX12_readOne 95 = .ok (.getfield 217, 3) := by decide +kernel
theorem dX12_readOne_98 : decode cX12_readOne 98 = .ok (.iload_n 1, 1) := by decide +kernel
theorem dX12_readOne_99 : decode cX12_readOne 99 = .ok (.iastore, 1) := by decide +kernel
theorem dX12_readOne_100 : decode cX12_readOne 100 = .ok (.aload_n 0, 1) := by decide +kernel
theorem dX12_readOne_101 : decode cX12_readOne 101 = .ok (.getfield 42, 3) := by decide +kernel
theorem dX12_readOne_104 : decode cX12_readOne 104 = .ok (.aload_n 0, 1) := by decide +kernel
theorem dX12_readOne_105 : decode cX12_readOne 105 = .ok (.getfield 217, 3) := by decide +kernel
theorem dX12_readOne_108 : decode cX12_readOne 108 = .ok (.aload_n 0, 1) := by decide +kernel
theorem dX12_readOne_109 : decode cX12_readOne 109 = .ok (.ldc 222, 2) := by decide +kernel
theorem dX12_readOne_111 : decode cX12_readOne 111 = .ok (.invokevirtual 207, 3) := by decide +kernel
theorem dX12_readOne_114 : decode cX12_readOne 114 = .ok (.bastore, 1) := by decide +kernel
theorem dX12_readOne_115 : decode cX12_readOne 115 = .ok (.aload_n 0, 1) := by decide +kernel
theorem dX12_readOne_116 : decode cX12_readOne 116 = .ok (.invokevirtual 202, 3) := by decide +kernel
theorem dX12_readOne_119 : decode cX12_readOne 119 = .ok (.aload_n 0, 1) := by decide +kernel
theorem dX12_readOne_120 : decode cX12_readOne 120 = .ok (.getfield 45, 3) := by decide +kernel
theorem dX12_readOne_123 : decode cX12_readOne 123 = .ok (.aload_n 0, 1) := by decide +kernel
theorem dX12_readOne_124 : decode cX12_readOne 124 = .ok (.getfield 217, 3) := by decide +kernel
theorem dX12_readOne_127 : decode cX12_readOne 127 = .ok (.aload_n 0, 1) := by decide +kernel
theorem dX12_readOne_128 : decode cX12_readOne 128 = .ok (.ldc 224, 2) := by decide +kernel
theorem dX12_readOne_130 : decode cX12_readOne 130 = .ok (.invokevirtual 207, 3) := by decide +kernel
theorem dX12_readOne_133 : decode cX12_readOne 133 = .ok (.bastore, 1) := by decide +kernel
theorem dX12_readOne_134 : decode cX12_readOne 134 = .ok (.aload_n 0, 1) := by decide +kernel
theorem dX12_readOne_135 : decode cX12_readOne 135 = .ok (.ldc 224, 2) := by decide +kernel
theorem dX12_readOne_137 : decode cX12_readOne 137 = .ok (.invokevirtual 207, 3) := by decide +kernel
theorem dX12_readOne_140 : decode cX12_readOne 140 = .ok (.ifCond .eq 7, 3) := by decide +kernel
theorem dX12_readOne_143 : decode cX12_readOne 143 = .ok (.aload_n 0, 1) := by decide +kernel
theorem dX12_readOne_144 : decode cX12_readOne 144 = .ok (.invokevirtual 202, 3) := by decide +kernel
theorem dX12_readOne_147 : decode cX12_readOne 147 = .ok (.aload_n 0, 1) := by decide +kernel
theorem dX12_readOne_148 : decode cX12_readOne 148 = .ok (.dup, 1) := by decide +kernel
theorem dX12_readOne_149 : decode cX12_readOne 149 = .ok (.getfield 217, 3) := by decide +kernel
theorem dX12_readOne_152 : decode cX12_readOne 152 = .ok (.iconst 1, 1) := by decide +kernel
theorem dX12_readOne_153 : decode cX12_readOne 153 = .ok (.iadd, 1) := by decide +kernel
theorem dX12_readOne_154 : decode cX12_readOne 154 = .ok (.putfield 217, 3) := by decide +kernel
theorem dX12_readOne_157 : decode cX12_readOne 157 = .ok (.iconst 1, 1) := by decide +kernel
theorem dX12_readOne_158 : decode cX12_readOne 158 = .ok (.ireturn, 1) := by decide +kernel
theorem dX12_readOrders_0 : decode cX12_readOrders 0 = .ok (.aload_n 0, 1) := by decide +kernel
theorem dX12_readOrders_1 : decode cX12_readOrders 1 = .ok (.getfield 217, 3) := by decide +kernel
theorem dX12_readOrders_4 : decode cX12_readOrders 4 = .ok (.ifCond .le 9, 3) := by decide +kernel
theorem dX12_readOrders_7 : decode cX12_readOrders 7 = .ok (.aload_n 0, 1) := by decide +kernel
theorem dX12_readOrders_8 : decode cX12_readOrders 8 = .ok (.iconst 3, 1) := by decide +kernel
theorem dX12_readOrders_9 : decode cX12_readOrders 9 = .ok (.invokevirtual 195, 3) := by decide +kernel
theorem dX12_readOrders_12 : decode cX12_readOrders 12 = .ok (.ireturn, 1) := by decide +kernel
theorem dX12_readOrders_13 : decode cX12_readOrders 13 = .ok (.aload_n 0, 1) := by decide +kernel
theorem dX12_readOrders_14 : decode cX12_readOrders 14 = .ok (.getfield 188, 3) := by decide +kernel
theorem dX12_readOrders_17 : decode cX12_readOrders 17 = .ok (.ifCond .ne 9, 3) := by decide +kernel
theorem dX12_readOrders_20 : decode cX12_readOrders 20 = .ok (.aload_n 0, 1) := by decide +kernel
theorem dX12_readOrders_21 : decode cX12_readOrders 21 = .ok (.iconst 5, 1) := by decide +kernel
theorem dX12_readOrders_22 : decode cX12_readOrders 22 = .ok (.invokevirtual 195, 3) := by decide +kernel
theorem dX12_readOrders_25 : decode cX12_readOrders 25 = .ok (.ireturn, 1) := by decide +kernel
theorem dX12_readOrders_26 : decode cX12_readOrders 26 = .ok (.aload_n 0, 1) := by decide +kernel
theorem dX12_readOrders_27 : decode cX12_readOrders 27 = .ok (.invokevirtual 202, 3) := by decide +kernel
theorem dX12_readOrders_30 : decode cX12_readOrders 30 = .ok (.aload_n 0, 1) := by decide +kernel
theorem dX12_readOrders_31 : decode cX12_readOrders 31 = .ok (.invokevirtual 226, 3) := by decide +kernel
theorem dX12_readOrders_34 : decode cX12_readOrders 34 = .ok (.ifCond .ne 5, 3) := by decide +kernel
theorem dX12_readOrders_37 : decode cX12_readOrders 37 = .ok (.iconst 0, 1) := by decide +kernel
theorem dX12_readOrders_38 : decode cX12_readOrders 38 = .ok (.ireturn, 1) := by decide +kernel
theorem dX12_readOrders_39 : decode cX12_readOrders 39 = .ok (.aload_n 0, 1) := by decide +kernel
theorem dX12_readOrders_40 : decode cX12_readOrders 40 = .ok (.getfield 152, 3) := by decide +kernel
theorem dX12_readOrders_43 : decode cX12_readOrders 43 = .ok (.bipush 44, 2) := by decide +kernel
theorem dX12_readOrders_45 : decode cX12_readOrders 45 = .ok (.if_icmp .ne 16, 3) := by decide +kernel
theorem dX12_readOrders_48 : decode cX12_readOrders 48 = .ok (.aload_n 0, 1) := by decide +kernel
theorem dX12_readOrders_49 : decode cX12_readOrders 49 = .ok (.invokevirtual 202, 3) := by decide +kernel
theorem dX12_readOrders_52 : decode cX12_readOrders 52 = .ok (.aload_n 0, 1) := by decide +kernel
theorem dX12_readOrders_53 : decode cX12_readOrders 53 = .ok (.invokevirtual 226, 3) := by decide +kernel
theorem dX12_readOrders_56 : decode cX12_readOrders 56 = .ok (.ifCond .ne (-17), 3) := by decide +kernel
theorem dX12_readOrders_59 : decode cX12_readOrders 59 = .ok (.iconst 0, 1) := by decide +kernel
theorem dX12_readOrders_60 : decode cX12_readOrders 60 = .ok (.ireturn, 1) := by decide +kernel
theorem dX12_readOrders_61 : decode cX12_readOrders 61 = .ok (.aload_n 0, 1) := by decide +kernel
theorem dX12_readOrders_62 : decode cX12_readOrders 62 = .ok (.getfield 152, 3) := by decide +kernel
theorem dX12_readOrders_65 : decode cX12_readOrders 65 = .ok (.bipush 59, 2) := by decide +kernel
theorem dX12_readOrders_67 : decode cX12_readOrders 67 = .ok (.if_icmp .eq 18, 3) := by decide +kernel
theorem dX12_readOrders_70 : decode cX12_readOrders 70 = .ok (.aload_n 0, 1) := by decide +kernel
theorem dX12_readOrders_71 : decode cX12_readOrders 71 = .ok (.getfield 152, 3) := by decide +kernel
theorem dX12_readOrders_74 : decode cX12_readOrders 74 = .ok (.ifCond .eq 11, 3) := by decide +kernel
theorem dX12_readOrders_77 : decode cX12_readOrders 77 = .ok (.aload_n 0, 1) := by decide +kernel
theorem dX12_readOrders_78 : decode cX12_readOrders 78 = .ok (.iconst 1, 1) := by decide +kernel
theorem dX12_readOrders_79 : decode cX12_readOrders 79 = .ok (.invokevirtual 195, 3) := by decide +kernel
theorem dX12_readOrders_82 : decode cX12_readOrders 82 = .ok (.ifCond .eq 7, 3) := by decide +kernel
theorem dX12_readOrders_85 : decode cX12_readOrders 85 = .ok (.iconst 1, 1) := by decide +kernel
theorem dX12_readOrders_86 : decode cX12_readOrders 86 = .ok (.goto 4, 3) := by decide +kernel
theorem dX12_readOrders_89 : decode cX12_readOrders 89 = .ok (.iconst 0, 1) := by decide +kernel
theorem dX12_readOrders_90 : decode cX12_readOrders 90 = .ok (.ireturn, 1) := by decide +kernel
theorem dX12_readValue_0 : decode cX12_readValue 0 = .ok (.ldc2_w 229, 3) := by decide +kernel
theorem dX12_readValue_3 : decode cX12_readValue 3 = .ok (.lstore_n 2, 1) := by decide +kernel
theorem dX12_readValue_4 : decode cX12_readValue 4 = .ok (.aload_n 0, 1) := by decide +kernel
theorem dX12_readValue_5 : decode cX12_readValue 5 = .ok (.ldc 231, 2) := by decide +kernel
theorem dX12_readValue_7 : decode cX12_readValue 7 = .ok (.invokevirtual 207, 3) := by decide +kernel
theorem dX12_readValue_10 : decode cX12_readValue 10 = .ok (.ifCond .ne 34, 3) := by decide +kernel
theorem dX12_readValue_13 : decode cX12_readValue 13 = .ok (.aload_n 0, 1) := by decide +kernel
theorem dX12_readValue_14 : decode cX12_readValue 14 = .ok (.getfield 36, 3) := by decide +kernel
theorem dX12_readValue_17 : decode cX12_readValue 17 = .ok (.iload_n 1, 1) := by decide +kernel
theorem dX12_readValue_18 : decode cX12_readValue 18 = .ok (.baload, 1) := by decide +kernel
theorem dX12_readValue_19 : decode cX12_readValue 19 = .ok (.ifCond .eq 25, 3) := by decide +kernel
theorem dX12_readValue_22 : decode cX12_readValue 22 = .ok (.aload_n 0, 1) := by decide +kernel
theorem dX12_readValue_23 : decode cX12_readValue 23 = .ok (.getfield 152, 3) := by decide +kernel
theorem dX12_readValue_26 : decode cX12_readValue 26 = .ok (.iconst 2, 1) := by decide +kernel
theorem dX12_readValue_27 : decode cX12_readValue 27 = .ok (.if_icmp .eq 9, 3) := by decide +kernel
theorem dX12_readValue_30 : decode cX12_readValue 30 = .ok (.aload_n 0, 1) := by decide +kernel
theorem dX12_readValue_31 : decode cX12_readValue 31 = .ok (.iconst 1, 1) := by decide +kernel
theorem dX12_readValue_32 : decode cX12_readValue 32 = .ok (.invokevirtual 195, 3) := by decide +kernel
theorem dX12_readValue_35 : decode cX12_readValue 35 = .ok (.ireturn, 1) := by decide +kernel
theorem dX12_readValue_36 : decode cX12_readValue 36 = .ok (.aload_n 0, 1) := by decide +kernel
theorem dX12_readValue_37 : decode cX12_readValue 37 = .ok (.invokevirtual 191, 3) := by decide +kernel
theorem dX12_readValue_40 : decode cX12_readValue 40 = .ok (.lstore_n 2, 1) := by decide +kernel
theorem dX12_readValue_41 : decode cX12_readValue 41 = .ok (.goto 71, 3) := by decide +kernel
theorem dX12_readValue_44 : decode cX12_readValue 44 = .ok (.aload_n 0, 1) := by decide +kernel
theorem dX12_readValue_45 : decode cX12_readValue 45 = .ok (.ldc 231, 2) := by decide +kernel
theorem dX12_readValue_47 : decode cX12_readValue 47 = .ok (.invokevirtual 207, 3) := by decide +kernel
theorem dX12_readValue_50 : decode cX12_readValue 50 = .ok (.ifCond .ne 62, 3) := by decide +kernel
theorem dX12_readValue_53 : decode cX12_readValue 53 = .ok (.aload_n 0, 1) := by decide +kernel
theorem dX12_readValue_54 : decode cX12_readValue 54 = .ok (.getfield 152, 3) := by decide +kernel
theorem dX12_readValue_57 : decode cX12_readValue 57 = .ok (.bipush 45, 2) := by decide +kernel
theorem dX12_readValue_59 : decode cX12_readValue 59 = .ok (.if_icmp .ne 7, 3) := by decide +kernel
theorem dX12_readValue_62 : decode cX12_readValue 62 = .ok (.iconst 1, 1) := by decide +kernel
theorem dX12_readValue_63 : decode cX12_readValue 63 = .ok (.goto 4, 3) := by decide +kernel
theorem dX12_readValue_66 : decode cX12_readValue 66 = .ok (.iconst 0, 1) := by decide +kernel
theorem dX12_readValue_67 : decode cX12_readValue 67 = .ok (.istore 4, 2) := by decide +kernel
theorem dX12_readValue_69 : decode cX12_readValue 69 = .ok (.iload 4, 2) := by decide +kernel
theorem dX12_readValue_71 : decode cX12_readValue 71 = .ok (.ifCond .eq 7, 3) := by decide +kernel
theorem dX12_readValue_74 : decode cX12_readValue 74 = .ok (.aload_n 0, 1) := by decide +kernel
theorem dX12_readValue_75 : decode cX12_readValue 75 = .ok (.invokevirtual 202, 3) := by decide +kernel
theorem dX12_readValue_78 : decode cX12_readValue 78 = .ok (.aload_n 0, 1) := by decide +kernel
theorem dX12_readValue_79 : decode cX12_readValue 79 = .ok (.getfield 152, 3) := by decide +kernel
theorem dX12_readValue_82 : decode cX12_readValue 82 = .ok (.iconst 3, 1) := by decide +kernel
theorem dX12_readValue_83 : decode cX12_readValue 83 = .ok (.if_icmp .eq 9, 3) := by decide +kernel
theorem dX12_readValue_86 : decode cX12_readValue 86 = .ok (.aload_n 0, 1) := by decide +kernel
theorem dX12_readValue_87 : decode cX12_readValue 87 = .ok (.iconst 1, 1) := by decide +kernel
theorem dX12_readValue_88 : decode cX12_readValue 88 = .ok (.invokevirtual 195, 3) := by decide +kernel
theorem dX12_readValue_91 : decode cX12_readValue 91 = .ok (.ireturn, 1) := by decide +kernel
theorem dX12_readValue_92 : decode cX12_readValue 92 = .ok (.iload 4, 2) := by decide +kernel
theorem dX12_readValue_94 : decode cX12_readValue 94 = .ok (.ifCond .eq 12, 3) := by decide +kernel
theorem dX12_readValue_97 : decode cX12_readValue 97 = .ok (.aload_n 0, 1) := by decide +kernel
theorem dX12_readValue_98 : decode cX12_readValue 98 = .ok (.getfield 167, 3) := by decide +kernel
theorem dX12_readValue_101 : decode cX12_readValue 101 = .ok (.ineg, 1) := by decide +kernel
theorem dX12_readValue_102 : decode cX12_readValue 102 = .ok (.i2l, 1) := by decide +kernel
theorem dX12_readValue_103 : decode cX12_readValue 103 = .ok (.goto 8, 3) := by decide +kernel
theorem dX12_readValue_106 : decode cX12_readValue 106 = .ok (.aload_n 0, 1) := by decide +kernel
theorem dX12_readValue_107 : decode cX12_readValue 107 = .ok (.getfield 167, 3) := by decide +kernel
theorem dX12_readValue_110 : decode cX12_readValue 110 = .ok (.i2l, 1) := by decide +kernel
theorem dX12_readValue_111 : decode cX12_readValue 111 = .ok (.lstore_n 2, 1) := by decide +kernel
theorem dX12_readValue_112 : decode cX12_readValue 112 = .ok (.aload_n 0, 1) := by decide +kernel
theorem dX12_readValue_113 : decode cX12_readValue 113 = .ok (.getfield 48, 3) := by decide +kernel
theorem dX12_readValue_116 : decode cX12_readValue 116 = .ok (.iconst 4, 1) := by decide +kernel
theorem dX12_readValue_117 : decode cX12_readValue 117 = .ok (.aload_n 0, 1) := by decide +kernel
theorem dX12_readValue_118 : decode cX12_readValue 118 = .ok (.getfield 233, 3) := by decide +kernel
theorem dX12_readValue_121 : decode cX12_readValue 121 = .ok (.imul, 1) := by decide +kernel
theorem dX12_readValue_122 : decode cX12_readValue 122 = .ok (.iload_n 1, 1) := by decide +kernel
theorem dX12_readValue_123 : decode cX12_readValue 123 = .ok (.iadd, 1) := by decide +kernel
theorem dX12_readValue_124 : decode cX12_readValue 124 = .ok (.lload_n 2, 1) := by decide +kernel
theorem dX12_readValue_125 : decode cX12_readValue 125 = .ok (.lastore, 1) := by decide +kernel
theorem dX12_readValue_126 : decode cX12_readValue 126 = .ok (.aload_n 0, 1) := by decide +kernel
theorem dX12_readValue_127 : decode cX12_readValue 127 = .ok (.invokevirtual 202, 3) := by decide +kernel
theorem dX12_readValue_130 : decode cX12_readValue 130 = .ok (.iconst 1, 1) := by decide +kernel
theorem dX12_readValue_131 : decode cX12_readValue 131 = .ok (.ireturn, 1) := by decide +kernel
theorem dX12_readRow_0 : decode cX12_readRow 0 = .ok (.aload_n 0, 1) := by decide +kernel
theorem dX12_readRow_1 : decode cX12_readRow 1 = .ok (.getfield 233, 3) := by decide +kernel
theorem dX12_readRow_4 : decode cX12_readRow 4 = .ok (.bipush 30, 2) := by decide +kernel
theorem dX12_readRow_6 : decode cX12_readRow 6 = .ok (.if_icmp .ne 9, 3) := by decide +kernel
theorem dX12_readRow_9 : decode cX12_readRow 9 = .ok (.aload_n 0, 1) := by decide +kernel
theorem dX12_readRow_10 : decode cX12_readRow 10 = .ok (.iconst 4, 1) := by decide +kernel
theorem dX12_readRow_11 : decode cX12_readRow 11 = .ok (.invokevirtual 195, 3) := by decide +kernel
theorem dX12_readRow_14 : decode cX12_readRow 14 = .ok (.ireturn, 1) := by decide +kernel
theorem dX12_readRow_15 : decode cX12_readRow 15 = .ok (.aload_n 0, 1) := by decide +kernel
theorem dX12_readRow_16 : decode cX12_readRow 16 = .ok (.getfield 217, 3) := by decide +kernel
theorem dX12_readRow_19 : decode cX12_readRow 19 = .ok (.ifCond .ne 9, 3) := by decide +kernel
theorem dX12_readRow_22 : decode cX12_readRow 22 = .ok (.aload_n 0, 1) := by decide +kernel
theorem dX12_readRow_23 : decode cX12_readRow 23 = .ok (.iconst 5, 1) := by decide +kernel
theorem dX12_readRow_24 : decode cX12_readRow 24 = .ok (.invokevirtual 195, 3) := by decide +kernel
theorem dX12_readRow_27 : decode cX12_readRow 27 = .ok (.ireturn, 1) := by decide +kernel
theorem dX12_readRow_28 : decode cX12_readRow 28 = .ok (.aload_n 0, 1) := by decide +kernel
theorem dX12_readRow_29 : decode cX12_readRow 29 = .ok (.invokevirtual 202, 3) := by decide +kernel
theorem dX12_readRow_32 : decode cX12_readRow 32 = .ok (.iconst 0, 1) := by decide +kernel
theorem dX12_readRow_33 : decode cX12_readRow 33 = .ok (.istore_n 1, 1) := by decide +kernel
theorem dX12_readRow_34 : decode cX12_readRow 34 = .ok (.iload_n 1, 1) := by decide +kernel
theorem dX12_readRow_35 : decode cX12_readRow 35 = .ok (.aload_n 0, 1) := by decide +kernel
theorem dX12_readRow_36 : decode cX12_readRow 36 = .ok (.getfield 188, 3) := by decide +kernel
theorem dX12_readRow_39 : decode cX12_readRow 39 = .ok (.if_icmp .ge 19, 3) := by decide +kernel
theorem dX12_readRow_42 : decode cX12_readRow 42 = .ok (.aload_n 0, 1) := by decide +kernel
theorem dX12_readRow_43 : decode cX12_readRow 43 = .ok (.iload_n 1, 1) := by decide +kernel
theorem dX12_readRow_44 : decode cX12_readRow 44 = .ok (.invokevirtual 236, 3) := by decide +kernel
theorem dX12_readRow_47 : decode cX12_readRow 47 = .ok (.ifCond .ne 5, 3) := by decide +kernel
theorem dX12_readRow_50 : decode cX12_readRow 50 = .ok (.iconst 0, 1) := by decide +kernel
theorem dX12_readRow_51 : decode cX12_readRow 51 = .ok (.ireturn, 1) := by decide +kernel
theorem dX12_readRow_52 : decode cX12_readRow 52 = .ok (.iinc 1 1, 3) := by decide +kernel
theorem dX12_readRow_55 : decode cX12_readRow 55 = .ok (.goto (-21), 3) := by decide +kernel
theorem dX12_readRow_58 : decode cX12_readRow 58 = .ok (.aload_n 0, 1) := by decide +kernel
theorem dX12_readRow_59 : decode cX12_readRow 59 = .ok (.dup, 1) := by decide +kernel
theorem dX12_readRow_60 : decode cX12_readRow 60 = .ok (.getfield 233, 3) := by decide +kernel
theorem dX12_readRow_63 : decode cX12_readRow 63 = .ok (.iconst 1, 1) := by decide +kernel
theorem dX12_readRow_64 : decode cX12_readRow 64 = .ok (.iadd, 1) := by decide +kernel
theorem dX12_readRow_65 : decode cX12_readRow 65 = .ok (.putfield 233, 3) := by decide +kernel
theorem dX12_readRow_68 : decode cX12_readRow 68 = .ok (.aload_n 0, 1) := by decide +kernel
theorem dX12_readRow_69 : decode cX12_readRow 69 = .ok (.getfield 152, 3) := by decide +kernel
theorem dX12_readRow_72 : decode cX12_readRow 72 = .ok (.bipush 59, 2) := by decide +kernel
theorem dX12_readRow_74 : decode cX12_readRow 74 = .ok (.if_icmp .eq 18, 3) := by decide +kernel
theorem dX12_readRow_77 : decode cX12_readRow 77 = .ok (.aload_n 0, 1) := by decide +kernel
theorem dX12_readRow_78 : decode cX12_readRow 78 = .ok (.getfield 152, 3) := by decide +kernel
theorem dX12_readRow_81 : decode cX12_readRow 81 = .ok (.ifCond .eq 11, 3) := by decide +kernel
theorem dX12_readRow_84 : decode cX12_readRow 84 = .ok (.aload_n 0, 1) := by decide +kernel
theorem dX12_readRow_85 : decode cX12_readRow 85 = .ok (.iconst 1, 1) := by decide +kernel
theorem dX12_readRow_86 : decode cX12_readRow 86 = .ok (.invokevirtual 195, 3) := by decide +kernel
theorem dX12_readRow_89 : decode cX12_readRow 89 = .ok (.ifCond .eq 7, 3) := by decide +kernel
theorem dX12_readRow_92 : decode cX12_readRow 92 = .ok (.iconst 1, 1) := by decide +kernel
theorem dX12_readRow_93 : decode cX12_readRow 93 = .ok (.goto 4, 3) := by decide +kernel
theorem dX12_readRow_96 : decode cX12_readRow 96 = .ok (.iconst 0, 1) := by decide +kernel
theorem dX12_readRow_97 : decode cX12_readRow 97 = .ok (.ireturn, 1) := by decide +kernel
theorem dX12_readLine_0 : decode cX12_readLine 0 = .ok (.aload_n 0, 1) := by decide +kernel
theorem dX12_readLine_1 : decode cX12_readLine 1 = .ok (.ldc 239, 2) := by decide +kernel
theorem dX12_readLine_3 : decode cX12_readLine 3 = .ok (.invokevirtual 207, 3) := by decide +kernel
theorem dX12_readLine_6 : decode cX12_readLine 6 = .ok (.ifCond .eq 8, 3) := by decide +kernel
theorem dX12_readLine_9 : decode cX12_readLine 9 = .ok (.aload_n 0, 1) := by decide +kernel
theorem dX12_readLine_10 : decode cX12_readLine 10 = .ok (.invokevirtual 241, 3) := by decide +kernel
theorem dX12_readLine_13 : decode cX12_readLine 13 = .ok (.ireturn, 1) := by decide +kernel
theorem dX12_readLine_14 : decode cX12_readLine 14 = .ok (.aload_n 0, 1) := by decide +kernel
theorem dX12_readLine_15 : decode cX12_readLine 15 = .ok (.ldc 244, 2) := by decide +kernel
theorem dX12_readLine_17 : decode cX12_readLine 17 = .ok (.invokevirtual 207, 3) := by decide +kernel
theorem dX12_readLine_20 : decode cX12_readLine 20 = .ok (.ifCond .eq 8, 3) := by decide +kernel
theorem dX12_readLine_23 : decode cX12_readLine 23 = .ok (.aload_n 0, 1) := by decide +kernel
theorem dX12_readLine_24 : decode cX12_readLine 24 = .ok (.invokevirtual 245, 3) := by decide +kernel
theorem dX12_readLine_27 : decode cX12_readLine 27 = .ok (.ireturn, 1) := by decide +kernel
theorem dX12_readLine_28 : decode cX12_readLine 28 = .ok (.aload_n 0, 1) := by decide +kernel
theorem dX12_readLine_29 : decode cX12_readLine 29 = .ok (.ldc 248, 2) := by decide +kernel
theorem dX12_readLine_31 : decode cX12_readLine 31 = .ok (.invokevirtual 207, 3) := by decide +kernel
theorem dX12_readLine_34 : decode cX12_readLine 34 = .ok (.ifCond .eq 10, 3) := by decide +kernel
theorem dX12_readLine_37 : decode cX12_readLine 37 = .ok (.aload_n 0, 1) := by decide +kernel
theorem dX12_readLine_38 : decode cX12_readLine 38 = .ok (.invokevirtual 250, 3) := by decide +kernel
theorem dX12_readLine_41 : decode cX12_readLine 41 = .ok (.goto 8, 3) := by decide +kernel
theorem dX12_readLine_44 : decode cX12_readLine 44 = .ok (.aload_n 0, 1) := by decide +kernel
theorem dX12_readLine_45 : decode cX12_readLine 45 = .ok (.iconst 1, 1) := by decide +kernel
theorem dX12_readLine_46 : decode cX12_readLine 46 = .ok (.invokevirtual 195, 3) := by decide +kernel
theorem dX12_readLine_49 : decode cX12_readLine 49 = .ok (.ireturn, 1) := by decide +kernel
theorem dX12_readAll_0 : decode cX12_readAll 0 = .ok (.aload_n 0, 1) := by decide +kernel
theorem dX12_readAll_1 : decode cX12_readAll 1 = .ok (.iload_n 1, 1) := by decide +kernel
theorem dX12_readAll_2 : decode cX12_readAll 2 = .ok (.putfield 139, 3) := by decide +kernel
theorem dX12_readAll_5 : decode cX12_readAll 5 = .ok (.aload_n 0, 1) := by decide +kernel
theorem dX12_readAll_6 : decode cX12_readAll 6 = .ok (.iconst 0, 1) := by decide +kernel
theorem dX12_readAll_7 : decode cX12_readAll 7 = .ok (.putfield 142, 3) := by decide +kernel
theorem dX12_readAll_10 : decode cX12_readAll 10 = .ok (.aload_n 0, 1) := by decide +kernel
theorem dX12_readAll_11 : decode cX12_readAll 11 = .ok (.iconst 0, 1) := by decide +kernel
theorem dX12_readAll_12 : decode cX12_readAll 12 = .ok (.putfield 188, 3) := by decide +kernel
theorem dX12_readAll_15 : decode cX12_readAll 15 = .ok (.aload_n 0, 1) := by decide +kernel
theorem dX12_readAll_16 : decode cX12_readAll 16 = .ok (.iconst 0, 1) := by decide +kernel
theorem dX12_readAll_17 : decode cX12_readAll 17 = .ok (.putfield 217, 3) := by decide +kernel
theorem dX12_readAll_20 : decode cX12_readAll 20 = .ok (.aload_n 0, 1) := by decide +kernel
theorem dX12_readAll_21 : decode cX12_readAll 21 = .ok (.iconst 0, 1) := by decide +kernel
theorem dX12_readAll_22 : decode cX12_readAll 22 = .ok (.putfield 233, 3) := by decide +kernel
theorem dX12_readAll_25 : decode cX12_readAll 25 = .ok (.aload_n 0, 1) := by decide +kernel
theorem dX12_readAll_26 : decode cX12_readAll 26 = .ok (.invokevirtual 202, 3) := by decide +kernel
theorem dX12_readAll_29 : decode cX12_readAll 29 = .ok (.aload_n 0, 1) := by decide +kernel
theorem dX12_readAll_30 : decode cX12_readAll 30 = .ok (.invokevirtual 253, 3) := by decide +kernel
theorem dX12_readAll_33 : decode cX12_readAll 33 = .ok (.ifCond .ne 5, 3) := by decide +kernel
theorem dX12_readAll_36 : decode cX12_readAll 36 = .ok (.iconst 0, 1) := by decide +kernel
theorem dX12_readAll_37 : decode cX12_readAll 37 = .ok (.ireturn, 1) := by decide +kernel
theorem dX12_readAll_38 : decode cX12_readAll 38 = .ok (.aload_n 0, 1) := by decide +kernel
theorem dX12_readAll_39 : decode cX12_readAll 39 = .ok (.getfield 152, 3) := by decide +kernel
theorem dX12_readAll_42 : decode cX12_readAll 42 = .ok (.bipush 59, 2) := by decide +kernel
theorem dX12_readAll_44 : decode cX12_readAll 44 = .ok (.if_icmp .ne 16, 3) := by decide +kernel
theorem dX12_readAll_47 : decode cX12_readAll 47 = .ok (.aload_n 0, 1) := by decide +kernel
theorem dX12_readAll_48 : decode cX12_readAll 48 = .ok (.invokevirtual 202, 3) := by decide +kernel
theorem dX12_readAll_51 : decode cX12_readAll 51 = .ok (.aload_n 0, 1) := by decide +kernel
theorem dX12_readAll_52 : decode cX12_readAll 52 = .ok (.invokevirtual 253, 3) := by decide +kernel
theorem dX12_readAll_55 : decode cX12_readAll 55 = .ok (.ifCond .ne (-17), 3) := by decide +kernel
theorem dX12_readAll_58 : decode cX12_readAll 58 = .ok (.iconst 0, 1) := by decide +kernel
theorem dX12_readAll_59 : decode cX12_readAll 59 = .ok (.ireturn, 1) := by decide +kernel
theorem dX12_readAll_60 : decode cX12_readAll 60 = .ok (.aload_n 0, 1) := by decide +kernel
theorem dX12_readAll_61 : decode cX12_readAll 61 = .ok (.getfield 152, 3) := by decide +kernel
theorem dX12_readAll_64 : decode cX12_readAll 64 = .ok (.ifCond .eq 9, 3) := by decide +kernel
theorem dX12_readAll_67 : decode cX12_readAll 67 = .ok (.aload_n 0, 1) := by decide +kernel
theorem dX12_readAll_68 : decode cX12_readAll 68 = .ok (.iconst 1, 1) := by decide +kernel
theorem dX12_readAll_69 : decode cX12_readAll 69 = .ok (.invokevirtual 195, 3) := by decide +kernel
theorem dX12_readAll_72 : decode cX12_readAll 72 = .ok (.ireturn, 1) := by decide +kernel
theorem dX12_readAll_73 : decode cX12_readAll 73 = .ok (.aload_n 0, 1) := by decide +kernel
theorem dX12_readAll_74 : decode cX12_readAll 74 = .ok (.getfield 217, 3) := by decide +kernel
theorem dX12_readAll_77 : decode cX12_readAll 77 = .ok (.ifCond .gt 11, 3) := by decide +kernel
theorem dX12_readAll_80 : decode cX12_readAll 80 = .ok (.aload_n 0, 1) := by decide +kernel
theorem dX12_readAll_81 : decode cX12_readAll 81 = .ok (.iconst 5, 1) := by decide +kernel
theorem dX12_readAll_82 : decode cX12_readAll 82 = .ok (.invokevirtual 195, 3) := by decide +kernel
theorem dX12_readAll_85 : decode cX12_readAll 85 = .ok (.ifCond .eq 7, 3) := by decide +kernel
theorem dX12_readAll_88 : decode cX12_readAll 88 = .ok (.iconst 1, 1) := by decide +kernel
theorem dX12_readAll_89 : decode cX12_readAll 89 = .ok (.goto 4, 3) := by decide +kernel
theorem dX12_readAll_92 : decode cX12_readAll 92 = .ok (.iconst 0, 1) := by decide +kernel
theorem dX12_readAll_93 : decode cX12_readAll 93 = .ok (.ireturn, 1) := by decide +kernel
theorem dX12_table_0 : decode cX12_table 0 = .ok (.aload_n 0, 1) := by decide +kernel
theorem dX12_table_1 : decode cX12_table 1 = .ok (.iload_n 1, 1) := by decide +kernel
theorem dX12_table_2 : decode cX12_table 2 = .ok (.i2l, 1) := by decide +kernel
theorem dX12_table_3 : decode cX12_table 3 = .ok (.lconst 0, 1) := by decide +kernel
theorem dX12_table_4 : decode cX12_table 4 = .ok (.aload_n 0, 1) := by decide +kernel
theorem dX12_table_5 : decode cX12_table 5 = .ok (.getfield 132, 3) := by decide +kernel
theorem dX12_table_8 : decode cX12_table 8 = .ok (.i2l, 1) := by decide +kernel
theorem dX12_table_9 : decode cX12_table 9 = .ok (.invokestatic 159, 3) := by decide +kernel
theorem dX12_table_12 : decode cX12_table 12 = .ok (.ifCond .eq 7, 3) := by decide +kernel
theorem dX12_table_15 : decode cX12_table 15 = .ok (.iconst 0, 1) := by decide +kernel
theorem dX12_table_16 : decode cX12_table 16 = .ok (.goto 4, 3) := by decide +kernel
theorem dX12_table_19 : decode cX12_table 19 = .ok (.iconst 2, 1) := by decide +kernel
theorem dX12_table_20 : decode cX12_table 20 = .ok (.invokevirtual 256, 3) := by decide +kernel
theorem dX12_table_23 : decode cX12_table 23 = .ok (.ifCond .eq 5, 3) := by decide +kernel
theorem dX12_table_26 : decode cX12_table 26 = .ok (.iconst (-1), 1) := by decide +kernel
theorem dX12_table_27 : decode cX12_table 27 = .ok (.ireturn, 1) := by decide +kernel
theorem dX12_table_28 : decode cX12_table 28 = .ok (.aload_n 0, 1) := by decide +kernel
theorem dX12_table_29 : decode cX12_table 29 = .ok (.iconst 0, 1) := by decide +kernel
theorem dX12_table_30 : decode cX12_table 30 = .ok (.putfield 132, 3) := by decide +kernel
theorem dX12_table_33 : decode cX12_table 33 = .ok (.aload_n 0, 1) := by decide +kernel
theorem dX12_table_34 : decode cX12_table 34 = .ok (.iconst 0, 1) := by decide +kernel
theorem dX12_table_35 : decode cX12_table 35 = .ok (.putfield 259, 3) := by decide +kernel
theorem dX12_table_38 : decode cX12_table 38 = .ok (.aload_n 0, 1) := by decide +kernel
theorem dX12_table_39 : decode cX12_table 39 = .ok (.iload_n 1, 1) := by decide +kernel
theorem dX12_table_40 : decode cX12_table 40 = .ok (.invokevirtual 262, 3) := by decide +kernel
theorem dX12_table_43 : decode cX12_table 43 = .ok (.ifCond .ne 25, 3) := by decide +kernel
theorem dX12_table_46 : decode cX12_table 46 = .ok (.aload_n 0, 1) := by decide +kernel
theorem dX12_table_47 : decode cX12_table 47 = .ok (.aload_n 0, 1) := by decide +kernel
theorem dX12_table_48 : decode cX12_table 48 = .ok (.getfield 180, 3) := by decide +kernel
theorem dX12_table_51 : decode cX12_table 51 = .ok (.putfield 259, 3) := by decide +kernel
theorem dX12_table_54 : decode cX12_table 54 = .ok (.aload_n 0, 1) := by decide +kernel
theorem dX12_table_55 : decode cX12_table 55 = .ok (.aload_n 0, 1) := by decide +kernel
theorem dX12_table_56 : decode cX12_table 56 = .ok (.getfield 183, 3) := by decide +kernel
theorem dX12_table_59 : decode cX12_table 59 = .ok (.putfield 11, 3) := by decide +kernel
theorem dX12_table_62 : decode cX12_table 62 = .ok (.aload_n 0, 1) := by decide +kernel
theorem dX12_table_63 : decode cX12_table 63 = .ok (.iconst 4, 1) := by decide +kernel
theorem dX12_table_64 : decode cX12_table 64 = .ok (.invokevirtual 265, 3) := by decide +kernel
theorem dX12_table_67 : decode cX12_table 67 = .ok (.ireturn, 1) := by decide +kernel
theorem dX12_table_68 : decode cX12_table 68 = .ok (.aload_n 0, 1) := by decide +kernel
theorem dX12_table_69 : decode cX12_table 69 = .ok (.invokevirtual 268, 3) := by decide +kernel
theorem dX12_table_72 : decode cX12_table 72 = .ok (.aload_n 0, 1) := by decide +kernel
theorem dX12_table_73 : decode cX12_table 73 = .ok (.getfield 233, 3) := by decide +kernel
theorem dX12_table_76 : decode cX12_table 76 = .ok (.ireturn, 1) := by decide +kernel
theorem dX12_begins_0 : decode cX12_begins 0 = .ok (.aload_n 0, 1) := by decide +kernel
theorem dX12_begins_1 : decode cX12_begins 1 = .ok (.aload_n 0, 1) := by decide +kernel
theorem dX12_begins_2 : decode cX12_begins 2 = .ok (.getfield 188, 3) := by decide +kernel
theorem dX12_begins_5 : decode cX12_begins 5 = .ok (.putfield 271, 3) := by decide +kernel
theorem dX12_begins_8 : decode cX12_begins 8 = .ok (.aload_n 0, 1) := by decide +kernel
theorem dX12_begins_9 : decode cX12_begins 9 = .ok (.aload_n 0, 1) := by decide +kernel
theorem dX12_begins_10 : decode cX12_begins 10 = .ok (.getfield 217, 3) := by decide +kernel
theorem dX12_begins_13 : decode cX12_begins 13 = .ok (.putfield 274, 3) := by decide +kernel
theorem dX12_begins_16 : decode cX12_begins 16 = .ok (.iconst 0, 1) := by decide +kernel
theorem dX12_begins_17 : decode cX12_begins 17 = .ok (.istore_n 1, 1) := by decide +kernel
theorem dX12_begins_18 : decode cX12_begins 18 = .ok (.iload_n 1, 1) := by decide +kernel
theorem dX12_begins_19 : decode cX12_begins 19 = .ok (.iconst 4, 1) := by decide +kernel
theorem dX12_begins_20 : decode cX12_begins 20 = .ok (.if_icmp .ge 57, 3) := by decide +kernel
theorem dX12_begins_23 : decode cX12_begins 23 = .ok (.aload_n 0, 1) := by decide +kernel
theorem dX12_begins_24 : decode cX12_begins 24 = .ok (.getfield 19, 3) := by decide +kernel
theorem dX12_begins_27 : decode cX12_begins 27 = .ok (.iload_n 1, 1) := by decide +kernel
theorem dX12_begins_28 : decode cX12_begins 28 = .ok (.aload_n 0, 1) := by decide +kernel
theorem dX12_begins_29 : decode cX12_begins 29 = .ok (.getfield 36, 3) := by decide +kernel
theorem dX12_begins_32 : decode cX12_begins 32 = .ok (.iload_n 1, 1) := by decide +kernel
theorem dX12_begins_33 : decode cX12_begins 33 = .ok (.baload, 1) := by decide +kernel
theorem dX12_begins_34 : decode cX12_begins 34 = .ok (.bastore, 1) := by decide +kernel
theorem dX12_begins_35 : decode cX12_begins 35 = .ok (.aload_n 0, 1) := by decide +kernel
theorem dX12_begins_36 : decode cX12_begins 36 = .ok (.getfield 23, 3) := by decide +kernel
theorem dX12_begins_39 : decode cX12_begins 39 = .ok (.iload_n 1, 1) := by decide +kernel
theorem dX12_begins_40 : decode cX12_begins 40 = .ok (.aload_n 0, 1) := by decide +kernel
theorem dX12_begins_41 : decode cX12_begins 41 = .ok (.getfield 39, 3) := by decide +kernel
theorem dX12_begins_44 : decode cX12_begins 44 = .ok (.iload_n 1, 1) := by decide +kernel
theorem dX12_begins_45 : decode cX12_begins 45 = .ok (.iaload, 1) := by decide +kernel
theorem dX12_begins_46 : decode cX12_begins 46 = .ok (.iastore, 1) := by decide +kernel
theorem dX12_begins_47 : decode cX12_begins 47 = .ok (.aload_n 0, 1) := by decide +kernel
theorem dX12_begins_48 : decode cX12_begins 48 = .ok (.getfield 26, 3) := by decide +kernel
theorem dX12_begins_51 : decode cX12_begins 51 = .ok (.iload_n 1, 1) := by decide +kernel
theorem dX12_begins_52 : decode cX12_begins 52 = .ok (.aload_n 0, 1) := by decide +kernel
theorem dX12_begins_53 : decode cX12_begins 53 = .ok (.getfield 42, 3) := by decide +kernel
theorem dX12_begins_56 : decode cX12_begins 56 = .ok (.iload_n 1, 1) := by decide +kernel
theorem dX12_begins_57 : decode cX12_begins 57 = .ok (.baload, 1) := by decide +kernel
theorem dX12_begins_58 : decode cX12_begins 58 = .ok (.bastore, 1) := by decide +kernel
theorem dX12_begins_59 : decode cX12_begins 59 = .ok (.aload_n 0, 1) := by decide +kernel
theorem dX12_begins_60 : decode cX12_begins 60 = .ok (.getfield 29, 3) := by decide +kernel
theorem dX12_begins_63 : decode cX12_begins 63 = .ok (.iload_n 1, 1) := by decide +kernel
theorem dX12_begins_64 : decode cX12_begins 64 = .ok (.aload_n 0, 1) := by decide +kernel
theorem dX12_begins_65 : decode cX12_begins 65 = .ok (.getfield 45, 3) := by decide +kernel
theorem dX12_begins_68 : decode cX12_begins 68 = .ok (.iload_n 1, 1) := by decide +kernel
theorem dX12_begins_69 : decode cX12_begins 69 = .ok (.baload, 1) := by decide +kernel
theorem dX12_begins_70 : decode cX12_begins 70 = .ok (.bastore, 1) := by decide +kernel
theorem dX12_begins_71 : decode cX12_begins 71 = .ok (.iinc 1 1, 3) := by decide +kernel
theorem dX12_begins_74 : decode cX12_begins 74 = .ok (.goto (-56), 3) := by decide +kernel
theorem dX12_begins_77 : decode cX12_begins 77 = .ok (.aload_n 0, 1) := by decide +kernel
theorem dX12_begins_78 : decode cX12_begins 78 = .ok (.iconst 0, 1) := by decide +kernel
theorem dX12_begins_79 : decode cX12_begins 79 = .ok (.putfield 277, 3) := by decide +kernel
theorem dX12_begins_82 : decode cX12_begins 82 = .ok (.aload_n 0, 1) := by decide +kernel
theorem dX12_begins_83 : decode cX12_begins 83 = .ok (.iconst 0, 1) := by decide +kernel
theorem dX12_begins_84 : decode cX12_begins 84 = .ok (.putfield 280, 3) := by decide +kernel
theorem dX12_begins_87 : decode cX12_begins 87 = .ok (.aload_n 0, 1) := by decide +kernel
theorem dX12_begins_88 : decode cX12_begins 88 = .ok (.aload_n 0, 1) := by decide +kernel
theorem dX12_begins_89 : decode cX12_begins 89 = .ok (.getfield 233, 3) := by decide +kernel
theorem dX12_begins_92 : decode cX12_begins 92 = .ok (.putfield 283, 3) := by decide +kernel
theorem dX12_begins_95 : decode cX12_begins 95 = .ok (.iconst 0, 1) := by decide +kernel
theorem dX12_begins_96 : decode cX12_begins 96 = .ok (.istore_n 1, 1) := by decide +kernel
theorem dX12_begins_97 : decode cX12_begins 97 = .ok (.iload_n 1, 1) := by decide +kernel
theorem dX12_begins_98 : decode cX12_begins 98 = .ok (.bipush 64, 2) := by decide +kernel
theorem dX12_begins_100 : decode cX12_begins 100 = .ok (.if_icmp .ge 79, 3) := by decide +kernel
theorem dX12_begins_103 : decode cX12_begins 103 = .ok (.aload_n 0, 1) := by decide +kernel
theorem dX12_begins_104 : decode cX12_begins 104 = .ok (.getfield 51, 3) := by decide +kernel
theorem dX12_begins_107 : decode cX12_begins 107 = .ok (.iload_n 1, 1) := by decide +kernel
theorem dX12_begins_108 : decode cX12_begins 108 = .ok (.iload_n 1, 1) := by decide +kernel
theorem dX12_begins_109 : decode cX12_begins 109 = .ok (.aload_n 0, 1) := by decide +kernel
theorem dX12_begins_110 : decode cX12_begins 110 = .ok (.getfield 233, 3) := by decide +kernel
theorem dX12_begins_113 : decode cX12_begins 113 = .ok (.if_icmp .ge 7, 3) := by decide +kernel
theorem dX12_begins_116 : decode cX12_begins 116 = .ok (.iconst 1, 1) := by decide +kernel
theorem dX12_begins_117 : decode cX12_begins 117 = .ok (.goto 4, 3) := by decide +kernel
theorem dX12_begins_120 : decode cX12_begins 120 = .ok (.iconst 0, 1) := by decide +kernel
theorem dX12_begins_121 : decode cX12_begins 121 = .ok (.bastore, 1) := by decide +kernel
theorem dX12_begins_122 : decode cX12_begins 122 = .ok (.aload_n 0, 1) := by decide +kernel
theorem dX12_begins_123 : decode cX12_begins 123 = .ok (.getfield 57, 3) := by decide +kernel
theorem dX12_begins_126 : decode cX12_begins 126 = .ok (.iload_n 1, 1) := by decide +kernel
theorem dX12_begins_127 : decode cX12_begins 127 = .ok (.iconst 0, 1) := by decide +kernel
theorem dX12_begins_128 : decode cX12_begins 128 = .ok (.iastore, 1) := by decide +kernel
theorem dX12_begins_129 : decode cX12_begins 129 = .ok (.iconst 0, 1) := by decide +kernel
theorem dX12_begins_130 : decode cX12_begins 130 = .ok (.istore_n 2, 1) := by decide +kernel
theorem dX12_begins_131 : decode cX12_begins 131 = .ok (.iload_n 2, 1) := by decide +kernel
theorem dX12_begins_132 : decode cX12_begins 132 = .ok (.aload_n 0, 1) := by decide +kernel
theorem dX12_begins_133 : decode cX12_begins 133 = .ok (.getfield 271, 3) := by decide +kernel
theorem dX12_begins_136 : decode cX12_begins 136 = .ok (.if_icmp .ge 37, 3) := by decide +kernel
theorem dX12_begins_139 : decode cX12_begins 139 = .ok (.iload_n 1, 1) := by decide +kernel
theorem dX12_begins_140 : decode cX12_begins 140 = .ok (.aload_n 0, 1) := by decide +kernel
theorem dX12_begins_141 : decode cX12_begins 141 = .ok (.getfield 233, 3) := by decide +kernel
theorem dX12_begins_144 : decode cX12_begins 144 = .ok (.if_icmp .ge 29, 3) := by decide +kernel
theorem dX12_begins_147 : decode cX12_begins 147 = .ok (.aload_n 0, 1) := by decide +kernel
theorem dX12_begins_148 : decode cX12_begins 148 = .ok (.getfield 54, 3) := by decide +kernel
theorem dX12_begins_151 : decode cX12_begins 151 = .ok (.iconst 4, 1) := by decide +kernel
theorem dX12_begins_152 : decode cX12_begins 152 = .ok (.iload_n 1, 1) := by decide +kernel
theorem dX12_begins_153 : decode cX12_begins 153 = .ok (.imul, 1) := by decide +kernel
theorem dX12_begins_154 : decode cX12_begins 154 = .ok (.iload_n 2, 1) := by decide +kernel
theorem dX12_begins_155 : decode cX12_begins 155 = .ok (.iadd, 1) := by decide +kernel
theorem dX12_begins_156 : decode cX12_begins 156 = .ok (.aload_n 0, 1) := by decide +kernel
theorem dX12_begins_157 : decode cX12_begins 157 = .ok (.getfield 48, 3) := by decide +kernel
theorem dX12_begins_160 : decode cX12_begins 160 = .ok (.iconst 4, 1) := by decide +kernel
theorem dX12_begins_161 : decode cX12_begins 161 = .ok (.iload_n 1, 1) := by decide +kernel
theorem dX12_begins_162 : decode cX12_begins 162 = .ok (.imul, 1) := by decide +kernel
theorem dX12_begins_163 : decode cX12_begins 163 = .ok (.iload_n 2, 1) := by decide +kernel
theorem dX12_begins_164 : decode cX12_begins 164 = .ok (.iadd, 1) := by decide +kernel
theorem dX12_begins_165 : decode cX12_begins 165 = .ok (.laload, 1) := by decide +kernel
theorem dX12_begins_166 : decode cX12_begins 166 = .ok (.lastore, 1) := by decide +kernel
theorem dX12_begins_167 : decode cX12_begins 167 = .ok (.iinc 2 1, 3) := by decide +kernel
theorem dX12_begins_170 : decode cX12_begins 170 = .ok (.goto (-39), 3) := by decide +kernel
theorem dX12_begins_173 : decode cX12_begins 173 = .ok (.iinc 1 1, 3) := by decide +kernel
theorem dX12_begins_176 : decode cX12_begins 176 = .ok (.goto (-79), 3) := by decide +kernel
theorem dX12_begins_179 : decode cX12_begins 179 = .ok (.aload_n 0, 1) := by decide +kernel
theorem dX12_begins_180 : decode cX12_begins 180 = .ok (.iconst 0, 1) := by decide +kernel
theorem dX12_begins_181 : decode cX12_begins 181 = .ok (.putfield 286, 3) := by decide +kernel
theorem dX12_begins_184 : decode cX12_begins 184 = .ok (.aload_n 0, 1) := by decide +kernel
theorem dX12_begins_185 : decode cX12_begins 185 = .ok (.iconst 0, 1) := by decide +kernel
theorem dX12_begins_186 : decode cX12_begins 186 = .ok (.putfield 289, 3) := by decide +kernel
theorem dX12_begins_189 : decode cX12_begins 189 = .ok (.aload_n 0, 1) := by decide +kernel
theorem dX12_begins_190 : decode cX12_begins 190 = .ok (.invokevirtual 293, 3) := by decide +kernel
theorem dX12_begins_193 : decode cX12_begins 193 = .ok (.aload_n 0, 1) := by decide +kernel
theorem dX12_begins_194 : decode cX12_begins 194 = .ok (.iconst 1, 1) := by decide +kernel
theorem dX12_begins_195 : decode cX12_begins 195 = .ok (.putfield 296, 3) := by decide +kernel
theorem dX12_begins_198 : decode cX12_begins 198 = .ok (.return_, 1) := by decide +kernel
theorem dX12_fault_0 : decode cX12_fault 0 = .ok (.aload_n 0, 1) := by decide +kernel
theorem dX12_fault_1 : decode cX12_fault 1 = .ok (.iconst 0, 1) := by decide +kernel
theorem dX12_fault_2 : decode cX12_fault 2 = .ok (.putfield 126, 3) := by decide +kernel
theorem dX12_fault_5 : decode cX12_fault 5 = .ok (.aload_n 0, 1) := by decide +kernel
theorem dX12_fault_6 : decode cX12_fault 6 = .ok (.getfield 259, 3) := by decide +kernel
theorem dX12_fault_9 : decode cX12_fault 9 = .ok (.ireturn, 1) := by decide +kernel
theorem dX12_where_0 : decode cX12_where 0 = .ok (.aload_n 0, 1) := by decide +kernel
theorem dX12_where_1 : decode cX12_where 1 = .ok (.iconst 0, 1) := by decide +kernel
theorem dX12_where_2 : decode cX12_where 2 = .ok (.putfield 126, 3) := by decide +kernel
theorem dX12_where_5 : decode cX12_where 5 = .ok (.aload_n 0, 1) := by decide +kernel
theorem dX12_where_6 : decode cX12_where 6 = .ok (.getfield 129, 3) := by decide +kernel
theorem dX12_where_9 : decode cX12_where 9 = .ok (.iconst 4, 1) := by decide +kernel
theorem dX12_where_10 : decode cX12_where 10 = .ok (.if_icmp .ne 10, 3) := by decide +kernel
theorem dX12_where_13 : decode cX12_where 13 = .ok (.aload_n 0, 1) := by decide +kernel
theorem dX12_where_14 : decode cX12_where 14 = .ok (.getfield 11, 3) := by decide +kernel
theorem dX12_where_17 : decode cX12_where 17 = .ok (.goto 4, 3) := by decide +kernel
theorem dX12_where_20 : decode cX12_where 20 = .ok (.iconst (-1), 1) := by decide +kernel
theorem dX12_where_21 : decode cX12_where 21 = .ok (.ireturn, 1) := by decide +kernel
theorem dX12_rowAt_0 : decode cX12_rowAt 0 = .ok (.bipush 64, 2) := by decide +kernel
theorem dX12_rowAt_2 : decode cX12_rowAt 2 = .ok (.iload_n 0, 1) := by decide +kernel
theorem dX12_rowAt_3 : decode cX12_rowAt 3 = .ok (.bipush 41, 2) := by decide +kernel
theorem dX12_rowAt_5 : decode cX12_rowAt 5 = .ok (.irem, 1) := by decide +kernel
theorem dX12_rowAt_6 : decode cX12_rowAt 6 = .ok (.imul, 1) := by decide +kernel
theorem dX12_rowAt_7 : decode cX12_rowAt 7 = .ok (.iload_n 1, 1) := by decide +kernel
theorem dX12_rowAt_8 : decode cX12_rowAt 8 = .ok (.iadd, 1) := by decide +kernel
theorem dX12_rowAt_9 : decode cX12_rowAt 9 = .ok (.ireturn, 1) := by decide +kernel
theorem dX12_isThen_0 : decode cX12_isThen 0 = .ok (.iload_n 2, 1) := by decide +kernel
theorem dX12_isThen_1 : decode cX12_isThen 1 = .ok (.i2l, 1) := by decide +kernel
theorem dX12_isThen_2 : decode cX12_isThen 2 = .ok (.lconst 0, 1) := by decide +kernel
theorem dX12_isThen_3 : decode cX12_isThen 3 = .ok (.ldc2_w 299, 3) := by decide +kernel
theorem dX12_isThen_6 : decode cX12_isThen 6 = .ok (.invokestatic 159, 3) := by decide +kernel
theorem dX12_isThen_9 : decode cX12_isThen 9 = .ok (.ifCond .eq 20, 3) := by decide +kernel
theorem dX12_isThen_12 : decode cX12_isThen 12 = .ok (.aload_n 0, 1) := by decide +kernel
theorem dX12_isThen_13 : decode cX12_isThen 13 = .ok (.getfield 51, 3) := by decide +kernel
theorem dX12_isThen_16 : decode cX12_isThen 16 = .ok (.iload_n 1, 1) := by decide +kernel
theorem dX12_isThen_17 : decode cX12_isThen 17 = .ok (.iload_n 2, 1) := by decide +kernel
theorem dX12_isThen_18 : decode cX12_isThen 18 = .ok (.invokestatic 301, 3) := by decide +kernel
theorem dX12_isThen_21 : decode cX12_isThen 21 = .ok (.baload, 1) := by decide +kernel
theorem dX12_isThen_22 : decode cX12_isThen 22 = .ok (.ifCond .eq 7, 3) := by decide +kernel
theorem dX12_isThen_25 : decode cX12_isThen 25 = .ok (.iconst 1, 1) := by decide +kernel
theorem dX12_isThen_26 : decode cX12_isThen 26 = .ok (.goto 4, 3) := by decide +kernel
theorem dX12_isThen_29 : decode cX12_isThen 29 = .ok (.iconst 0, 1) := by decide +kernel
theorem dX12_isThen_30 : decode cX12_isThen 30 = .ok (.ireturn, 1) := by decide +kernel
theorem dX12_isNow_0 : decode cX12_isNow 0 = .ok (.aload_n 0, 1) := by decide +kernel
theorem dX12_isNow_1 : decode cX12_isNow 1 = .ok (.getfield 296, 3) := by decide +kernel
theorem dX12_isNow_4 : decode cX12_isNow 4 = .ok (.ifCond .eq 19, 3) := by decide +kernel
theorem dX12_isNow_7 : decode cX12_isNow 7 = .ok (.aload_n 0, 1) := by decide +kernel
theorem dX12_isNow_8 : decode cX12_isNow 8 = .ok (.aload_n 0, 1) := by decide +kernel
theorem dX12_isNow_9 : decode cX12_isNow 9 = .ok (.getfield 277, 3) := by decide +kernel
theorem dX12_isNow_12 : decode cX12_isNow 12 = .ok (.iload_n 1, 1) := by decide +kernel
theorem dX12_isNow_13 : decode cX12_isNow 13 = .ok (.invokevirtual 305, 3) := by decide +kernel
theorem dX12_isNow_16 : decode cX12_isNow 16 = .ok (.ifCond .eq 7, 3) := by decide +kernel
theorem dX12_isNow_19 : decode cX12_isNow 19 = .ok (.iconst 1, 1) := by decide +kernel
theorem dX12_isNow_20 : decode cX12_isNow 20 = .ok (.goto 4, 3) := by decide +kernel
theorem dX12_isNow_23 : decode cX12_isNow 23 = .ok (.iconst 0, 1) := by decide +kernel
theorem dX12_isNow_24 : decode cX12_isNow 24 = .ok (.ireturn, 1) := by decide +kernel
theorem dX12_valueThen_0 : decode cX12_valueThen 0 = .ok (.aload_n 0, 1) := by decide +kernel
theorem dX12_valueThen_1 : decode cX12_valueThen 1 = .ok (.getfield 54, 3) := by decide +kernel
theorem dX12_valueThen_4 : decode cX12_valueThen 4 = .ok (.iconst 4, 1) := by decide +kernel
theorem dX12_valueThen_5 : decode cX12_valueThen 5 = .ok (.iload_n 1, 1) := by decide +kernel
theorem dX12_valueThen_6 : decode cX12_valueThen 6 = .ok (.iload_n 2, 1) := by decide +kernel
theorem dX12_valueThen_7 : decode cX12_valueThen 7 = .ok (.invokestatic 301, 3) := by decide +kernel
theorem dX12_valueThen_10 : decode cX12_valueThen 10 = .ok (.imul, 1) := by decide +kernel
theorem dX12_valueThen_11 : decode cX12_valueThen 11 = .ok (.iload_n 3, 1) := by decide +kernel
theorem dX12_valueThen_12 : decode cX12_valueThen 12 = .ok (.iadd, 1) := by decide +kernel
theorem dX12_valueThen_13 : decode cX12_valueThen 13 = .ok (.laload, 1) := by decide +kernel
theorem dX12_valueThen_14 : decode cX12_valueThen 14 = .ok (.lreturn, 1) := by decide +kernel
theorem dX12_earliest_0 : decode cX12_earliest 0 = .ok (.aload_n 0, 1) := by decide +kernel
theorem dX12_earliest_1 : decode cX12_earliest 1 = .ok (.getfield 277, 3) := by decide +kernel
theorem dX12_earliest_4 : decode cX12_earliest 4 = .ok (.bipush 40, 2) := by decide +kernel
theorem dX12_earliest_6 : decode cX12_earliest 6 = .ok (.if_icmp .ge 7, 3) := by decide +kernel
theorem dX12_earliest_9 : decode cX12_earliest 9 = .ok (.iconst 0, 1) := by decide +kernel
theorem dX12_earliest_10 : decode cX12_earliest 10 = .ok (.goto 12, 3) := by decide +kernel
theorem dX12_earliest_13 : decode cX12_earliest 13 = .ok (.aload_n 0, 1) := by decide +kernel
theorem dX12_earliest_14 : decode cX12_earliest 14 = .ok (.getfield 277, 3) := by decide +kernel
theorem dX12_earliest_17 : decode cX12_earliest 17 = .ok (.bipush 41, 2) := by decide +kernel
theorem dX12_earliest_19 : decode cX12_earliest 19 = .ok (.isub, 1) := by decide +kernel
theorem dX12_earliest_20 : decode cX12_earliest 20 = .ok (.iconst 1, 1) := by decide +kernel
theorem dX12_earliest_21 : decode cX12_earliest 21 = .ok (.iadd, 1) := by decide +kernel
theorem dX12_earliest_22 : decode cX12_earliest 22 = .ok (.ireturn, 1) := by decide +kernel
theorem dX12_canView_0 : decode cX12_canView 0 = .ok (.iload_n 1, 1) := by decide +kernel
theorem dX12_canView_1 : decode cX12_canView 1 = .ok (.i2l, 1) := by decide +kernel
theorem dX12_canView_2 : decode cX12_canView 2 = .ok (.aload_n 0, 1) := by decide +kernel
theorem dX12_canView_3 : decode cX12_canView 3 = .ok (.invokevirtual 309, 3) := by decide +kernel
theorem dX12_canView_6 : decode cX12_canView 6 = .ok (.i2l, 1) := by decide +kernel
theorem dX12_canView_7 : decode cX12_canView 7 = .ok (.aload_n 0, 1) := by decide +kernel
theorem dX12_canView_8 : decode cX12_canView 8 = .ok (.getfield 277, 3) := by decide +kernel
theorem dX12_canView_11 : decode cX12_canView 11 = .ok (.i2l, 1) := by decide +kernel
theorem dX12_canView_12 : decode cX12_canView 12 = .ok (.invokestatic 159, 3) := by decide +kernel
theorem dX12_canView_15 : decode cX12_canView 15 = .ok (.ireturn, 1) := by decide +kernel
theorem dX12_acts_0 : decode cX12_acts 0 = .ok (.iconst 0, 1) := by decide +kernel
theorem dX12_acts_1 : decode cX12_acts 1 = .ok (.istore_n 1, 1) := by decide +kernel
theorem dX12_acts_2 : decode cX12_acts 2 = .ok (.iload_n 1, 1) := by decide +kernel
theorem dX12_acts_3 : decode cX12_acts 3 = .ok (.bipush 64, 2) := by decide +kernel
theorem dX12_acts_5 : decode cX12_acts 5 = .ok (.if_icmp .ge 86, 3) := by decide +kernel
theorem dX12_acts_8 : decode cX12_acts 8 = .ok (.aload_n 0, 1) := by decide +kernel
theorem dX12_acts_9 : decode cX12_acts 9 = .ok (.getfield 51, 3) := by decide +kernel
theorem dX12_acts_12 : decode cX12_acts 12 = .ok (.aload_n 0, 1) := by decide +kernel
theorem dX12_acts_13 : decode cX12_acts 13 = .ok (.getfield 277, 3) := by decide +kernel
theorem dX12_acts_16 : decode cX12_acts 16 = .ok (.iconst 1, 1) := by decide +kernel
theorem dX12_acts_17 : decode cX12_acts 17 = .ok (.iadd, 1) := by decide +kernel
theorem dX12_acts_18 : decode cX12_acts 18 = .ok (.iload_n 1, 1) := by decide +kernel
theorem dX12_acts_19 : decode cX12_acts 19 = .ok (.invokestatic 301, 3) := by decide +kernel
theorem dX12_acts_22 : decode cX12_acts 22 = .ok (.aload_n 0, 1) := by decide +kernel
theorem dX12_acts_23 : decode cX12_acts 23 = .ok (.getfield 51, 3) := by decide +kernel
theorem dX12_acts_26 : decode cX12_acts 26 = .ok (.aload_n 0, 1) := by decide +kernel
theorem dX12_acts_27 : decode cX12_acts 27 = .ok (.getfield 277, 3) := by decide +kernel
theorem dX12_acts_30 : decode cX12_acts 30 = .ok (.iload_n 1, 1) := by decide +kernel
theorem dX12_acts_31 : decode cX12_acts 31 = .ok (.invokestatic 301, 3) := by decide +kernel
theorem dX12_acts_34 : decode cX12_acts 34 = .ok (.baload, 1) := by decide +kernel
theorem dX12_acts_35 : decode cX12_acts 35 = .ok (.bastore, 1) := by decide +kernel
theorem dX12_acts_36 : decode cX12_acts 36 = .ok (.iconst 0, 1) := by decide +kernel
theorem dX12_acts_37 : decode cX12_acts 37 = .ok (.istore_n 2, 1) := by decide +kernel
theorem dX12_acts_38 : decode cX12_acts 38 = .ok (.iload_n 2, 1) := by decide +kernel
theorem dX12_acts_39 : decode cX12_acts 39 = .ok (.iconst 4, 1) := by decide +kernel
theorem dX12_acts_40 : decode cX12_acts 40 = .ok (.if_icmp .ge 45, 3) := by decide +kernel
theorem dX12_acts_43 : decode cX12_acts 43 = .ok (.aload_n 0, 1) := by decide +kernel
theorem dX12_acts_44 : decode cX12_acts 44 = .ok (.getfield 54, 3) := by decide +kernel
theorem dX12_acts_47 : decode cX12_acts 47 = .ok (.iconst 4, 1) := by decide +kernel
theorem dX12_acts_48 : decode cX12_acts 48 = .ok (.aload_n 0, 1) := by decide +kernel
theorem dX12_acts_49 : decode cX12_acts 49 = .ok (.getfield 277, 3) := by decide +kernel
theorem dX12_acts_52 : decode cX12_acts 52 = .ok (.iconst 1, 1) := by decide +kernel
theorem dX12_acts_53 : decode cX12_acts 53 = .ok (.iadd, 1) := by decide +kernel
theorem dX12_acts_54 : decode cX12_acts 54 = .ok (.iload_n 1, 1) := by decide +kernel
theorem dX12_acts_55 : decode cX12_acts 55 = .ok (.invokestatic 301, 3) := by decide +kernel
theorem dX12_acts_58 : decode cX12_acts 58 = .ok (.imul, 1) := by decide +kernel
theorem dX12_acts_59 : decode cX12_acts 59 = .ok (.iload_n 2, 1) := by decide +kernel
theorem dX12_acts_60 : decode cX12_acts 60 = .ok (.iadd, 1) := by decide +kernel
theorem dX12_acts_61 : decode cX12_acts 61 = .ok (.aload_n 0, 1) := by decide +kernel
theorem dX12_acts_62 : decode cX12_acts 62 = .ok (.getfield 54, 3) := by decide +kernel
theorem dX12_acts_65 : decode cX12_acts 65 = .ok (.iconst 4, 1) := by decide +kernel
theorem dX12_acts_66 : decode cX12_acts 66 = .ok (.aload_n 0, 1) := by decide +kernel
theorem dX12_acts_67 : decode cX12_acts 67 = .ok (.getfield 277, 3) := by decide +kernel
theorem dX12_acts_70 : decode cX12_acts 70 = .ok (.iload_n 1, 1) := by decide +kernel
theorem dX12_acts_71 : decode cX12_acts 71 = .ok (.invokestatic 301, 3) := by decide +kernel
theorem dX12_acts_74 : decode cX12_acts 74 = .ok (.imul, 1) := by decide +kernel
theorem dX12_acts_75 : decode cX12_acts 75 = .ok (.iload_n 2, 1) := by decide +kernel
theorem dX12_acts_76 : decode cX12_acts 76 = .ok (.iadd, 1) := by decide +kernel
theorem dX12_acts_77 : decode cX12_acts 77 = .ok (.laload, 1) := by decide +kernel
theorem dX12_acts_78 : decode cX12_acts 78 = .ok (.lastore, 1) := by decide +kernel
theorem dX12_acts_79 : decode cX12_acts 79 = .ok (.iinc 2 1, 3) := by decide +kernel
theorem dX12_acts_82 : decode cX12_acts 82 = .ok (.goto (-44), 3) := by decide +kernel
theorem dX12_acts_85 : decode cX12_acts 85 = .ok (.iinc 1 1, 3) := by decide +kernel
theorem dX12_acts_88 : decode cX12_acts 88 = .ok (.goto (-86), 3) := by decide +kernel
theorem dX12_acts_91 : decode cX12_acts 91 = .ok (.aload_n 0, 1) := by decide +kernel
theorem dX12_acts_92 : decode cX12_acts 92 = .ok (.dup, 1) := by decide +kernel
theorem dX12_acts_93 : decode cX12_acts 93 = .ok (.getfield 277, 3) := by decide +kernel
theorem dX12_acts_96 : decode cX12_acts 96 = .ok (.iconst 1, 1) := by decide +kernel
theorem dX12_acts_97 : decode cX12_acts 97 = .ok (.iadd, 1) := by decide +kernel
theorem dX12_acts_98 : decode cX12_acts 98 = .ok (.putfield 277, 3) := by decide +kernel
theorem dX12_acts_101 : decode cX12_acts 101 = .ok (.return_, 1) := by decide +kernel
theorem dX12_thereMany_0 : decode cX12_thereMany 0 = .ok (.iconst 0, 1) := by decide +kernel
theorem dX12_thereMany_1 : decode cX12_thereMany 1 = .ok (.istore_n 1, 1) := by decide +kernel
theorem dX12_thereMany_2 : decode cX12_thereMany 2 = .ok (.iconst 0, 1) := by decide +kernel
theorem dX12_thereMany_3 : decode cX12_thereMany 3 = .ok (.istore_n 2, 1) := by decide +kernel
theorem dX12_thereMany_4 : decode cX12_thereMany 4 = .ok (.iload_n 2, 1) := by decide +kernel
theorem dX12_thereMany_5 : decode cX12_thereMany 5 = .ok (.bipush 64, 2) := by decide +kernel
theorem dX12_thereMany_7 : decode cX12_thereMany 7 = .ok (.if_icmp .ge 29, 3) := by decide +kernel
theorem dX12_thereMany_10 : decode cX12_thereMany 10 = .ok (.iload_n 1, 1) := by decide +kernel
theorem dX12_thereMany_11 : decode cX12_thereMany 11 = .ok (.aload_n 0, 1) := by decide +kernel
theorem dX12_thereMany_12 : decode cX12_thereMany 12 = .ok (.aload_n 0, 1) := by decide +kernel
theorem dX12_thereMany_13 : decode cX12_thereMany 13 = .ok (.getfield 277, 3) := by decide +kernel
theorem dX12_thereMany_16 : decode cX12_thereMany 16 = .ok (.iload_n 2, 1) := by decide +kernel
theorem dX12_thereMany_17 : decode cX12_thereMany 17 = .ok (.invokevirtual 305, 3) := by decide +kernel
theorem dX12_thereMany_20 : decode cX12_thereMany 20 = .ok (.ifCond .eq 7, 3) := by decide +kernel
theorem dX12_thereMany_23 : decode cX12_thereMany 23 = .ok (.iconst 1, 1) := by decide +kernel
theorem dX12_thereMany_24 : decode cX12_thereMany 24 = .ok (.goto 4, 3) := by decide +kernel
theorem dX12_thereMany_27 : decode cX12_thereMany 27 = .ok (.iconst 0, 1) := by decide +kernel
theorem dX12_thereMany_28 : decode cX12_thereMany 28 = .ok (.iadd, 1) := by decide +kernel
theorem dX12_thereMany_29 : decode cX12_thereMany 29 = .ok (.istore_n 1, 1) := by decide +kernel
theorem dX12_thereMany_30 : decode cX12_thereMany 30 = .ok (.iinc 2 1, 3) := by decide +kernel
theorem dX12_thereMany_33 : decode cX12_thereMany 33 = .ok (.goto (-29), 3) := by decide +kernel
theorem dX12_thereMany_36 : decode cX12_thereMany 36 = .ok (.iload_n 1, 1) := by decide +kernel
theorem dX12_thereMany_37 : decode cX12_thereMany 37 = .ok (.ireturn, 1) := by decide +kernel
theorem dX12_isColumn_0 : decode cX12_isColumn 0 = .ok (.aload_n 0, 1) := by decide +kernel
theorem dX12_isColumn_1 : decode cX12_isColumn 1 = .ok (.getfield 296, 3) := by decide +kernel
theorem dX12_isColumn_4 : decode cX12_isColumn 4 = .ok (.ifCond .eq 23, 3) := by decide +kernel
theorem dX12_isColumn_7 : decode cX12_isColumn 7 = .ok (.iload_n 1, 1) := by decide +kernel
theorem dX12_isColumn_8 : decode cX12_isColumn 8 = .ok (.i2l, 1) := by decide +kernel
theorem dX12_isColumn_9 : decode cX12_isColumn 9 = .ok (.lconst 0, 1) := by decide +kernel
theorem dX12_isColumn_10 : decode cX12_isColumn 10 = .ok (.aload_n 0, 1) := by decide +kernel
theorem dX12_isColumn_11 : decode cX12_isColumn 11 = .ok (.getfield 271, 3) := by decide +kernel
theorem dX12_isColumn_14 : decode cX12_isColumn 14 = .ok (.iconst 1, 1) := by decide +kernel
theorem dX12_isColumn_15 : decode cX12_isColumn 15 = .ok (.isub, 1) := by decide +kernel
theorem dX12_isColumn_16 : decode cX12_isColumn 16 = .ok (.i2l, 1) := by decide +kernel
theorem dX12_isColumn_17 : decode cX12_isColumn 17 = .ok (.invokestatic 159, 3) := by decide +kernel
theorem dX12_isColumn_20 : decode cX12_isColumn 20 = .ok (.ifCond .eq 7, 3) := by decide +kernel
theorem dX12_isColumn_23 : decode cX12_isColumn 23 = .ok (.iconst 1, 1) := by decide +kernel
theorem dX12_isColumn_24 : decode cX12_isColumn 24 = .ok (.goto 4, 3) := by decide +kernel
theorem dX12_isColumn_27 : decode cX12_isColumn 27 = .ok (.iconst 0, 1) := by decide +kernel
theorem dX12_isColumn_28 : decode cX12_isColumn 28 = .ok (.ireturn, 1) := by decide +kernel
theorem dX12_about_0 : decode cX12_about 0 = .ok (.aload_n 0, 1) := by decide +kernel
theorem dX12_about_1 : decode cX12_about 1 = .ok (.aload_n 0, 1) := by decide +kernel
theorem dX12_about_2 : decode cX12_about 2 = .ok (.getfield 296, 3) := by decide +kernel
theorem dX12_about_5 : decode cX12_about 5 = .ok (.invokestatic 312, 3) := by decide +kernel
theorem dX12_about_8 : decode cX12_about 8 = .ok (.invokevirtual 256, 3) := by decide +kernel
theorem dX12_about_11 : decode cX12_about 11 = .ok (.ifCond .eq 5, 3) := by decide +kernel
theorem dX12_about_14 : decode cX12_about 14 = .ok (.iconst (-1), 1) := by decide +kernel
theorem dX12_about_15 : decode cX12_about 15 = .ok (.ireturn, 1) := by decide +kernel
theorem dX12_about_16 : decode cX12_about 16 = .ok (.iload_n 1, 1) := by decide +kernel
theorem dX12_about_17 : decode cX12_about 17 = .ok (.tableswitch 82 0 6 #[43, 48, 53, 58, 63, 68, 77], 43) := by decide +kernel
theorem dX12_about_60 : decode cX12_about 60 = .ok (.aload_n 0, 1) := by decide +kernel
theorem dX12_about_61 : decode cX12_about 61 = .ok (.getfield 271, 3) := by decide +kernel
theorem dX12_about_64 : decode cX12_about 64 = .ok (.ireturn, 1) := by decide +kernel
theorem dX12_about_65 : decode cX12_about 65 = .ok (.aload_n 0, 1) := by decide +kernel
theorem dX12_about_66 : decode cX12_about 66 = .ok (.getfield 274, 3) := by decide +kernel
theorem dX12_about_69 : decode cX12_about 69 = .ok (.ireturn, 1) := by decide +kernel
theorem dX12_about_70 : decode cX12_about 70 = .ok (.aload_n 0, 1) := by decide +kernel
theorem dX12_about_71 : decode cX12_about 71 = .ok (.invokevirtual 316, 3) := by decide +kernel
theorem dX12_about_74 : decode cX12_about 74 = .ok (.ireturn, 1) := by decide +kernel
theorem dX12_about_75 : decode cX12_about 75 = .ok (.aload_n 0, 1) := by decide +kernel
theorem dX12_about_76 : decode cX12_about 76 = .ok (.getfield 283, 3) := by decide +kernel
theorem dX12_about_79 : decode cX12_about 79 = .ok (.ireturn, 1) := by decide +kernel
theorem dX12_about_80 : decode cX12_about 80 = .ok (.aload_n 0, 1) := by decide +kernel
theorem dX12_about_81 : decode cX12_about 81 = .ok (.getfield 277, 3) := by decide +kernel
theorem dX12_about_84 : decode cX12_about 84 = .ok (.ireturn, 1) := by decide +kernel
theorem dX12_about_85 : decode cX12_about 85 = .ok (.aload_n 0, 1) := by decide +kernel
theorem dX12_about_86 : decode cX12_about 86 = .ok (.getfield 280, 3) := by decide +kernel
theorem dX12_about_89 : decode cX12_about 89 = .ok (.sipush 256, 3) := by decide +kernel
theorem dX12_about_92 : decode cX12_about 92 = .ok (.irem, 1) := by decide +kernel
theorem dX12_about_93 : decode cX12_about 93 = .ok (.ireturn, 1) := by decide +kernel
theorem dX12_about_94 : decode cX12_about 94 = .ok (.aload_n 0, 1) := by decide +kernel
theorem dX12_about_95 : decode cX12_about 95 = .ok (.invokevirtual 309, 3) := by decide +kernel
theorem dX12_about_98 : decode cX12_about 98 = .ok (.ireturn, 1) := by decide +kernel
theorem dX12_about_99 : decode cX12_about 99 = .ok (.aload_n 0, 1) := by decide +kernel
theorem dX12_about_100 : decode cX12_about 100 = .ok (.iconst 1, 1) := by decide +kernel
theorem dX12_about_101 : decode cX12_about 101 = .ok (.invokevirtual 265, 3) := by decide +kernel
theorem dX12_about_104 : decode cX12_about 104 = .ok (.ireturn, 1) := by decide +kernel
theorem dX12_kind_0 : decode cX12_kind 0 = .ok (.aload_n 0, 1) := by decide +kernel
theorem dX12_kind_1 : decode cX12_kind 1 = .ok (.aload_n 0, 1) := by decide +kernel
theorem dX12_kind_2 : decode cX12_kind 2 = .ok (.iload_n 1, 1) := by decide +kernel
theorem dX12_kind_3 : decode cX12_kind 3 = .ok (.invokevirtual 319, 3) := by decide +kernel
theorem dX12_kind_6 : decode cX12_kind 6 = .ok (.invokestatic 312, 3) := by decide +kernel
theorem dX12_kind_9 : decode cX12_kind 9 = .ok (.invokevirtual 256, 3) := by decide +kernel
theorem dX12_kind_12 : decode cX12_kind 12 = .ok (.ifCond .eq 7, 3) := by decide +kernel
theorem dX12_kind_15 : decode cX12_kind 15 = .ok (.iconst (-1), 1) := by decide +kernel
theorem dX12_kind_16 : decode cX12_kind 16 = .ok (.goto 17, 3) := by decide +kernel
theorem dX12_kind_19 : decode cX12_kind 19 = .ok (.aload_n 0, 1) := by decide +kernel
theorem dX12_kind_20 : decode cX12_kind 20 = .ok (.getfield 19, 3) := by decide +kernel
theorem dX12_kind_23 : decode cX12_kind 23 = .ok (.iload_n 1, 1) := by decide +kernel
theorem dX12_kind_24 : decode cX12_kind 24 = .ok (.baload, 1) := by decide +kernel
theorem dX12_kind_25 : decode cX12_kind 25 = .ok (.ifCond .eq 7, 3) := by decide +kernel
theorem dX12_kind_28 : decode cX12_kind 28 = .ok (.iconst 1, 1) := by decide +kernel
theorem dX12_kind_29 : decode cX12_kind 29 = .ok (.goto 4, 3) := by decide +kernel
theorem dX12_kind_32 : decode cX12_kind 32 = .ok (.iconst 0, 1) := by decide +kernel
theorem dX12_kind_33 : decode cX12_kind 33 = .ok (.ireturn, 1) := by decide +kernel
theorem dX12_orderAt_0 : decode cX12_orderAt 0 = .ok (.aload_n 0, 1) := by decide +kernel
theorem dX12_orderAt_1 : decode cX12_orderAt 1 = .ok (.aload_n 0, 1) := by decide +kernel
theorem dX12_orderAt_2 : decode cX12_orderAt 2 = .ok (.getfield 296, 3) := by decide +kernel
theorem dX12_orderAt_5 : decode cX12_orderAt 5 = .ok (.ifCond .eq 35, 3) := by decide +kernel
theorem dX12_orderAt_8 : decode cX12_orderAt 8 = .ok (.iload_n 1, 1) := by decide +kernel
theorem dX12_orderAt_9 : decode cX12_orderAt 9 = .ok (.i2l, 1) := by decide +kernel
theorem dX12_orderAt_10 : decode cX12_orderAt 10 = .ok (.lconst 0, 1) := by decide +kernel
theorem dX12_orderAt_11 : decode cX12_orderAt 11 = .ok (.aload_n 0, 1) := by decide +kernel
theorem dX12_orderAt_12 : decode cX12_orderAt 12 = .ok (.getfield 274, 3) := by decide +kernel
theorem dX12_orderAt_15 : decode cX12_orderAt 15 = .ok (.iconst 1, 1) := by decide +kernel
theorem dX12_orderAt_16 : decode cX12_orderAt 16 = .ok (.isub, 1) := by decide +kernel
theorem dX12_orderAt_17 : decode cX12_orderAt 17 = .ok (.i2l, 1) := by decide +kernel
theorem dX12_orderAt_18 : decode cX12_orderAt 18 = .ok (.invokestatic 159, 3) := by decide +kernel
theorem dX12_orderAt_21 : decode cX12_orderAt 21 = .ok (.ifCond .eq 19, 3) := by decide +kernel
theorem dX12_orderAt_24 : decode cX12_orderAt 24 = .ok (.iload_n 2, 1) := by decide +kernel
theorem dX12_orderAt_25 : decode cX12_orderAt 25 = .ok (.i2l, 1) := by decide +kernel
theorem dX12_orderAt_26 : decode cX12_orderAt 26 = .ok (.lconst 0, 1) := by decide +kernel
theorem dX12_orderAt_27 : decode cX12_orderAt 27 = .ok (.ldc2_w 322, 3) := by decide +kernel
theorem dX12_orderAt_30 : decode cX12_orderAt 30 = .ok (.invokestatic 159, 3) := by decide +kernel
theorem dX12_orderAt_33 : decode cX12_orderAt 33 = .ok (.ifCond .eq 7, 3) := by decide +kernel
theorem dX12_orderAt_36 : decode cX12_orderAt 36 = .ok (.iconst 1, 1) := by decide +kernel
theorem dX12_orderAt_37 : decode cX12_orderAt 37 = .ok (.goto 4, 3) := by decide +kernel
theorem dX12_orderAt_40 : decode cX12_orderAt 40 = .ok (.iconst 0, 1) := by decide +kernel
theorem dX12_orderAt_41 : decode cX12_orderAt 41 = .ok (.invokestatic 312, 3) := by decide +kernel
theorem dX12_orderAt_44 : decode cX12_orderAt 44 = .ok (.invokevirtual 256, 3) := by decide +kernel
theorem dX12_orderAt_47 : decode cX12_orderAt 47 = .ok (.ifCond .eq 5, 3) := by decide +kernel
theorem dX12_orderAt_50 : decode cX12_orderAt 50 = .ok (.iconst (-1), 1) := by decide +kernel
theorem dX12_orderAt_51 : decode cX12_orderAt 51 = .ok (.ireturn, 1) := by decide +kernel
theorem dX12_orderAt_52 : decode cX12_orderAt 52 = .ok (.iload_n 2, 1) := by decide +kernel
theorem dX12_orderAt_53 : decode cX12_orderAt 53 = .ok (.ifCond .ne 12, 3) := by decide +kernel
theorem dX12_orderAt_56 : decode cX12_orderAt 56 = .ok (.aload_n 0, 1) := by decide +kernel
theorem dX12_orderAt_57 : decode cX12_orderAt 57 = .ok (.getfield 23, 3) := by decide +kernel
theorem dX12_orderAt_60 : decode cX12_orderAt 60 = .ok (.iload_n 1, 1) := by decide +kernel
theorem dX12_orderAt_61 : decode cX12_orderAt 61 = .ok (.iaload, 1) := by decide +kernel
theorem dX12_orderAt_62 : decode cX12_orderAt 62 = .ok (.goto 34, 3) := by decide +kernel
theorem dX12_orderAt_65 : decode cX12_orderAt 65 = .ok (.iload_n 2, 1) := by decide +kernel
theorem dX12_orderAt_66 : decode cX12_orderAt 66 = .ok (.iconst 1, 1) := by decide +kernel
theorem dX12_orderAt_67 : decode cX12_orderAt 67 = .ok (.if_icmp .ne 15, 3) := by decide +kernel
theorem dX12_orderAt_70 : decode cX12_orderAt 70 = .ok (.aload_n 0, 1) := by decide +kernel
theorem dX12_orderAt_71 : decode cX12_orderAt 71 = .ok (.getfield 26, 3) := by decide +kernel
theorem dX12_orderAt_74 : decode cX12_orderAt 74 = .ok (.iload_n 1, 1) := by decide +kernel
theorem dX12_orderAt_75 : decode cX12_orderAt 75 = .ok (.baload, 1) := by decide +kernel
theorem dX12_orderAt_76 : decode cX12_orderAt 76 = .ok (.ifCond .eq 19, 3) := by decide +kernel
theorem dX12_orderAt_79 : decode cX12_orderAt 79 = .ok (.goto 12, 3) := by decide +kernel
theorem dX12_orderAt_82 : decode cX12_orderAt 82 = .ok (.aload_n 0, 1) := by decide +kernel
theorem dX12_orderAt_83 : decode cX12_orderAt 83 = .ok (.getfield 29, 3) := by decide +kernel
theorem dX12_orderAt_86 : decode cX12_orderAt 86 = .ok (.iload_n 1, 1) := by decide +kernel
theorem dX12_orderAt_87 : decode cX12_orderAt 87 = .ok (.baload, 1) := by decide +kernel
theorem dX12_orderAt_88 : decode cX12_orderAt 88 = .ok (.ifCond .eq 7, 3) := by decide +kernel
theorem dX12_orderAt_91 : decode cX12_orderAt 91 = .ok (.iconst 1, 1) := by decide +kernel
theorem dX12_orderAt_92 : decode cX12_orderAt 92 = .ok (.goto 4, 3) := by decide +kernel
theorem dX12_orderAt_95 : decode cX12_orderAt 95 = .ok (.iconst 0, 1) := by decide +kernel
theorem dX12_orderAt_96 : decode cX12_orderAt 96 = .ok (.ireturn, 1) := by decide +kernel
theorem dX12_value_0 : decode cX12_value 0 = .ok (.aload_n 0, 1) := by decide +kernel
theorem dX12_value_1 : decode cX12_value 1 = .ok (.aload_n 0, 1) := by decide +kernel
theorem dX12_value_2 : decode cX12_value 2 = .ok (.iload_n 1, 1) := by decide +kernel
theorem dX12_value_3 : decode cX12_value 3 = .ok (.invokevirtual 324, 3) := by decide +kernel
theorem dX12_value_6 : decode cX12_value 6 = .ok (.ifCond .eq 15, 3) := by decide +kernel
theorem dX12_value_9 : decode cX12_value 9 = .ok (.aload_n 0, 1) := by decide +kernel
theorem dX12_value_10 : decode cX12_value 10 = .ok (.iload_n 2, 1) := by decide +kernel
theorem dX12_value_11 : decode cX12_value 11 = .ok (.invokevirtual 319, 3) := by decide +kernel
theorem dX12_value_14 : decode cX12_value 14 = .ok (.ifCond .eq 7, 3) := by decide +kernel
theorem dX12_value_17 : decode cX12_value 17 = .ok (.iconst 1, 1) := by decide +kernel
theorem dX12_value_18 : decode cX12_value 18 = .ok (.goto 4, 3) := by decide +kernel
theorem dX12_value_21 : decode cX12_value 21 = .ok (.iconst 0, 1) := by decide +kernel
theorem dX12_value_22 : decode cX12_value 22 = .ok (.invokestatic 312, 3) := by decide +kernel
theorem dX12_value_25 : decode cX12_value 25 = .ok (.invokevirtual 256, 3) := by decide +kernel
theorem dX12_value_28 : decode cX12_value 28 = .ok (.ifCond .eq 9, 3) := by decide +kernel
theorem dX12_value_31 : decode cX12_value 31 = .ok (.ldc2_w 229, 3) := by decide +kernel
theorem dX12_value_34 : decode cX12_value 34 = .ok (.goto 13, 3) := by decide +kernel
theorem dX12_value_37 : decode cX12_value 37 = .ok (.aload_n 0, 1) := by decide +kernel
theorem dX12_value_38 : decode cX12_value 38 = .ok (.aload_n 0, 1) := by decide +kernel
theorem dX12_value_39 : decode cX12_value 39 = .ok (.getfield 277, 3) := by decide +kernel
theorem dX12_value_42 : decode cX12_value 42 = .ok (.iload_n 1, 1) := by decide +kernel
theorem dX12_value_43 : decode cX12_value 43 = .ok (.iload_n 2, 1) := by decide +kernel
theorem dX12_value_44 : decode cX12_value 44 = .ok (.invokevirtual 327, 3) := by decide +kernel
theorem dX12_value_47 : decode cX12_value 47 = .ok (.lreturn, 1) := by decide +kernel
theorem dX12_was_0 : decode cX12_was 0 = .ok (.aload_n 0, 1) := by decide +kernel
theorem dX12_was_1 : decode cX12_was 1 = .ok (.aload_n 0, 1) := by decide +kernel
theorem dX12_was_2 : decode cX12_was 2 = .ok (.getfield 296, 3) := by decide +kernel
theorem dX12_was_5 : decode cX12_was 5 = .ok (.ifCond .ne 7, 3) := by decide +kernel
theorem dX12_was_8 : decode cX12_was 8 = .ok (.iconst 1, 1) := by decide +kernel
theorem dX12_was_9 : decode cX12_was 9 = .ok (.goto 41, 3) := by decide +kernel
theorem dX12_was_12 : decode cX12_was 12 = .ok (.aload_n 0, 1) := by decide +kernel
theorem dX12_was_13 : decode cX12_was 13 = .ok (.iload_n 1, 1) := by decide +kernel
theorem dX12_was_14 : decode cX12_was 14 = .ok (.invokevirtual 331, 3) := by decide +kernel
theorem dX12_was_17 : decode cX12_was 17 = .ok (.ifCond .ne 8, 3) := by decide +kernel
theorem dX12_was_20 : decode cX12_was 20 = .ok (.bipush 8, 2) := by decide +kernel
theorem dX12_was_22 : decode cX12_was 22 = .ok (.goto 28, 3) := by decide +kernel
theorem dX12_was_25 : decode cX12_was 25 = .ok (.aload_n 0, 1) := by decide +kernel
theorem dX12_was_26 : decode cX12_was 26 = .ok (.iload_n 1, 1) := by decide +kernel
theorem dX12_was_27 : decode cX12_was 27 = .ok (.iload_n 2, 1) := by decide +kernel
theorem dX12_was_28 : decode cX12_was 28 = .ok (.invokevirtual 305, 3) := by decide +kernel
theorem dX12_was_31 : decode cX12_was 31 = .ok (.ifCond .eq 15, 3) := by decide +kernel
theorem dX12_was_34 : decode cX12_was 34 = .ok (.aload_n 0, 1) := by decide +kernel
theorem dX12_was_35 : decode cX12_was 35 = .ok (.iload_n 3, 1) := by decide +kernel
theorem dX12_was_36 : decode cX12_was 36 = .ok (.invokevirtual 319, 3) := by decide +kernel
theorem dX12_was_39 : decode cX12_was 39 = .ok (.ifCond .eq 7, 3) := by decide +kernel
theorem dX12_was_42 : decode cX12_was 42 = .ok (.iconst 1, 1) := by decide +kernel
theorem dX12_was_43 : decode cX12_was 43 = .ok (.goto 4, 3) := by decide +kernel
theorem dX12_was_46 : decode cX12_was 46 = .ok (.iconst 0, 1) := by decide +kernel
theorem dX12_was_47 : decode cX12_was 47 = .ok (.invokestatic 312, 3) := by decide +kernel
theorem dX12_was_50 : decode cX12_was 50 = .ok (.invokevirtual 256, 3) := by decide +kernel
theorem dX12_was_53 : decode cX12_was 53 = .ok (.ifCond .eq 7, 3) := by decide +kernel
theorem dX12_was_56 : decode cX12_was 56 = .ok (.ldc2_w 229, 3) := by decide +kernel
theorem dX12_was_59 : decode cX12_was 59 = .ok (.lreturn, 1) := by decide +kernel
theorem dX12_was_60 : decode cX12_was 60 = .ok (.aload_n 0, 1) := by decide +kernel
theorem dX12_was_61 : decode cX12_was 61 = .ok (.iload_n 1, 1) := by decide +kernel
theorem dX12_was_62 : decode cX12_was 62 = .ok (.iload_n 2, 1) := by decide +kernel
theorem dX12_was_63 : decode cX12_was 63 = .ok (.iload_n 3, 1) := by decide +kernel
theorem dX12_was_64 : decode cX12_was 64 = .ok (.invokevirtual 327, 3) := by decide +kernel
theorem dX12_was_67 : decode cX12_was 67 = .ok (.lreturn, 1) := by decide +kernel
theorem dX12_laysByte_0 : decode cX12_laysByte 0 = .ok (.aload_n 0, 1) := by decide +kernel
theorem dX12_laysByte_1 : decode cX12_laysByte 1 = .ok (.getfield 60, 3) := by decide +kernel
theorem dX12_laysByte_4 : decode cX12_laysByte 4 = .ok (.aload_n 0, 1) := by decide +kernel
theorem dX12_laysByte_5 : decode cX12_laysByte 5 = .ok (.getfield 334, 3) := by decide +kernel
theorem dX12_laysByte_8 : decode cX12_laysByte 8 = .ok (.iload_n 2, 1) := by decide +kernel
theorem dX12_laysByte_9 : decode cX12_laysByte 9 = .ok (.ifCond .eq 11, 3) := by decide +kernel
theorem dX12_laysByte_12 : decode cX12_laysByte 12 = .ok (.sipush 255, 3) := by decide +kernel
theorem dX12_laysByte_15 : decode cX12_laysByte 15 = .ok (.iload_n 1, 1) := by decide +kernel
theorem dX12_laysByte_16 : decode cX12_laysByte 16 = .ok (.isub, 1) := by decide +kernel
theorem dX12_laysByte_17 : decode cX12_laysByte 17 = .ok (.goto 4, 3) := by decide +kernel
theorem dX12_laysByte_20 : decode cX12_laysByte 20 = .ok (.iload_n 1, 1) := by decide +kernel
theorem dX12_laysByte_21 : decode cX12_laysByte 21 = .ok (.iastore, 1) := by decide +kernel
theorem dX12_laysByte_22 : decode cX12_laysByte 22 = .ok (.aload_n 0, 1) := by decide +kernel
theorem dX12_laysByte_23 : decode cX12_laysByte 23 = .ok (.dup, 1) := by decide +kernel
theorem dX12_laysByte_24 : decode cX12_laysByte 24 = .ok (.getfield 334, 3) := by decide +kernel
theorem dX12_laysByte_27 : decode cX12_laysByte 27 = .ok (.iconst 1, 1) := by decide +kernel
theorem dX12_laysByte_28 : decode cX12_laysByte 28 = .ok (.iadd, 1) := by decide +kernel
theorem dX12_laysByte_29 : decode cX12_laysByte 29 = .ok (.putfield 334, 3) := by decide +kernel
theorem dX12_laysByte_32 : decode cX12_laysByte 32 = .ok (.return_, 1) := by decide +kernel
theorem dX12_laysPart_0 : decode cX12_laysPart 0 = .ok (.lload_n 2, 1) := by decide +kernel
theorem dX12_laysPart_1 : decode cX12_laysPart 1 = .ok (.ldc2_w 229, 3) := by decide +kernel
theorem dX12_laysPart_4 : decode cX12_laysPart 4 = .ok (.lcmp, 1) := by decide +kernel
theorem dX12_laysPart_5 : decode cX12_laysPart 5 = .ok (.ifCond .ne 23, 3) := by decide +kernel
theorem dX12_laysPart_8 : decode cX12_laysPart 8 = .ok (.aload_n 0, 1) := by decide +kernel
theorem dX12_laysPart_9 : decode cX12_laysPart 9 = .ok (.aload_n 0, 1) := by decide +kernel
theorem dX12_laysPart_10 : decode cX12_laysPart 10 = .ok (.getfield 29, 3) := by decide +kernel
theorem dX12_laysPart_13 : decode cX12_laysPart 13 = .ok (.iload_n 1, 1) := by decide +kernel
theorem dX12_laysPart_14 : decode cX12_laysPart 14 = .ok (.baload, 1) := by decide +kernel
theorem dX12_laysPart_15 : decode cX12_laysPart 15 = .ok (.ifCond .eq 7, 3) := by decide +kernel
theorem dX12_laysPart_18 : decode cX12_laysPart 18 = .ok (.iconst 0, 1) := by decide +kernel
theorem dX12_laysPart_19 : decode cX12_laysPart 19 = .ok (.goto 4, 3) := by decide +kernel
theorem dX12_laysPart_22 : decode cX12_laysPart 22 = .ok (.iconst 2, 1) := by decide +kernel
theorem dX12_laysPart_23 : decode cX12_laysPart 23 = .ok (.iconst 0, 1) := by decide +kernel
theorem dX12_laysPart_24 : decode cX12_laysPart 24 = .ok (.invokevirtual 337, 3) := by decide +kernel
theorem dX12_laysPart_27 : decode cX12_laysPart 27 = .ok (.return_, 1) := by decide +kernel
theorem dX12_laysPart_28 : decode cX12_laysPart 28 = .ok (.aload_n 0, 1) := by decide +kernel
theorem dX12_laysPart_29 : decode cX12_laysPart 29 = .ok (.iconst 1, 1) := by decide +kernel
theorem dX12_laysPart_30 : decode cX12_laysPart 30 = .ok (.iconst 0, 1) := by decide +kernel
theorem dX12_laysPart_31 : decode cX12_laysPart 31 = .ok (.invokevirtual 337, 3) := by decide +kernel
theorem dX12_laysPart_34 : decode cX12_laysPart 34 = .ok (.aload_n 0, 1) := by decide +kernel
theorem dX12_laysPart_35 : decode cX12_laysPart 35 = .ok (.getfield 19, 3) := by decide +kernel
theorem dX12_laysPart_38 : decode cX12_laysPart 38 = .ok (.aload_n 0, 1) := by decide +kernel
theorem dX12_laysPart_39 : decode cX12_laysPart 39 = .ok (.getfield 23, 3) := by decide +kernel
theorem dX12_laysPart_42 : decode cX12_laysPart 42 = .ok (.iload_n 1, 1) := by decide +kernel
theorem dX12_laysPart_43 : decode cX12_laysPart 43 = .ok (.iaload, 1) := by decide +kernel
theorem dX12_laysPart_44 : decode cX12_laysPart 44 = .ok (.baload, 1) := by decide +kernel
theorem dX12_laysPart_45 : decode cX12_laysPart 45 = .ok (.ifCond .ne 44, 3) := by decide +kernel
theorem dX12_laysPart_48 : decode cX12_laysPart 48 = .ok (.lload_n 2, 1) := by decide +kernel
theorem dX12_laysPart_49 : decode cX12_laysPart 49 = .ok (.l2i, 1) := by decide +kernel
theorem dX12_laysPart_50 : decode cX12_laysPart 50 = .ok (.ldc_w 341, 3) := by decide +kernel
theorem dX12_laysPart_53 : decode cX12_laysPart 53 = .ok (.iadd, 1) := by decide +kernel
theorem dX12_laysPart_54 : decode cX12_laysPart 54 = .ok (.istore 4, 2) := by decide +kernel
theorem dX12_laysPart_56 : decode cX12_laysPart 56 = .ok (.aload_n 0, 1) := by decide +kernel
theorem dX12_laysPart_57 : decode cX12_laysPart 57 = .ok (.iload 4, 2) := by decide +kernel
theorem dX12_laysPart_59 : decode cX12_laysPart 59 = .ok (.sipush 256, 3) := by decide +kernel
theorem dX12_laysPart_62 : decode cX12_laysPart 62 = .ok (.idiv, 1) := by decide +kernel
theorem dX12_laysPart_63 : decode cX12_laysPart 63 = .ok (.aload_n 0, 1) := by decide +kernel
theorem dX12_laysPart_64 : decode cX12_laysPart 64 = .ok (.getfield 26, 3) := by decide +kernel
theorem dX12_laysPart_67 : decode cX12_laysPart 67 = .ok (.iload_n 1, 1) := by decide +kernel
theorem dX12_laysPart_68 : decode cX12_laysPart 68 = .ok (.baload, 1) := by decide +kernel
theorem dX12_laysPart_69 : decode cX12_laysPart 69 = .ok (.invokevirtual 337, 3) := by decide +kernel
theorem dX12_laysPart_72 : decode cX12_laysPart 72 = .ok (.aload_n 0, 1) := by decide +kernel
theorem dX12_laysPart_73 : decode cX12_laysPart 73 = .ok (.iload 4, 2) := by decide +kernel
theorem dX12_laysPart_75 : decode cX12_laysPart 75 = .ok (.sipush 256, 3) := by decide +kernel
theorem dX12_laysPart_78 : decode cX12_laysPart 78 = .ok (.irem, 1) := by decide +kernel
theorem dX12_laysPart_79 : decode cX12_laysPart 79 = .ok (.aload_n 0, 1) := by decide +kernel
theorem dX12_laysPart_80 : decode cX12_laysPart 80 = .ok (.getfield 26, 3) := by decide +kernel
theorem dX12_laysPart_83 : decode cX12_laysPart 83 = .ok (.iload_n 1, 1) := by decide +kernel
theorem dX12_laysPart_84 : decode cX12_laysPart 84 = .ok (.baload, 1) := by decide +kernel
theorem dX12_laysPart_85 : decode cX12_laysPart 85 = .ok (.invokevirtual 337, 3) := by decide +kernel
theorem dX12_laysPart_88 : decode cX12_laysPart 88 = .ok (.return_, 1) := by decide +kernel
theorem dX12_laysPart_89 : decode cX12_laysPart 89 = .ok (.bipush 40, 2) := by decide +kernel
theorem dX12_laysPart_91 : decode cX12_laysPart 91 = .ok (.istore 4, 2) := by decide +kernel
theorem dX12_laysPart_93 : decode cX12_laysPart 93 = .ok (.iload 4, 2) := by decide +kernel
theorem dX12_laysPart_95 : decode cX12_laysPart 95 = .ok (.ifCond .lt 37, 3) := by decide +kernel
theorem dX12_laysPart_98 : decode cX12_laysPart 98 = .ok (.lload_n 2, 1) := by decide +kernel
theorem dX12_laysPart_99 : decode cX12_laysPart 99 = .ok (.iload 4, 2) := by decide +kernel
theorem dX12_laysPart_101 : decode cX12_laysPart 101 = .ok (.lshr, 1) := by decide +kernel
theorem dX12_laysPart_102 : decode cX12_laysPart 102 = .ok (.ldc2_w 342, 3) := by decide +kernel
theorem dX12_laysPart_105 : decode cX12_laysPart 105 = .ok (.land, 1) := by decide +kernel
theorem dX12_laysPart_106 : decode cX12_laysPart 106 = .ok (.l2i, 1) := by decide +kernel
theorem dX12_laysPart_107 : decode cX12_laysPart 107 = .ok (.istore 5, 2) := by decide +kernel
theorem dX12_laysPart_109 : decode cX12_laysPart 109 = .ok (.iload 5, 2) := by decide +kernel
theorem dX12_laysPart_111 : decode cX12_laysPart 111 = .ok (.ifCond .le 15, 3) := by decide +kernel
theorem dX12_laysPart_114 : decode cX12_laysPart 114 = .ok (.aload_n 0, 1) := by decide +kernel
theorem dX12_laysPart_115 : decode cX12_laysPart 115 = .ok (.iload 5, 2) := by decide +kernel
theorem dX12_laysPart_117 : decode cX12_laysPart 117 = .ok (.aload_n 0, 1) := by decide +kernel
theorem dX12_laysPart_118 : decode cX12_laysPart 118 = .ok (.getfield 26, 3) := by decide +kernel
theorem dX12_laysPart_121 : decode cX12_laysPart 121 = .ok (.iload_n 1, 1) := by decide +kernel
theorem dX12_laysPart_122 : decode cX12_laysPart 122 = .ok (.baload, 1) := by decide +kernel
theorem dX12_laysPart_123 : decode cX12_laysPart 123 = .ok (.invokevirtual 337, 3) := by decide +kernel
theorem dX12_laysPart_126 : decode cX12_laysPart 126 = .ok (.iinc 4 (-8), 3) := by decide +kernel
theorem dX12_laysPart_129 : decode cX12_laysPart 129 = .ok (.goto (-36), 3) := by decide +kernel
theorem dX12_laysPart_132 : decode cX12_laysPart 132 = .ok (.aload_n 0, 1) := by decide +kernel
theorem dX12_laysPart_133 : decode cX12_laysPart 133 = .ok (.iconst 0, 1) := by decide +kernel
theorem dX12_laysPart_134 : decode cX12_laysPart 134 = .ok (.aload_n 0, 1) := by decide +kernel
theorem dX12_laysPart_135 : decode cX12_laysPart 135 = .ok (.getfield 26, 3) := by decide +kernel
theorem dX12_laysPart_138 : decode cX12_laysPart 138 = .ok (.iload_n 1, 1) := by decide +kernel
theorem dX12_laysPart_139 : decode cX12_laysPart 139 = .ok (.baload, 1) := by decide +kernel
theorem dX12_laysPart_140 : decode cX12_laysPart 140 = .ok (.invokevirtual 337, 3) := by decide +kernel
theorem dX12_laysPart_143 : decode cX12_laysPart 143 = .ok (.return_, 1) := by decide +kernel
theorem dX12_laysKey_0 : decode cX12_laysKey 0 = .ok (.aload_n 0, 1) := by decide +kernel
theorem dX12_laysKey_1 : decode cX12_laysKey 1 = .ok (.iconst 0, 1) := by decide +kernel
theorem dX12_laysKey_2 : decode cX12_laysKey 2 = .ok (.putfield 334, 3) := by decide +kernel
theorem dX12_laysKey_5 : decode cX12_laysKey 5 = .ok (.iconst 0, 1) := by decide +kernel
theorem dX12_laysKey_6 : decode cX12_laysKey 6 = .ok (.istore_n 3, 1) := by decide +kernel
theorem dX12_laysKey_7 : decode cX12_laysKey 7 = .ok (.iload_n 3, 1) := by decide +kernel
theorem dX12_laysKey_8 : decode cX12_laysKey 8 = .ok (.aload_n 0, 1) := by decide +kernel
theorem dX12_laysKey_9 : decode cX12_laysKey 9 = .ok (.getfield 274, 3) := by decide +kernel
theorem dX12_laysKey_12 : decode cX12_laysKey 12 = .ok (.if_icmp .ge 26, 3) := by decide +kernel
theorem dX12_laysKey_15 : decode cX12_laysKey 15 = .ok (.aload_n 0, 1) := by decide +kernel
theorem dX12_laysKey_16 : decode cX12_laysKey 16 = .ok (.iload_n 3, 1) := by decide +kernel
theorem dX12_laysKey_17 : decode cX12_laysKey 17 = .ok (.aload_n 0, 1) := by decide +kernel
theorem dX12_laysKey_18 : decode cX12_laysKey 18 = .ok (.iload_n 1, 1) := by decide +kernel
theorem dX12_laysKey_19 : decode cX12_laysKey 19 = .ok (.iload_n 2, 1) := by decide +kernel
theorem dX12_laysKey_20 : decode cX12_laysKey 20 = .ok (.aload_n 0, 1) := by decide +kernel
theorem dX12_laysKey_21 : decode cX12_laysKey 21 = .ok (.getfield 23, 3) := by decide +kernel
theorem dX12_laysKey_24 : decode cX12_laysKey 24 = .ok (.iload_n 3, 1) := by decide +kernel
theorem dX12_laysKey_25 : decode cX12_laysKey 25 = .ok (.iaload, 1) := by decide +kernel
theorem dX12_laysKey_26 : decode cX12_laysKey 26 = .ok (.invokevirtual 327, 3) := by decide +kernel
theorem dX12_laysKey_29 : decode cX12_laysKey 29 = .ok (.invokevirtual 344, 3) := by decide +kernel
theorem dX12_laysKey_32 : decode cX12_laysKey 32 = .ok (.iinc 3 1, 3) := by decide +kernel
theorem dX12_laysKey_35 : decode cX12_laysKey 35 = .ok (.goto (-28), 3) := by decide +kernel
theorem dX12_laysKey_38 : decode cX12_laysKey 38 = .ok (.aload_n 0, 1) := by decide +kernel
theorem dX12_laysKey_39 : decode cX12_laysKey 39 = .ok (.iconst 0, 1) := by decide +kernel
theorem dX12_laysKey_40 : decode cX12_laysKey 40 = .ok (.iconst 0, 1) := by decide +kernel
theorem dX12_laysKey_41 : decode cX12_laysKey 41 = .ok (.invokevirtual 337, 3) := by decide +kernel
theorem dX12_laysKey_44 : decode cX12_laysKey 44 = .ok (.aload_n 0, 1) := by decide +kernel
theorem dX12_laysKey_45 : decode cX12_laysKey 45 = .ok (.iload_n 2, 1) := by decide +kernel
theorem dX12_laysKey_46 : decode cX12_laysKey 46 = .ok (.iconst 0, 1) := by decide +kernel
theorem dX12_laysKey_47 : decode cX12_laysKey 47 = .ok (.invokevirtual 337, 3) := by decide +kernel
theorem dX12_laysKey_50 : decode cX12_laysKey 50 = .ok (.return_, 1) := by decide +kernel
theorem dX12_marks_0 : decode cX12_marks 0 = .ok (.aload_n 0, 1) := by decide +kernel
theorem dX12_marks_1 : decode cX12_marks 1 = .ok (.aload_n 0, 1) := by decide +kernel
theorem dX12_marks_2 : decode cX12_marks 2 = .ok (.getfield 334, 3) := by decide +kernel
theorem dX12_marks_5 : decode cX12_marks 5 = .ok (.putfield 348, 3) := by decide +kernel
theorem dX12_marks_8 : decode cX12_marks 8 = .ok (.iconst 0, 1) := by decide +kernel
theorem dX12_marks_9 : decode cX12_marks 9 = .ok (.istore_n 1, 1) := by decide +kernel
theorem dX12_marks_10 : decode cX12_marks 10 = .ok (.iload_n 1, 1) := by decide +kernel
theorem dX12_marks_11 : decode cX12_marks 11 = .ok (.aload_n 0, 1) := by decide +kernel
theorem dX12_marks_12 : decode cX12_marks 12 = .ok (.getfield 334, 3) := by decide +kernel
theorem dX12_marks_15 : decode cX12_marks 15 = .ok (.if_icmp .ge 21, 3) := by decide +kernel
theorem dX12_marks_18 : decode cX12_marks 18 = .ok (.aload_n 0, 1) := by decide +kernel
theorem dX12_marks_19 : decode cX12_marks 19 = .ok (.getfield 63, 3) := by decide +kernel
theorem dX12_marks_22 : decode cX12_marks 22 = .ok (.iload_n 1, 1) := by decide +kernel
theorem dX12_marks_23 : decode cX12_marks 23 = .ok (.aload_n 0, 1) := by decide +kernel
theorem dX12_marks_24 : decode cX12_marks 24 = .ok (.getfield 60, 3) := by decide +kernel
theorem dX12_marks_27 : decode cX12_marks 27 = .ok (.iload_n 1, 1) := by decide +kernel
theorem dX12_marks_28 : decode cX12_marks 28 = .ok (.iaload, 1) := by decide +kernel
theorem dX12_marks_29 : decode cX12_marks 29 = .ok (.iastore, 1) := by decide +kernel
theorem dX12_marks_30 : decode cX12_marks 30 = .ok (.iinc 1 1, 3) := by decide +kernel
theorem dX12_marks_33 : decode cX12_marks 33 = .ok (.goto (-23), 3) := by decide +kernel
theorem dX12_marks_36 : decode cX12_marks 36 = .ok (.return_, 1) := by decide +kernel
theorem dX12_compared_0 : decode cX12_compared 0 = .ok (.iconst 0, 1) := by decide +kernel
theorem dX12_compared_1 : decode cX12_compared 1 = .ok (.istore_n 1, 1) := by decide +kernel
theorem dX12_compared_2 : decode cX12_compared 2 = .ok (.iload_n 1, 1) := by decide +kernel
theorem dX12_compared_3 : decode cX12_compared 3 = .ok (.aload_n 0, 1) := by decide +kernel
theorem dX12_compared_4 : decode cX12_compared 4 = .ok (.getfield 334, 3) := by decide +kernel
theorem dX12_compared_7 : decode cX12_compared 7 = .ok (.if_icmp .ge 32, 3) := by decide +kernel
theorem dX12_compared_10 : decode cX12_compared 10 = .ok (.iload_n 1, 1) := by decide +kernel
theorem dX12_compared_11 : decode cX12_compared 11 = .ok (.aload_n 0, 1) := by decide +kernel
theorem dX12_compared_12 : decode cX12_compared 12 = .ok (.getfield 348, 3) := by decide +kernel
theorem dX12_compared_15 : decode cX12_compared 15 = .ok (.if_icmp .ge 24, 3) := by decide +kernel
theorem dX12_compared_18 : decode cX12_compared 18 = .ok (.aload_n 0, 1) := by decide +kernel
theorem dX12_compared_19 : decode cX12_compared 19 = .ok (.getfield 60, 3) := by decide +kernel
theorem dX12_compared_22 : decode cX12_compared 22 = .ok (.iload_n 1, 1) := by decide +kernel
theorem dX12_compared_23 : decode cX12_compared 23 = .ok (.iaload, 1) := by decide +kernel
theorem dX12_compared_24 : decode cX12_compared 24 = .ok (.aload_n 0, 1) := by decide +kernel
theorem dX12_compared_25 : decode cX12_compared 25 = .ok (.getfield 63, 3) := by decide +kernel
theorem dX12_compared_28 : decode cX12_compared 28 = .ok (.iload_n 1, 1) := by decide +kernel
theorem dX12_compared_29 : decode cX12_compared 29 = .ok (.iaload, 1) := by decide +kernel
theorem dX12_compared_30 : decode cX12_compared 30 = .ok (.if_icmp .ne 9, 3) := by decide +kernel
theorem dX12_compared_33 : decode cX12_compared 33 = .ok (.iinc 1 1, 3) := by decide +kernel
theorem dX12_compared_36 : decode cX12_compared 36 = .ok (.goto (-34), 3) := by decide +kernel
theorem dX12_compared_39 : decode cX12_compared 39 = .ok (.iload_n 1, 1) := by decide +kernel
theorem dX12_compared_40 : decode cX12_compared 40 = .ok (.aload_n 0, 1) := by decide +kernel
theorem dX12_compared_41 : decode cX12_compared 41 = .ok (.getfield 334, 3) := by decide +kernel
theorem dX12_compared_44 : decode cX12_compared 44 = .ok (.if_icmp .ge 27, 3) := by decide +kernel
theorem dX12_compared_47 : decode cX12_compared 47 = .ok (.iload_n 1, 1) := by decide +kernel
theorem dX12_compared_48 : decode cX12_compared 48 = .ok (.aload_n 0, 1) := by decide +kernel
theorem dX12_compared_49 : decode cX12_compared 49 = .ok (.getfield 348, 3) := by decide +kernel
theorem dX12_compared_52 : decode cX12_compared 52 = .ok (.if_icmp .ge 19, 3) := by decide +kernel
theorem dX12_compared_55 : decode cX12_compared 55 = .ok (.aload_n 0, 1) := by decide +kernel
theorem dX12_compared_56 : decode cX12_compared 56 = .ok (.getfield 60, 3) := by decide +kernel
theorem dX12_compared_59 : decode cX12_compared 59 = .ok (.iload_n 1, 1) := by decide +kernel
theorem dX12_compared_60 : decode cX12_compared 60 = .ok (.iaload, 1) := by decide +kernel
theorem dX12_compared_61 : decode cX12_compared 61 = .ok (.aload_n 0, 1) := by decide +kernel
theorem dX12_compared_62 : decode cX12_compared 62 = .ok (.getfield 63, 3) := by decide +kernel
theorem dX12_compared_65 : decode cX12_compared 65 = .ok (.iload_n 1, 1) := by decide +kernel
theorem dX12_compared_66 : decode cX12_compared 66 = .ok (.iaload, 1) := by decide +kernel
theorem dX12_compared_67 : decode cX12_compared 67 = .ok (.isub, 1) := by decide +kernel
theorem dX12_compared_68 : decode cX12_compared 68 = .ok (.goto 12, 3) := by decide +kernel
theorem dX12_compared_71 : decode cX12_compared 71 = .ok (.aload_n 0, 1) := by decide +kernel
theorem dX12_compared_72 : decode cX12_compared 72 = .ok (.getfield 334, 3) := by decide +kernel
theorem dX12_compared_75 : decode cX12_compared 75 = .ok (.aload_n 0, 1) := by decide +kernel
theorem dX12_compared_76 : decode cX12_compared 76 = .ok (.getfield 348, 3) := by decide +kernel
theorem dX12_compared_79 : decode cX12_compared 79 = .ok (.isub, 1) := by decide +kernel
theorem dX12_compared_80 : decode cX12_compared 80 = .ok (.ireturn, 1) := by decide +kernel
theorem dX12_keySize_0 : decode cX12_keySize 0 = .ok (.aload_n 0, 1) := by decide +kernel
theorem dX12_keySize_1 : decode cX12_keySize 1 = .ok (.aload_n 0, 1) := by decide +kernel
theorem dX12_keySize_2 : decode cX12_keySize 2 = .ok (.iload_n 1, 1) := by decide +kernel
theorem dX12_keySize_3 : decode cX12_keySize 3 = .ok (.invokevirtual 324, 3) := by decide +kernel
theorem dX12_keySize_6 : decode cX12_keySize 6 = .ok (.invokestatic 312, 3) := by decide +kernel
theorem dX12_keySize_9 : decode cX12_keySize 9 = .ok (.invokevirtual 256, 3) := by decide +kernel
theorem dX12_keySize_12 : decode cX12_keySize 12 = .ok (.ifCond .eq 5, 3) := by decide +kernel
theorem dX12_keySize_15 : decode cX12_keySize 15 = .ok (.iconst (-1), 1) := by decide +kernel
theorem dX12_keySize_16 : decode cX12_keySize 16 = .ok (.ireturn, 1) := by decide +kernel
theorem dX12_keySize_17 : decode cX12_keySize 17 = .ok (.aload_n 0, 1) := by decide +kernel
theorem dX12_keySize_18 : decode cX12_keySize 18 = .ok (.aload_n 0, 1) := by decide +kernel
theorem dX12_keySize_19 : decode cX12_keySize 19 = .ok (.getfield 277, 3) := by decide +kernel
theorem dX12_keySize_22 : decode cX12_keySize 22 = .ok (.iload_n 1, 1) := by decide +kernel
theorem dX12_keySize_23 : decode cX12_keySize 23 = .ok (.invokevirtual 351, 3) := by decide +kernel
theorem dX12_keySize_26 : decode cX12_keySize 26 = .ok (.aload_n 0, 1) := by decide +kernel
theorem dX12_keySize_27 : decode cX12_keySize 27 = .ok (.getfield 334, 3) := by decide +kernel
theorem dX12_keySize_30 : decode cX12_keySize 30 = .ok (.ireturn, 1) := by decide +kernel
theorem dX12_keyByte_0 : decode cX12_keyByte 0 = .ok (.aload_n 0, 1) := by decide +kernel
theorem dX12_keyByte_1 : decode cX12_keyByte 1 = .ok (.aload_n 0, 1) := by decide +kernel
theorem dX12_keyByte_2 : decode cX12_keyByte 2 = .ok (.iload_n 1, 1) := by decide +kernel
theorem dX12_keyByte_3 : decode cX12_keyByte 3 = .ok (.invokevirtual 324, 3) := by decide +kernel
theorem dX12_keyByte_6 : decode cX12_keyByte 6 = .ok (.invokestatic 312, 3) := by decide +kernel
theorem dX12_keyByte_9 : decode cX12_keyByte 9 = .ok (.invokevirtual 256, 3) := by decide +kernel
theorem dX12_keyByte_12 : decode cX12_keyByte 12 = .ok (.ifCond .eq 5, 3) := by decide +kernel
theorem dX12_keyByte_15 : decode cX12_keyByte 15 = .ok (.iconst (-1), 1) := by decide +kernel
theorem dX12_keyByte_16 : decode cX12_keyByte 16 = .ok (.ireturn, 1) := by decide +kernel
theorem dX12_keyByte_17 : decode cX12_keyByte 17 = .ok (.aload_n 0, 1) := by decide +kernel
theorem dX12_keyByte_18 : decode cX12_keyByte 18 = .ok (.aload_n 0, 1) := by decide +kernel
theorem dX12_keyByte_19 : decode cX12_keyByte 19 = .ok (.getfield 277, 3) := by decide +kernel
theorem dX12_keyByte_22 : decode cX12_keyByte 22 = .ok (.iload_n 1, 1) := by decide +kernel
theorem dX12_keyByte_23 : decode cX12_keyByte 23 = .ok (.invokevirtual 351, 3) := by decide +kernel
theorem dX12_keyByte_26 : decode cX12_keyByte 26 = .ok (.iload_n 2, 1) := by decide +kernel
theorem dX12_keyByte_27 : decode cX12_keyByte 27 = .ok (.i2l, 1) := by decide +kernel
theorem dX12_keyByte_28 : decode cX12_keyByte 28 = .ok (.lconst 0, 1) := by decide +kernel
theorem dX12_keyByte_29 : decode cX12_keyByte 29 = .ok (.aload_n 0, 1) := by decide +kernel
theorem dX12_keyByte_30 : decode cX12_keyByte 30 = .ok (.getfield 334, 3) := by decide +kernel
theorem dX12_keyByte_33 : decode cX12_keyByte 33 = .ok (.iconst 1, 1) := by decide +kernel
theorem dX12_keyByte_34 : decode cX12_keyByte 34 = .ok (.isub, 1) := by decide +kernel
theorem dX12_keyByte_35 : decode cX12_keyByte 35 = .ok (.i2l, 1) := by decide +kernel
theorem dX12_keyByte_36 : decode cX12_keyByte 36 = .ok (.invokestatic 159, 3) := by decide +kernel
theorem dX12_keyByte_39 : decode cX12_keyByte 39 = .ok (.ifCond .eq 12, 3) := by decide +kernel
theorem dX12_keyByte_42 : decode cX12_keyByte 42 = .ok (.aload_n 0, 1) := by decide +kernel
theorem dX12_keyByte_43 : decode cX12_keyByte 43 = .ok (.getfield 60, 3) := by decide +kernel
theorem dX12_keyByte_46 : decode cX12_keyByte 46 = .ok (.iload_n 2, 1) := by decide +kernel
theorem dX12_keyByte_47 : decode cX12_keyByte 47 = .ok (.iaload, 1) := by decide +kernel
theorem dX12_keyByte_48 : decode cX12_keyByte 48 = .ok (.goto 8, 3) := by decide +kernel
theorem dX12_keyByte_51 : decode cX12_keyByte 51 = .ok (.aload_n 0, 1) := by decide +kernel
theorem dX12_keyByte_52 : decode cX12_keyByte 52 = .ok (.iconst 1, 1) := by decide +kernel
theorem dX12_keyByte_53 : decode cX12_keyByte 53 = .ok (.invokevirtual 265, 3) := by decide +kernel
theorem dX12_keyByte_56 : decode cX12_keyByte 56 = .ok (.ireturn, 1) := by decide +kernel
theorem dX12_aheadOf_0 : decode cX12_aheadOf 0 = .ok (.aload_n 0, 1) := by decide +kernel
theorem dX12_aheadOf_1 : decode cX12_aheadOf 1 = .ok (.aload_n 0, 1) := by decide +kernel
theorem dX12_aheadOf_2 : decode cX12_aheadOf 2 = .ok (.getfield 277, 3) := by decide +kernel
theorem dX12_aheadOf_5 : decode cX12_aheadOf 5 = .ok (.iload_n 1, 1) := by decide +kernel
theorem dX12_aheadOf_6 : decode cX12_aheadOf 6 = .ok (.invokevirtual 351, 3) := by decide +kernel
theorem dX12_aheadOf_9 : decode cX12_aheadOf 9 = .ok (.aload_n 0, 1) := by decide +kernel
theorem dX12_aheadOf_10 : decode cX12_aheadOf 10 = .ok (.invokevirtual 355, 3) := by decide +kernel
theorem dX12_aheadOf_13 : decode cX12_aheadOf 13 = .ok (.iconst 0, 1) := by decide +kernel
theorem dX12_aheadOf_14 : decode cX12_aheadOf 14 = .ok (.istore_n 2, 1) := by decide +kernel
theorem dX12_aheadOf_15 : decode cX12_aheadOf 15 = .ok (.iconst 0, 1) := by decide +kernel
theorem dX12_aheadOf_16 : decode cX12_aheadOf 16 = .ok (.istore_n 3, 1) := by decide +kernel
theorem dX12_aheadOf_17 : decode cX12_aheadOf 17 = .ok (.iload_n 3, 1) := by decide +kernel
theorem dX12_aheadOf_18 : decode cX12_aheadOf 18 = .ok (.bipush 64, 2) := by decide +kernel
theorem dX12_aheadOf_20 : decode cX12_aheadOf 20 = .ok (.if_icmp .ge 45, 3) := by decide +kernel
theorem dX12_aheadOf_23 : decode cX12_aheadOf 23 = .ok (.aload_n 0, 1) := by decide +kernel
theorem dX12_aheadOf_24 : decode cX12_aheadOf 24 = .ok (.aload_n 0, 1) := by decide +kernel
theorem dX12_aheadOf_25 : decode cX12_aheadOf 25 = .ok (.getfield 277, 3) := by decide +kernel
theorem dX12_aheadOf_28 : decode cX12_aheadOf 28 = .ok (.iload_n 3, 1) := by decide +kernel
theorem dX12_aheadOf_29 : decode cX12_aheadOf 29 = .ok (.invokevirtual 305, 3) := by decide +kernel
theorem dX12_aheadOf_32 : decode cX12_aheadOf 32 = .ok (.ifCond .eq 27, 3) := by decide +kernel
theorem dX12_aheadOf_35 : decode cX12_aheadOf 35 = .ok (.aload_n 0, 1) := by decide +kernel
theorem dX12_aheadOf_36 : decode cX12_aheadOf 36 = .ok (.aload_n 0, 1) := by decide +kernel
theorem dX12_aheadOf_37 : decode cX12_aheadOf 37 = .ok (.getfield 277, 3) := by decide +kernel
theorem dX12_aheadOf_40 : decode cX12_aheadOf 40 = .ok (.iload_n 3, 1) := by decide +kernel
theorem dX12_aheadOf_41 : decode cX12_aheadOf 41 = .ok (.invokevirtual 351, 3) := by decide +kernel
theorem dX12_aheadOf_44 : decode cX12_aheadOf 44 = .ok (.iload_n 2, 1) := by decide +kernel
theorem dX12_aheadOf_45 : decode cX12_aheadOf 45 = .ok (.aload_n 0, 1) := by decide +kernel
theorem dX12_aheadOf_46 : decode cX12_aheadOf 46 = .ok (.invokevirtual 358, 3) := by decide +kernel
theorem dX12_aheadOf_49 : decode cX12_aheadOf 49 = .ok (.ifCond .ge 7, 3) := by decide +kernel
theorem dX12_aheadOf_52 : decode cX12_aheadOf 52 = .ok (.iconst 1, 1) := by decide +kernel
theorem dX12_aheadOf_53 : decode cX12_aheadOf 53 = .ok (.goto 4, 3) := by decide +kernel
theorem dX12_aheadOf_56 : decode cX12_aheadOf 56 = .ok (.iconst 0, 1) := by decide +kernel
theorem dX12_aheadOf_57 : decode cX12_aheadOf 57 = .ok (.iadd, 1) := by decide +kernel
theorem dX12_aheadOf_58 : decode cX12_aheadOf 58 = .ok (.istore_n 2, 1) := by decide +kernel
theorem dX12_aheadOf_59 : decode cX12_aheadOf 59 = .ok (.iinc 3 1, 3) := by decide +kernel
theorem dX12_aheadOf_62 : decode cX12_aheadOf 62 = .ok (.goto (-45), 3) := by decide +kernel
theorem dX12_aheadOf_65 : decode cX12_aheadOf 65 = .ok (.iload_n 2, 1) := by decide +kernel
theorem dX12_aheadOf_66 : decode cX12_aheadOf 66 = .ok (.ireturn, 1) := by decide +kernel
theorem dX12_rank_0 : decode cX12_rank 0 = .ok (.aload_n 0, 1) := by decide +kernel
theorem dX12_rank_1 : decode cX12_rank 1 = .ok (.aload_n 0, 1) := by decide +kernel
theorem dX12_rank_2 : decode cX12_rank 2 = .ok (.iload_n 1, 1) := by decide +kernel
theorem dX12_rank_3 : decode cX12_rank 3 = .ok (.invokevirtual 324, 3) := by decide +kernel
theorem dX12_rank_6 : decode cX12_rank 6 = .ok (.invokestatic 312, 3) := by decide +kernel
theorem dX12_rank_9 : decode cX12_rank 9 = .ok (.invokevirtual 256, 3) := by decide +kernel
theorem dX12_rank_12 : decode cX12_rank 12 = .ok (.ifCond .eq 7, 3) := by decide +kernel
theorem dX12_rank_15 : decode cX12_rank 15 = .ok (.iconst (-1), 1) := by decide +kernel
theorem dX12_rank_16 : decode cX12_rank 16 = .ok (.goto 8, 3) := by decide +kernel
theorem dX12_rank_19 : decode cX12_rank 19 = .ok (.aload_n 0, 1) := by decide +kernel
theorem dX12_rank_20 : decode cX12_rank 20 = .ok (.iload_n 1, 1) := by decide +kernel
theorem dX12_rank_21 : decode cX12_rank 21 = .ok (.invokevirtual 361, 3) := by decide +kernel
theorem dX12_rank_24 : decode cX12_rank 24 = .ok (.ireturn, 1) := by decide +kernel
theorem dX12_ranked_0 : decode cX12_ranked 0 = .ok (.aload_n 0, 1) := by decide +kernel
theorem dX12_ranked_1 : decode cX12_ranked 1 = .ok (.aload_n 0, 1) := by decide +kernel
theorem dX12_ranked_2 : decode cX12_ranked 2 = .ok (.getfield 296, 3) := by decide +kernel
theorem dX12_ranked_5 : decode cX12_ranked 5 = .ok (.invokestatic 312, 3) := by decide +kernel
theorem dX12_ranked_8 : decode cX12_ranked 8 = .ok (.invokevirtual 256, 3) := by decide +kernel
theorem dX12_ranked_11 : decode cX12_ranked 11 = .ok (.ifCond .eq 5, 3) := by decide +kernel
theorem dX12_ranked_14 : decode cX12_ranked 14 = .ok (.iconst (-1), 1) := by decide +kernel
theorem dX12_ranked_15 : decode cX12_ranked 15 = .ok (.ireturn, 1) := by decide +kernel
theorem dX12_ranked_16 : decode cX12_ranked 16 = .ok (.iconst 0, 1) := by decide +kernel
theorem dX12_ranked_17 : decode cX12_ranked 17 = .ok (.istore_n 2, 1) := by decide +kernel
theorem dX12_ranked_18 : decode cX12_ranked 18 = .ok (.iload_n 2, 1) := by decide +kernel
theorem dX12_ranked_19 : decode cX12_ranked 19 = .ok (.bipush 64, 2) := by decide +kernel
theorem dX12_ranked_21 : decode cX12_ranked 21 = .ok (.if_icmp .ge 32, 3) := by decide +kernel
theorem dX12_ranked_24 : decode cX12_ranked 24 = .ok (.aload_n 0, 1) := by decide +kernel
theorem dX12_ranked_25 : decode cX12_ranked 25 = .ok (.aload_n 0, 1) := by decide +kernel
theorem dX12_ranked_26 : decode cX12_ranked 26 = .ok (.getfield 277, 3) := by decide +kernel
theorem dX12_ranked_29 : decode cX12_ranked 29 = .ok (.iload_n 2, 1) := by decide +kernel
theorem dX12_ranked_30 : decode cX12_ranked 30 = .ok (.invokevirtual 305, 3) := by decide +kernel
theorem dX12_ranked_33 : decode cX12_ranked 33 = .ok (.ifCond .eq 14, 3) := by decide +kernel
theorem dX12_ranked_36 : decode cX12_ranked 36 = .ok (.aload_n 0, 1) := by decide +kernel
theorem dX12_ranked_37 : decode cX12_ranked 37 = .ok (.iload_n 2, 1) := by decide +kernel
theorem dX12_ranked_38 : decode cX12_ranked 38 = .ok (.invokevirtual 361, 3) := by decide +kernel
theorem dX12_ranked_41 : decode cX12_ranked 41 = .ok (.iload_n 1, 1) := by decide +kernel
theorem dX12_ranked_42 : decode cX12_ranked 42 = .ok (.if_icmp .ne 5, 3) := by decide +kernel
theorem dX12_ranked_45 : decode cX12_ranked 45 = .ok (.iload_n 2, 1) := by decide +kernel
theorem dX12_ranked_46 : decode cX12_ranked 46 = .ok (.ireturn, 1) := by decide +kernel
theorem dX12_ranked_47 : decode cX12_ranked 47 = .ok (.iinc 2 1, 3) := by decide +kernel
theorem dX12_ranked_50 : decode cX12_ranked 50 = .ok (.goto (-32), 3) := by decide +kernel
theorem dX12_ranked_53 : decode cX12_ranked 53 = .ok (.aload_n 0, 1) := by decide +kernel
theorem dX12_ranked_54 : decode cX12_ranked 54 = .ok (.iconst 1, 1) := by decide +kernel
theorem dX12_ranked_55 : decode cX12_ranked 55 = .ok (.invokevirtual 265, 3) := by decide +kernel
theorem dX12_ranked_58 : decode cX12_ranked 58 = .ok (.ireturn, 1) := by decide +kernel
theorem dX12_differ_0 : decode cX12_differ 0 = .ok (.aload_n 0, 1) := by decide +kernel
theorem dX12_differ_1 : decode cX12_differ 1 = .ok (.aload_n 0, 1) := by decide +kernel
theorem dX12_differ_2 : decode cX12_differ 2 = .ok (.iload_n 1, 1) := by decide +kernel
theorem dX12_differ_3 : decode cX12_differ 3 = .ok (.invokevirtual 324, 3) := by decide +kernel
theorem dX12_differ_6 : decode cX12_differ 6 = .ok (.ifCond .eq 20, 3) := by decide +kernel
theorem dX12_differ_9 : decode cX12_differ 9 = .ok (.aload_n 0, 1) := by decide +kernel
theorem dX12_differ_10 : decode cX12_differ 10 = .ok (.iload_n 2, 1) := by decide +kernel
theorem dX12_differ_11 : decode cX12_differ 11 = .ok (.invokevirtual 324, 3) := by decide +kernel
theorem dX12_differ_14 : decode cX12_differ 14 = .ok (.ifCond .eq 12, 3) := by decide +kernel
theorem dX12_differ_17 : decode cX12_differ 17 = .ok (.iload_n 1, 1) := by decide +kernel
theorem dX12_differ_18 : decode cX12_differ 18 = .ok (.iload_n 2, 1) := by decide +kernel
theorem dX12_differ_19 : decode cX12_differ 19 = .ok (.if_icmp .eq 7, 3) := by decide +kernel
theorem dX12_differ_22 : decode cX12_differ 22 = .ok (.iconst 1, 1) := by decide +kernel
theorem dX12_differ_23 : decode cX12_differ 23 = .ok (.goto 4, 3) := by decide +kernel
theorem dX12_differ_26 : decode cX12_differ 26 = .ok (.iconst 0, 1) := by decide +kernel
theorem dX12_differ_27 : decode cX12_differ 27 = .ok (.invokestatic 312, 3) := by decide +kernel
theorem dX12_differ_30 : decode cX12_differ 30 = .ok (.invokevirtual 256, 3) := by decide +kernel
theorem dX12_differ_33 : decode cX12_differ 33 = .ok (.ifCond .eq 5, 3) := by decide +kernel
theorem dX12_differ_36 : decode cX12_differ 36 = .ok (.iconst (-1), 1) := by decide +kernel
theorem dX12_differ_37 : decode cX12_differ 37 = .ok (.ireturn, 1) := by decide +kernel
theorem dX12_differ_38 : decode cX12_differ 38 = .ok (.iconst 0, 1) := by decide +kernel
theorem dX12_differ_39 : decode cX12_differ 39 = .ok (.istore_n 3, 1) := by decide +kernel
theorem dX12_differ_40 : decode cX12_differ 40 = .ok (.iload_n 3, 1) := by decide +kernel
theorem dX12_differ_41 : decode cX12_differ 41 = .ok (.aload_n 0, 1) := by decide +kernel
theorem dX12_differ_42 : decode cX12_differ 42 = .ok (.getfield 274, 3) := by decide +kernel
theorem dX12_differ_45 : decode cX12_differ 45 = .ok (.if_icmp .ge 45, 3) := by decide +kernel
theorem dX12_differ_48 : decode cX12_differ 48 = .ok (.aload_n 0, 1) := by decide +kernel
theorem dX12_differ_49 : decode cX12_differ 49 = .ok (.aload_n 0, 1) := by decide +kernel
theorem dX12_differ_50 : decode cX12_differ 50 = .ok (.getfield 277, 3) := by decide +kernel
theorem dX12_differ_53 : decode cX12_differ 53 = .ok (.iload_n 1, 1) := by decide +kernel
theorem dX12_differ_54 : decode cX12_differ 54 = .ok (.aload_n 0, 1) := by decide +kernel
theorem dX12_differ_55 : decode cX12_differ 55 = .ok (.getfield 23, 3) := by decide +kernel
theorem dX12_differ_58 : decode cX12_differ 58 = .ok (.iload_n 3, 1) := by decide +kernel
theorem dX12_differ_59 : decode cX12_differ 59 = .ok (.iaload, 1) := by decide +kernel
theorem dX12_differ_60 : decode cX12_differ 60 = .ok (.invokevirtual 327, 3) := by decide +kernel
theorem dX12_differ_63 : decode cX12_differ 63 = .ok (.aload_n 0, 1) := by decide +kernel
theorem dX12_differ_64 : decode cX12_differ 64 = .ok (.aload_n 0, 1) := by decide +kernel
theorem dX12_differ_65 : decode cX12_differ 65 = .ok (.getfield 277, 3) := by decide +kernel
theorem dX12_differ_68 : decode cX12_differ 68 = .ok (.iload_n 2, 1) := by decide +kernel
theorem dX12_differ_69 : decode cX12_differ 69 = .ok (.aload_n 0, 1) := by decide +kernel
theorem dX12_differ_70 : decode cX12_differ 70 = .ok (.getfield 23, 3) := by decide +kernel
theorem dX12_differ_73 : decode cX12_differ 73 = .ok (.iload_n 3, 1) := by decide +kernel
theorem dX12_differ_74 : decode cX12_differ 74 = .ok (.iaload, 1) := by decide +kernel
theorem dX12_differ_75 : decode cX12_differ 75 = .ok (.invokevirtual 327, 3) := by decide +kernel
theorem dX12_differ_78 : decode cX12_differ 78 = .ok (.lcmp, 1) := by decide +kernel
theorem dX12_differ_79 : decode cX12_differ 79 = .ok (.ifCond .eq 5, 3) := by decide +kernel
theorem dX12_differ_82 : decode cX12_differ 82 = .ok (.iload_n 3, 1) := by decide +kernel
theorem dX12_differ_83 : decode cX12_differ 83 = .ok (.ireturn, 1) := by decide +kernel
theorem dX12_differ_84 : decode cX12_differ 84 = .ok (.iinc 3 1, 3) := by decide +kernel
theorem dX12_differ_87 : decode cX12_differ 87 = .ok (.goto (-47), 3) := by decide +kernel
theorem dX12_differ_90 : decode cX12_differ 90 = .ok (.bipush (-2), 2) := by decide +kernel
theorem dX12_differ_92 : decode cX12_differ 92 = .ok (.ireturn, 1) := by decide +kernel
theorem dX12_spread_0 : decode cX12_spread 0 = .ok (.lload_n 0, 1) := by decide +kernel
theorem dX12_spread_1 : decode cX12_spread 1 = .ok (.lstore_n 2, 1) := by decide +kernel
theorem dX12_spread_2 : decode cX12_spread 2 = .ok (.lload_n 2, 1) := by decide +kernel
theorem dX12_spread_3 : decode cX12_spread 3 = .ok (.bipush 40, 2) := by decide +kernel
theorem dX12_spread_5 : decode cX12_spread 5 = .ok (.lshr, 1) := by decide +kernel
theorem dX12_spread_6 : decode cX12_spread 6 = .ok (.lconst 0, 1) := by decide +kernel
theorem dX12_spread_7 : decode cX12_spread 7 = .ok (.lcmp, 1) := by decide +kernel
theorem dX12_spread_8 : decode cX12_spread 8 = .ok (.ifCond .ne 11, 3) := by decide +kernel
theorem dX12_spread_11 : decode cX12_spread 11 = .ok (.lload_n 2, 1) := by decide +kernel
theorem dX12_spread_12 : decode cX12_spread 12 = .ok (.bipush 8, 2) := by decide +kernel
theorem dX12_spread_14 : decode cX12_spread 14 = .ok (.lshl, 1) := by decide +kernel
theorem dX12_spread_15 : decode cX12_spread 15 = .ok (.lstore_n 2, 1) := by decide +kernel
theorem dX12_spread_16 : decode cX12_spread 16 = .ok (.goto (-14), 3) := by decide +kernel
theorem dX12_spread_19 : decode cX12_spread 19 = .ok (.lload_n 2, 1) := by decide +kernel
theorem dX12_spread_20 : decode cX12_spread 20 = .ok (.lreturn, 1) := by decide +kernel
theorem dX12_meets_0 : decode cX12_meets 0 = .ok (.aload_n 0, 1) := by decide +kernel
theorem dX12_meets_1 : decode cX12_meets 1 = .ok (.getfield 69, 3) := by decide +kernel
theorem dX12_meets_4 : decode cX12_meets 4 = .ok (.iload_n 1, 1) := by decide +kernel
theorem dX12_meets_5 : decode cX12_meets 5 = .ok (.iaload, 1) := by decide +kernel
theorem dX12_meets_6 : decode cX12_meets 6 = .ok (.iconst 2, 1) := by decide +kernel
theorem dX12_meets_7 : decode cX12_meets 7 = .ok (.if_icmp .gt 11, 3) := by decide +kernel
theorem dX12_meets_10 : decode cX12_meets 10 = .ok (.lload_n 2, 1) := by decide +kernel
theorem dX12_meets_11 : decode cX12_meets 11 = .ok (.ldc2_w 229, 3) := by decide +kernel
theorem dX12_meets_14 : decode cX12_meets 14 = .ok (.lcmp, 1) := by decide +kernel
theorem dX12_meets_15 : decode cX12_meets 15 = .ok (.ifCond .ne 53, 3) := by decide +kernel
theorem dX12_meets_18 : decode cX12_meets 18 = .ok (.aload_n 0, 1) := by decide +kernel
theorem dX12_meets_19 : decode cX12_meets 19 = .ok (.getfield 69, 3) := by decide +kernel
theorem dX12_meets_22 : decode cX12_meets 22 = .ok (.iload_n 1, 1) := by decide +kernel
theorem dX12_meets_23 : decode cX12_meets 23 = .ok (.iaload, 1) := by decide +kernel
theorem dX12_meets_24 : decode cX12_meets 24 = .ok (.iconst 3, 1) := by decide +kernel
theorem dX12_meets_25 : decode cX12_meets 25 = .ok (.if_icmp .ne 19, 3) := by decide +kernel
theorem dX12_meets_28 : decode cX12_meets 28 = .ok (.lload_n 2, 1) := by decide +kernel
theorem dX12_meets_29 : decode cX12_meets 29 = .ok (.ldc2_w 229, 3) := by decide +kernel
theorem dX12_meets_32 : decode cX12_meets 32 = .ok (.lcmp, 1) := by decide +kernel
theorem dX12_meets_33 : decode cX12_meets 33 = .ok (.ifCond .ne 7, 3) := by decide +kernel
theorem dX12_meets_36 : decode cX12_meets 36 = .ok (.iconst 1, 1) := by decide +kernel
theorem dX12_meets_37 : decode cX12_meets 37 = .ok (.goto 30, 3) := by decide +kernel
theorem dX12_meets_40 : decode cX12_meets 40 = .ok (.iconst 0, 1) := by decide +kernel
theorem dX12_meets_41 : decode cX12_meets 41 = .ok (.goto 26, 3) := by decide +kernel
theorem dX12_meets_44 : decode cX12_meets 44 = .ok (.aload_n 0, 1) := by decide +kernel
theorem dX12_meets_45 : decode cX12_meets 45 = .ok (.getfield 69, 3) := by decide +kernel
theorem dX12_meets_48 : decode cX12_meets 48 = .ok (.iload_n 1, 1) := by decide +kernel
theorem dX12_meets_49 : decode cX12_meets 49 = .ok (.iaload, 1) := by decide +kernel
theorem dX12_meets_50 : decode cX12_meets 50 = .ok (.iconst 4, 1) := by decide +kernel
theorem dX12_meets_51 : decode cX12_meets 51 = .ok (.if_icmp .ne 15, 3) := by decide +kernel
theorem dX12_meets_54 : decode cX12_meets 54 = .ok (.lload_n 2, 1) := by decide +kernel
theorem dX12_meets_55 : decode cX12_meets 55 = .ok (.ldc2_w 229, 3) := by decide +kernel
theorem dX12_meets_58 : decode cX12_meets 58 = .ok (.lcmp, 1) := by decide +kernel
theorem dX12_meets_59 : decode cX12_meets 59 = .ok (.ifCond .eq 7, 3) := by decide +kernel
theorem dX12_meets_62 : decode cX12_meets 62 = .ok (.iconst 1, 1) := by decide +kernel
theorem dX12_meets_63 : decode cX12_meets 63 = .ok (.goto 4, 3) := by decide +kernel
theorem dX12_meets_66 : decode cX12_meets 66 = .ok (.iconst 0, 1) := by decide +kernel
theorem dX12_meets_67 : decode cX12_meets 67 = .ok (.ireturn, 1) := by decide +kernel
theorem dX12_meets_68 : decode cX12_meets 68 = .ok (.aload_n 0, 1) := by decide +kernel
theorem dX12_meets_69 : decode cX12_meets 69 = .ok (.getfield 19, 3) := by decide +kernel
theorem dX12_meets_72 : decode cX12_meets 72 = .ok (.aload_n 0, 1) := by decide +kernel
theorem dX12_meets_73 : decode cX12_meets 73 = .ok (.getfield 66, 3) := by decide +kernel
theorem dX12_meets_76 : decode cX12_meets 76 = .ok (.iload_n 1, 1) := by decide +kernel
theorem dX12_meets_77 : decode cX12_meets 77 = .ok (.iaload, 1) := by decide +kernel
theorem dX12_meets_78 : decode cX12_meets 78 = .ok (.baload, 1) := by decide +kernel
theorem dX12_meets_79 : decode cX12_meets 79 = .ok (.istore 4, 2) := by decide +kernel
theorem dX12_meets_81 : decode cX12_meets 81 = .ok (.iload 4, 2) := by decide +kernel
theorem dX12_meets_83 : decode cX12_meets 83 = .ok (.ifCond .eq 10, 3) := by decide +kernel
theorem dX12_meets_86 : decode cX12_meets 86 = .ok (.lload_n 2, 1) := by decide +kernel
theorem dX12_meets_87 : decode cX12_meets 87 = .ok (.invokestatic 364, 3) := by decide +kernel
theorem dX12_meets_90 : decode cX12_meets 90 = .ok (.goto 4, 3) := by decide +kernel
theorem dX12_meets_93 : decode cX12_meets 93 = .ok (.lload_n 2, 1) := by decide +kernel
theorem dX12_meets_94 : decode cX12_meets 94 = .ok (.lstore 5, 2) := by decide +kernel
theorem dX12_meets_96 : decode cX12_meets 96 = .ok (.iload 4, 2) := by decide +kernel
theorem dX12_meets_98 : decode cX12_meets 98 = .ok (.ifCond .eq 15, 3) := by decide +kernel
theorem dX12_meets_101 : decode cX12_meets 101 = .ok (.aload_n 0, 1) := by decide +kernel
theorem dX12_meets_102 : decode cX12_meets 102 = .ok (.getfield 72, 3) := by decide +kernel
theorem dX12_meets_105 : decode cX12_meets 105 = .ok (.iload_n 1, 1) := by decide +kernel
theorem dX12_meets_106 : decode cX12_meets 106 = .ok (.laload, 1) := by decide +kernel
theorem dX12_meets_107 : decode cX12_meets 107 = .ok (.invokestatic 364, 3) := by decide +kernel
theorem dX12_meets_110 : decode cX12_meets 110 = .ok (.goto 9, 3) := by decide +kernel
theorem dX12_meets_113 : decode cX12_meets 113 = .ok (.aload_n 0, 1) := by decide +kernel
theorem dX12_meets_114 : decode cX12_meets 114 = .ok (.getfield 72, 3) := by decide +kernel
theorem dX12_meets_117 : decode cX12_meets 117 = .ok (.iload_n 1, 1) := by decide +kernel
theorem dX12_meets_118 : decode cX12_meets 118 = .ok (.laload, 1) := by decide +kernel
theorem dX12_meets_119 : decode cX12_meets 119 = .ok (.lstore 7, 2) := by decide +kernel
theorem dX12_meets_121 : decode cX12_meets 121 = .ok (.aload_n 0, 1) := by decide +kernel
theorem dX12_meets_122 : decode cX12_meets 122 = .ok (.getfield 69, 3) := by decide +kernel
theorem dX12_meets_125 : decode cX12_meets 125 = .ok (.iload_n 1, 1) := by decide +kernel
theorem dX12_meets_126 : decode cX12_meets 126 = .ok (.iaload, 1) := by decide +kernel
theorem dX12_meets_127 : decode cX12_meets 127 = .ok (.ifCond .ne 19, 3) := by decide +kernel
theorem dX12_meets_130 : decode cX12_meets 130 = .ok (.lload 5, 2) := by decide +kernel
theorem dX12_meets_132 : decode cX12_meets 132 = .ok (.lload 7, 2) := by decide +kernel
theorem dX12_meets_134 : decode cX12_meets 134 = .ok (.lcmp, 1) := by decide +kernel
theorem dX12_meets_135 : decode cX12_meets 135 = .ok (.ifCond .ne 7, 3) := by decide +kernel
theorem dX12_meets_138 : decode cX12_meets 138 = .ok (.iconst 1, 1) := by decide +kernel
theorem dX12_meets_139 : decode cX12_meets 139 = .ok (.goto 46, 3) := by decide +kernel
theorem dX12_meets_142 : decode cX12_meets 142 = .ok (.iconst 0, 1) := by decide +kernel
theorem dX12_meets_143 : decode cX12_meets 143 = .ok (.goto 42, 3) := by decide +kernel
theorem dX12_meets_146 : decode cX12_meets 146 = .ok (.aload_n 0, 1) := by decide +kernel
theorem dX12_meets_147 : decode cX12_meets 147 = .ok (.getfield 69, 3) := by decide +kernel
theorem dX12_meets_150 : decode cX12_meets 150 = .ok (.iload_n 1, 1) := by decide +kernel
theorem dX12_meets_151 : decode cX12_meets 151 = .ok (.iaload, 1) := by decide +kernel
theorem dX12_meets_152 : decode cX12_meets 152 = .ok (.iconst 1, 1) := by decide +kernel
theorem dX12_meets_153 : decode cX12_meets 153 = .ok (.if_icmp .ne 19, 3) := by decide +kernel
theorem dX12_meets_156 : decode cX12_meets 156 = .ok (.lload 5, 2) := by decide +kernel
theorem dX12_meets_158 : decode cX12_meets 158 = .ok (.lload 7, 2) := by decide +kernel
theorem dX12_meets_160 : decode cX12_meets 160 = .ok (.lcmp, 1) := by decide +kernel
theorem dX12_meets_161 : decode cX12_meets 161 = .ok (.ifCond .ge 7, 3) := by decide +kernel
theorem dX12_meets_164 : decode cX12_meets 164 = .ok (.iconst 1, 1) := by decide +kernel
theorem dX12_meets_165 : decode cX12_meets 165 = .ok (.goto 20, 3) := by decide +kernel
theorem dX12_meets_168 : decode cX12_meets 168 = .ok (.iconst 0, 1) := by decide +kernel
theorem dX12_meets_169 : decode cX12_meets 169 = .ok (.goto 16, 3) := by decide +kernel
theorem dX12_meets_172 : decode cX12_meets 172 = .ok (.lload 5, 2) := by decide +kernel
theorem dX12_meets_174 : decode cX12_meets 174 = .ok (.lload 7, 2) := by decide +kernel
theorem dX12_meets_176 : decode cX12_meets 176 = .ok (.lcmp, 1) := by decide +kernel
theorem dX12_meets_177 : decode cX12_meets 177 = .ok (.ifCond .le 7, 3) := by decide +kernel
theorem dX12_meets_180 : decode cX12_meets 180 = .ok (.iconst 1, 1) := by decide +kernel
theorem dX12_meets_181 : decode cX12_meets 181 = .ok (.goto 4, 3) := by decide +kernel
theorem dX12_meets_184 : decode cX12_meets 184 = .ok (.iconst 0, 1) := by decide +kernel
theorem dX12_meets_185 : decode cX12_meets 185 = .ok (.ireturn, 1) := by decide +kernel
theorem dX12_doesPass_0 : decode cX12_doesPass 0 = .ok (.aload_n 0, 1) := by decide +kernel
theorem dX12_doesPass_1 : decode cX12_doesPass 1 = .ok (.iload_n 1, 1) := by decide +kernel
theorem dX12_doesPass_2 : decode cX12_doesPass 2 = .ok (.iload_n 2, 1) := by decide +kernel
theorem dX12_doesPass_3 : decode cX12_doesPass 3 = .ok (.invokevirtual 305, 3) := by decide +kernel
theorem dX12_doesPass_6 : decode cX12_doesPass 6 = .ok (.ifCond .ne 5, 3) := by decide +kernel
theorem dX12_doesPass_9 : decode cX12_doesPass 9 = .ok (.iconst 0, 1) := by decide +kernel
theorem dX12_doesPass_10 : decode cX12_doesPass 10 = .ok (.ireturn, 1) := by decide +kernel
theorem dX12_doesPass_11 : decode cX12_doesPass 11 = .ok (.iconst 0, 1) := by decide +kernel
theorem dX12_doesPass_12 : decode cX12_doesPass 12 = .ok (.istore_n 3, 1) := by decide +kernel
theorem dX12_doesPass_13 : decode cX12_doesPass 13 = .ok (.iload_n 3, 1) := by decide +kernel
theorem dX12_doesPass_14 : decode cX12_doesPass 14 = .ok (.aload_n 0, 1) := by decide +kernel
theorem dX12_doesPass_15 : decode cX12_doesPass 15 = .ok (.getfield 286, 3) := by decide +kernel
theorem dX12_doesPass_18 : decode cX12_doesPass 18 = .ok (.if_icmp .ge 31, 3) := by decide +kernel
theorem dX12_doesPass_21 : decode cX12_doesPass 21 = .ok (.aload_n 0, 1) := by decide +kernel
theorem dX12_doesPass_22 : decode cX12_doesPass 22 = .ok (.iload_n 3, 1) := by decide +kernel
theorem dX12_doesPass_23 : decode cX12_doesPass 23 = .ok (.aload_n 0, 1) := by decide +kernel
theorem dX12_doesPass_24 : decode cX12_doesPass 24 = .ok (.iload_n 1, 1) := by decide +kernel
theorem dX12_doesPass_25 : decode cX12_doesPass 25 = .ok (.iload_n 2, 1) := by decide +kernel
theorem dX12_doesPass_26 : decode cX12_doesPass 26 = .ok (.aload_n 0, 1) := by decide +kernel
theorem dX12_doesPass_27 : decode cX12_doesPass 27 = .ok (.getfield 66, 3) := by decide +kernel
theorem dX12_doesPass_30 : decode cX12_doesPass 30 = .ok (.iload_n 3, 1) := by decide +kernel
theorem dX12_doesPass_31 : decode cX12_doesPass 31 = .ok (.iaload, 1) := by decide +kernel
theorem dX12_doesPass_32 : decode cX12_doesPass 32 = .ok (.invokevirtual 327, 3) := by decide +kernel
theorem dX12_doesPass_35 : decode cX12_doesPass 35 = .ok (.invokevirtual 368, 3) := by decide +kernel
theorem dX12_doesPass_38 : decode cX12_doesPass 38 = .ok (.ifCond .ne 5, 3) := by decide +kernel
theorem dX12_doesPass_41 : decode cX12_doesPass 41 = .ok (.iconst 0, 1) := by decide +kernel
theorem dX12_doesPass_42 : decode cX12_doesPass 42 = .ok (.ireturn, 1) := by decide +kernel
theorem dX12_doesPass_43 : decode cX12_doesPass 43 = .ok (.iinc 3 1, 3) := by decide +kernel
theorem dX12_doesPass_46 : decode cX12_doesPass 46 = .ok (.goto (-33), 3) := by decide +kernel
theorem dX12_doesPass_49 : decode cX12_doesPass 49 = .ok (.iconst 1, 1) := by decide +kernel
theorem dX12_doesPass_50 : decode cX12_doesPass 50 = .ok (.ireturn, 1) := by decide +kernel
theorem dX12_canHave_0 : decode cX12_canHave 0 = .ok (.lload_n 2, 1) := by decide +kernel
theorem dX12_canHave_1 : decode cX12_canHave 1 = .ok (.ldc2_w 229, 3) := by decide +kernel
theorem dX12_canHave_4 : decode cX12_canHave 4 = .ok (.lcmp, 1) := by decide +kernel
theorem dX12_canHave_5 : decode cX12_canHave 5 = .ok (.ifCond .ne 6, 3) := by decide +kernel
theorem dX12_canHave_8 : decode cX12_canHave 8 = .ok (.iload 4, 2) := by decide +kernel
theorem dX12_canHave_10 : decode cX12_canHave 10 = .ok (.ireturn, 1) := by decide +kernel
theorem dX12_canHave_11 : decode cX12_canHave 11 = .ok (.aload_n 0, 1) := by decide +kernel
theorem dX12_canHave_12 : decode cX12_canHave 12 = .ok (.getfield 19, 3) := by decide +kernel
theorem dX12_canHave_15 : decode cX12_canHave 15 = .ok (.iload_n 1, 1) := by decide +kernel
theorem dX12_canHave_16 : decode cX12_canHave 16 = .ok (.baload, 1) := by decide +kernel
theorem dX12_canHave_17 : decode cX12_canHave 17 = .ok (.ifCond .ne 14, 3) := by decide +kernel
theorem dX12_canHave_20 : decode cX12_canHave 20 = .ok (.lload_n 2, 1) := by decide +kernel
theorem dX12_canHave_21 : decode cX12_canHave 21 = .ok (.ldc2_w 372, 3) := by decide +kernel
theorem dX12_canHave_24 : decode cX12_canHave 24 = .ok (.ldc2_w 374, 3) := by decide +kernel
theorem dX12_canHave_27 : decode cX12_canHave 27 = .ok (.invokestatic 159, 3) := by decide +kernel
theorem dX12_canHave_30 : decode cX12_canHave 30 = .ok (.ireturn, 1) := by decide +kernel
theorem dX12_canHave_31 : decode cX12_canHave 31 = .ok (.lload_n 2, 1) := by decide +kernel
theorem dX12_canHave_32 : decode cX12_canHave 32 = .ok (.lconst 0, 1) := by decide +kernel
theorem dX12_canHave_33 : decode cX12_canHave 33 = .ok (.lcmp, 1) := by decide +kernel
theorem dX12_canHave_34 : decode cX12_canHave 34 = .ok (.ifCond .le 12, 3) := by decide +kernel
theorem dX12_canHave_37 : decode cX12_canHave 37 = .ok (.lload_n 2, 1) := by decide +kernel
theorem dX12_canHave_38 : decode cX12_canHave 38 = .ok (.bipush 48, 2) := by decide +kernel
theorem dX12_canHave_40 : decode cX12_canHave 40 = .ok (.lshr, 1) := by decide +kernel
theorem dX12_canHave_41 : decode cX12_canHave 41 = .ok (.lconst 0, 1) := by decide +kernel
theorem dX12_canHave_42 : decode cX12_canHave 42 = .ok (.lcmp, 1) := by decide +kernel
theorem dX12_canHave_43 : decode cX12_canHave 43 = .ok (.ifCond .eq 5, 3) := by decide +kernel
theorem dX12_canHave_46 : decode cX12_canHave 46 = .ok (.iconst 0, 1) := by decide +kernel
theorem dX12_canHave_47 : decode cX12_canHave 47 = .ok (.ireturn, 1) := by decide +kernel
theorem dX12_canHave_48 : decode cX12_canHave 48 = .ok (.lload_n 2, 1) := by decide +kernel
theorem dX12_canHave_49 : decode cX12_canHave 49 = .ok (.lstore 5, 2) := by decide +kernel
theorem dX12_canHave_51 : decode cX12_canHave 51 = .ok (.lload 5, 2) := by decide +kernel
theorem dX12_canHave_53 : decode cX12_canHave 53 = .ok (.lconst 0, 1) := by decide +kernel
theorem dX12_canHave_54 : decode cX12_canHave 54 = .ok (.lcmp, 1) := by decide +kernel
theorem dX12_canHave_55 : decode cX12_canHave 55 = .ok (.ifCond .eq 33, 3) := by decide +kernel
theorem dX12_canHave_58 : decode cX12_canHave 58 = .ok (.lload 5, 2) := by decide +kernel
theorem dX12_canHave_60 : decode cX12_canHave 60 = .ok (.ldc2_w 342, 3) := by decide +kernel
theorem dX12_canHave_63 : decode cX12_canHave 63 = .ok (.land, 1) := by decide +kernel
theorem dX12_canHave_64 : decode cX12_canHave 64 = .ok (.ldc2_w 155, 3) := by decide +kernel
theorem dX12_canHave_67 : decode cX12_canHave 67 = .ok (.ldc2_w 157, 3) := by decide +kernel
theorem dX12_canHave_70 : decode cX12_canHave 70 = .ok (.invokestatic 159, 3) := by decide +kernel
theorem dX12_canHave_73 : decode cX12_canHave 73 = .ok (.ifCond .ne 5, 3) := by decide +kernel
theorem dX12_canHave_76 : decode cX12_canHave 76 = .ok (.iconst 0, 1) := by decide +kernel
theorem dX12_canHave_77 : decode cX12_canHave 77 = .ok (.ireturn, 1) := by decide +kernel
theorem dX12_canHave_78 : decode cX12_canHave 78 = .ok (.lload 5, 2) := by decide +kernel
theorem dX12_canHave_80 : decode cX12_canHave 80 = .ok (.bipush 8, 2) := by decide +kernel
theorem dX12_canHave_82 : decode cX12_canHave 82 = .ok (.lshr, 1) := by decide +kernel
theorem dX12_canHave_83 : decode cX12_canHave 83 = .ok (.lstore 5, 2) := by decide +kernel
theorem dX12_canHave_85 : decode cX12_canHave 85 = .ok (.goto (-34), 3) := by decide +kernel
theorem dX12_canHave_88 : decode cX12_canHave 88 = .ok (.iconst 1, 1) := by decide +kernel
theorem dX12_canHave_89 : decode cX12_canHave 89 = .ok (.ireturn, 1) := by decide +kernel
