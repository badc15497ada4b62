theorem dX12_init_0 : decode cX12_init 0 = .ok (.aload_n 0, 1) := by decide +kernel
theorem dX12_init_1 : decode cX12_init 1 = .ok (.invokespecial 1, 3) := by decide +kernel
theorem dX12_init_4 : decode cX12_init 4 = .ok (.aload_n 0, 1) := by decide +kernel
theorem dX12_init_5 : decode cX12_init 5 = .ok (.sipush 1620, 3) := by decide +kernel
theorem dX12_init_8 : decode cX12_init 8 = .ok (.newarray .byte, 2) := by decide +kernel
theorem dX12_init_10 : decode cX12_init 10 = .ok (.putfield 7, 3) := by decide +kernel
theorem dX12_init_13 : decode cX12_init 13 = .ok (.aload_n 0, 1) := by decide +kernel
theorem dX12_init_14 : decode cX12_init 14 = .ok (.sipush 1600, 3) := by decide +kernel
theorem dX12_init_17 : decode cX12_init 17 = .ok (.newarray .byte, 2) := by decide +kernel
theorem dX12_init_19 : decode cX12_init 19 = .ok (.putfield 13, 3) := by decide +kernel
theorem dX12_init_22 : decode cX12_init 22 = .ok (.aload_n 0, 1) := by decide +kernel
theorem dX12_init_23 : decode cX12_init 23 = .ok (.iconst (-1), 1) := by decide +kernel
theorem dX12_init_24 : decode cX12_init 24 = .ok (.putfield 16, 3) := by decide +kernel
theorem dX12_init_27 : decode cX12_init 27 = .ok (.aload_n 0, 1) := by decide +kernel
theorem dX12_init_28 : decode cX12_init 28 = .ok (.bipush 31, 2) := by decide +kernel
theorem dX12_init_30 : decode cX12_init 30 = .ok (.newarray .int, 2) := by decide +kernel
theorem dX12_init_32 : decode cX12_init 32 = .ok (.putfield 20, 3) := by decide +kernel
theorem dX12_init_35 : decode cX12_init 35 = .ok (.aload_n 0, 1) := by decide +kernel
theorem dX12_init_36 : decode cX12_init 36 = .ok (.sipush 1860, 3) := by decide +kernel
theorem dX12_init_39 : decode cX12_init 39 = .ok (.newarray .int, 2) := by decide +kernel
theorem dX12_init_41 : decode cX12_init 41 = .ok (.putfield 24, 3) := by decide +kernel
theorem dX12_init_44 : decode cX12_init 44 = .ok (.aload_n 0, 1) := by decide +kernel
theorem dX12_init_45 : decode cX12_init 45 = .ok (.sipush 1860, 3) := by decide +kernel
theorem dX12_init_48 : decode cX12_init 48 = .ok (.newarray .int, 2) := by decide +kernel
theorem dX12_init_50 : decode cX12_init 50 = .ok (.putfield 27, 3) := by decide +kernel
theorem dX12_init_53 : decode cX12_init 53 = .ok (.aload_n 0, 1) := by decide +kernel
theorem dX12_init_54 : decode cX12_init 54 = .ok (.sipush 1860, 3) := by decide +kernel
theorem dX12_init_57 : decode cX12_init 57 = .ok (.newarray .int, 2) := by decide +kernel
theorem dX12_init_59 : decode cX12_init 59 = .ok (.putfield 30, 3) := by decide +kernel
theorem dX12_init_62 : decode cX12_init 62 = .ok (.aload_n 0, 1) := by decide +kernel
theorem dX12_init_63 : decode cX12_init 63 = .ok (.sipush 1860, 3) := by decide +kernel
theorem dX12_init_66 : decode cX12_init 66 = .ok (.newarray .int, 2) := by decide +kernel
theorem dX12_init_68 : decode cX12_init 68 = .ok (.putfield 33, 3) := by decide +kernel
theorem dX12_init_71 : decode cX12_init 71 = .ok (.aload_n 0, 1) := by decide +kernel
theorem dX12_init_72 : decode cX12_init 72 = .ok (.sipush 1860, 3) := by decide +kernel
theorem dX12_init_75 : decode cX12_init 75 = .ok (.newarray .int, 2) := by decide +kernel
theorem dX12_init_77 : decode cX12_init 77 = .ok (.putfield 36, 3) := by decide +kernel
theorem dX12_init_80 : decode cX12_init 80 = .ok (.aload_n 0, 1) := by decide +kernel
theorem dX12_init_81 : decode cX12_init 81 = .ok (.sipush 1860, 3) := by decide +kernel
theorem dX12_init_84 : decode cX12_init 84 = .ok (.newarray .int, 2) := by decide +kernel
theorem dX12_init_86 : decode cX12_init 86 = .ok (.putfield 39, 3) := by decide +kernel
theorem dX12_init_89 : decode cX12_init 89 = .ok (.aload_n 0, 1) := by decide +kernel
theorem dX12_init_90 : decode cX12_init 90 = .ok (.sipush 1860, 3) := by decide +kernel
theorem dX12_init_93 : decode cX12_init 93 = .ok (.newarray .long, 2) := by decide +kernel
theorem dX12_init_95 : decode cX12_init 95 = .ok (.putfield 42, 3) := by decide +kernel
theorem dX12_init_98 : decode cX12_init 98 = .ok (.aload_n 0, 1) := by decide +kernel
theorem dX12_init_99 : decode cX12_init 99 = .ok (.sipush 1860, 3) := by decide +kernel
theorem dX12_init_102 : decode cX12_init 102 = .ok (.newarray .long, 2) := by decide +kernel
theorem dX12_init_104 : decode cX12_init 104 = .ok (.putfield 46, 3) := by decide +kernel
theorem dX12_init_107 : decode cX12_init 107 = .ok (.aload_n 0, 1) := by decide +kernel
theorem dX12_init_108 : decode cX12_init 108 = .ok (.sipush 1860, 3) := by decide +kernel
theorem dX12_init_111 : decode cX12_init 111 = .ok (.newarray .boolean, 2) := by decide +kernel
theorem dX12_init_113 : decode cX12_init 113 = .ok (.putfield 49, 3) := by decide +kernel
theorem dX12_init_116 : decode cX12_init 116 = .ok (.aload_n 0, 1) := by decide +kernel
theorem dX12_init_117 : decode cX12_init 117 = .ok (.sipush 29760, 3) := by decide +kernel
theorem dX12_init_120 : decode cX12_init 120 = .ok (.newarray .byte, 2) := by decide +kernel
theorem dX12_init_122 : decode cX12_init 122 = .ok (.putfield 53, 3) := by decide +kernel
theorem dX12_init_125 : decode cX12_init 125 = .ok (.aload_n 0, 1) := by decide +kernel
theorem dX12_init_126 : decode cX12_init 126 = .ok (.bipush 13, 2) := by decide +kernel
theorem dX12_init_128 : decode cX12_init 128 = .ok (.newarray .int, 2) := by decide +kernel
theorem dX12_init_130 : decode cX12_init 130 = .ok (.putfield 56, 3) := by decide +kernel
theorem dX12_init_133 : decode cX12_init 133 = .ok (.aload_n 0, 1) := by decide +kernel
theorem dX12_init_134 : decode cX12_init 134 = .ok (.sipush 3600, 3) := by decide +kernel
theorem dX12_init_137 : decode cX12_init 137 = .ok (.newarray .int, 2) := by decide +kernel
theorem dX12_init_139 : decode cX12_init 139 = .ok (.putfield 59, 3) := by decide +kernel
theorem dX12_init_142 : decode cX12_init 142 = .ok (.aload_n 0, 1) := by decide +kernel
theorem dX12_init_143 : decode cX12_init 143 = .ok (.sipush 3721, 3) := by decide +kernel
theorem dX12_init_146 : decode cX12_init 146 = .ok (.newarray .int, 2) := by decide +kernel
theorem dX12_init_148 : decode cX12_init 148 = .ok (.putfield 62, 3) := by decide +kernel
theorem dX12_init_151 : decode cX12_init 151 = .ok (.aload_n 0, 1) := by decide +kernel
theorem dX12_init_152 : decode cX12_init 152 = .ok (.iconst 1, 1) := by decide +kernel
theorem dX12_init_153 : decode cX12_init 153 = .ok (.putfield 65, 3) := by decide +kernel
theorem dX12_init_156 : decode cX12_init 156 = .ok (.aload_n 0, 1) := by decide +kernel
theorem dX12_init_157 : decode cX12_init 157 = .ok (.bipush 6, 2) := by decide +kernel
theorem dX12_init_159 : decode cX12_init 159 = .ok (.newarray .int, 2) := by decide +kernel
theorem dX12_init_161 : decode cX12_init 161 = .ok (.putfield 68, 3) := by decide +kernel
theorem dX12_init_164 : decode cX12_init 164 = .ok (.aload_n 0, 1) := by decide +kernel
theorem dX12_init_165 : decode cX12_init 165 = .ok (.sipush 360, 3) := by decide +kernel
theorem dX12_init_168 : decode cX12_init 168 = .ok (.newarray .int, 2) := by decide +kernel
theorem dX12_init_170 : decode cX12_init 170 = .ok (.putfield 71, 3) := by decide +kernel
theorem dX12_init_173 : decode cX12_init 173 = .ok (.aload_n 0, 1) := by decide +kernel
theorem dX12_init_174 : decode cX12_init 174 = .ok (.sipush 252, 3) := by decide +kernel
theorem dX12_init_177 : decode cX12_init 177 = .ok (.newarray .long, 2) := by decide +kernel
theorem dX12_init_179 : decode cX12_init 179 = .ok (.putfield 74, 3) := by decide +kernel
theorem dX12_init_182 : decode cX12_init 182 = .ok (.aload_n 0, 1) := by decide +kernel
theorem dX12_init_183 : decode cX12_init 183 = .ok (.sipush 252, 3) := by decide +kernel
theorem dX12_init_186 : decode cX12_init 186 = .ok (.newarray .int, 2) := by decide +kernel
theorem dX12_init_188 : decode cX12_init 188 = .ok (.putfield 77, 3) := by decide +kernel
theorem dX12_init_191 : decode cX12_init 191 = .ok (.aload_n 0, 1) := by decide +kernel
theorem dX12_init_192 : decode cX12_init 192 = .ok (.bipush 21, 2) := by decide +kernel
theorem dX12_init_194 : decode cX12_init 194 = .ok (.newarray .int, 2) := by decide +kernel
theorem dX12_init_196 : decode cX12_init 196 = .ok (.putfield 80, 3) := by decide +kernel
theorem dX12_init_199 : decode cX12_init 199 = .ok (.aload_n 0, 1) := by decide +kernel
theorem dX12_init_200 : decode cX12_init 200 = .ok (.bipush 21, 2) := by decide +kernel
theorem dX12_init_202 : decode cX12_init 202 = .ok (.newarray .int, 2) := by decide +kernel
theorem dX12_init_204 : decode cX12_init 204 = .ok (.putfield 83, 3) := by decide +kernel
theorem dX12_init_207 : decode cX12_init 207 = .ok (.aload_n 0, 1) := by decide +kernel
theorem dX12_init_208 : decode cX12_init 208 = .ok (.bipush 21, 2) := by decide +kernel
theorem dX12_init_210 : decode cX12_init 210 = .ok (.newarray .int, 2) := by decide +kernel
theorem dX12_init_212 : decode cX12_init 212 = .ok (.putfield 86, 3) := by decide +kernel
theorem dX12_init_215 : decode cX12_init 215 = .ok (.aload_n 0, 1) := by decide +kernel
theorem dX12_init_216 : decode cX12_init 216 = .ok (.bipush 21, 2) := by decide +kernel
theorem dX12_init_218 : decode cX12_init 218 = .ok (.newarray .int, 2) := by decide +kernel
theorem dX12_init_220 : decode cX12_init 220 = .ok (.putfield 89, 3) := by decide +kernel
theorem dX12_init_223 : decode cX12_init 223 = .ok (.aload_n 0, 1) := by decide +kernel
theorem dX12_init_224 : decode cX12_init 224 = .ok (.bipush 20, 2) := by decide +kernel
theorem dX12_init_226 : decode cX12_init 226 = .ok (.newarray .boolean, 2) := by decide +kernel
theorem dX12_init_228 : decode cX12_init 228 = .ok (.putfield 92, 3) := by decide +kernel
theorem dX12_init_231 : decode cX12_init 231 = .ok (.aload_n 0, 1) := by decide +kernel
theorem dX12_init_232 : decode cX12_init 232 = .ok (.bipush 20, 2) := by decide +kernel
theorem dX12_init_234 : decode cX12_init 234 = .ok (.newarray .boolean, 2) := by decide +kernel
theorem dX12_init_236 : decode cX12_init 236 = .ok (.putfield 95, 3) := by decide +kernel
theorem dX12_init_239 : decode cX12_init 239 = .ok (.aload_n 0, 1) := by decide +kernel
theorem dX12_init_240 : decode cX12_init 240 = .ok (.bipush 60, 2) := by decide +kernel
theorem dX12_init_242 : decode cX12_init 242 = .ok (.newarray .boolean, 2) := by decide +kernel
theorem dX12_init_244 : decode cX12_init 244 = .ok (.putfield 98, 3) := by decide +kernel
theorem dX12_init_247 : decode cX12_init 247 = .ok (.aload_n 0, 1) := by decide +kernel
theorem dX12_init_248 : decode cX12_init 248 = .ok (.bipush 20, 2) := by decide +kernel
theorem dX12_init_250 : decode cX12_init 250 = .ok (.newarray .int, 2) := by decide +kernel
theorem dX12_init_252 : decode cX12_init 252 = .ok (.putfield 101, 3) := by decide +kernel
theorem dX12_init_255 : decode cX12_init 255 = .ok (.aload_n 0, 1) := by decide +kernel
theorem dX12_init_256 : decode cX12_init 256 = .ok (.bipush 40, 2) := by decide +kernel
theorem dX12_init_258 : decode cX12_init 258 = .ok (.newarray .int, 2) := by decide +kernel
theorem dX12_init_260 : decode cX12_init 260 = .ok (.putfield 104, 3) := by decide +kernel
theorem dX12_init_263 : decode cX12_init 263 = .ok (.aload_n 0, 1) := by decide +kernel
theorem dX12_init_264 : decode cX12_init 264 = .ok (.sipush 640, 3) := by decide +kernel
theorem dX12_init_267 : decode cX12_init 267 = .ok (.newarray .byte, 2) := by decide +kernel
theorem dX12_init_269 : decode cX12_init 269 = .ok (.putfield 107, 3) := by decide +kernel
theorem dX12_init_272 : decode cX12_init 272 = .ok (.return_, 1) := by decide +kernel
theorem dX12_sign_0 : decode cX12_sign 0 = .ok (.iload_n 1, 1) := by decide +kernel
theorem dX12_sign_1 : decode cX12_sign 1 = .ok (.aload_n 0, 1) := by decide +kernel
theorem dX12_sign_2 : decode cX12_sign 2 = .ok (.getfield 110, 3) := by decide +kernel
theorem dX12_sign_5 : decode cX12_sign 5 = .ok (.if_icmp .ge 16, 3) := by decide +kernel
theorem dX12_sign_8 : decode cX12_sign 8 = .ok (.aload_n 0, 1) := by decide +kernel
theorem dX12_sign_9 : decode cX12_sign 9 = .ok (.getfield 13, 3) := by decide +kernel
theorem dX12_sign_12 : decode cX12_sign 12 = .ok (.iload_n 1, 1) := by decide +kernel
theorem dX12_sign_13 : decode cX12_sign 13 = .ok (.baload, 1) := by decide +kernel
theorem dX12_sign_14 : decode cX12_sign 14 = .ok (.sipush 255, 3) := by decide +kernel
theorem dX12_sign_17 : decode cX12_sign 17 = .ok (.iand, 1) := by decide +kernel
theorem dX12_sign_18 : decode cX12_sign 18 = .ok (.goto 4, 3) := by decide +kernel
theorem dX12_sign_21 : decode cX12_sign 21 = .ok (.iconst 0, 1) := by decide +kernel
theorem dX12_sign_22 : decode cX12_sign 22 = .ok (.ireturn, 1) := by decide +kernel
theorem dX12_isLetter_0 : decode cX12_isLetter 0 = .ok (.iload_n 0, 1) := by decide +kernel
theorem dX12_isLetter_1 : decode cX12_isLetter 1 = .ok (.bipush 97, 2) := by decide +kernel
theorem dX12_isLetter_3 : decode cX12_isLetter 3 = .ok (.if_icmp .lt 13, 3) := by decide +kernel
theorem dX12_isLetter_6 : decode cX12_isLetter 6 = .ok (.iload_n 0, 1) := by decide +kernel
theorem dX12_isLetter_7 : decode cX12_isLetter 7 = .ok (.bipush 122, 2) := by decide +kernel
theorem dX12_isLetter_9 : decode cX12_isLetter 9 = .ok (.if_icmp .gt 7, 3) := by decide +kernel
theorem dX12_isLetter_12 : decode cX12_isLetter 12 = .ok (.iconst 1, 1) := by decide +kernel
theorem dX12_isLetter_13 : decode cX12_isLetter 13 = .ok (.goto 4, 3) := by decide +kernel
theorem dX12_isLetter_16 : decode cX12_isLetter 16 = .ok (.iconst 0, 1) := by decide +kernel
theorem dX12_isLetter_17 : decode cX12_isLetter 17 = .ok (.ireturn, 1) := by decide +kernel
theorem dX12_fails_0 : decode cX12_fails 0 = .ok (.aload_n 0, 1) := by decide +kernel
theorem dX12_fails_1 : decode cX12_fails 1 = .ok (.getfield 113, 3) := by decide +kernel
theorem dX12_fails_4 : decode cX12_fails 4 = .ok (.ifCond .le 4, 3) := by decide +kernel
theorem dX12_fails_7 : decode cX12_fails 7 = .ok (.return_, 1) := by decide +kernel
theorem dX12_fails_8 : decode cX12_fails 8 = .ok (.aload_n 0, 1) := by decide +kernel
theorem dX12_fails_9 : decode cX12_fails 9 = .ok (.iload_n 1, 1) := by decide +kernel
theorem dX12_fails_10 : decode cX12_fails 10 = .ok (.putfield 113, 3) := by decide +kernel
theorem dX12_fails_13 : decode cX12_fails 13 = .ok (.aload_n 0, 1) := by decide +kernel
theorem dX12_fails_14 : decode cX12_fails 14 = .ok (.iload_n 2, 1) := by decide +kernel
theorem dX12_fails_15 : decode cX12_fails 15 = .ok (.putfield 16, 3) := by decide +kernel
theorem dX12_fails_18 : decode cX12_fails 18 = .ok (.return_, 1) := by decide +kernel
theorem dX12_isGood_0 : decode cX12_isGood 0 = .ok (.aload_n 0, 1) := by decide +kernel
theorem dX12_isGood_1 : decode cX12_isGood 1 = .ok (.getfield 113, 3) := by decide +kernel
theorem dX12_isGood_4 : decode cX12_isGood 4 = .ok (.ifCond .ne 7, 3) := by decide +kernel
theorem dX12_isGood_7 : decode cX12_isGood 7 = .ok (.iconst 1, 1) := by decide +kernel
theorem dX12_isGood_8 : decode cX12_isGood 8 = .ok (.goto 4, 3) := by decide +kernel
theorem dX12_isGood_11 : decode cX12_isGood 11 = .ok (.iconst 0, 1) := by decide +kernel
theorem dX12_isGood_12 : decode cX12_isGood 12 = .ok (.ireturn, 1) := by decide +kernel
theorem dX12_next_0 : decode cX12_next 0 = .ok (.aload_n 0, 1) := by decide +kernel
theorem dX12_next_1 : decode cX12_next 1 = .ok (.aload_n 0, 1) := by decide +kernel
theorem dX12_next_2 : decode cX12_next 2 = .ok (.getfield 116, 3) := by decide +kernel
theorem dX12_next_5 : decode cX12_next 5 = .ok (.putfield 119, 3) := by decide +kernel
theorem dX12_next_8 : decode cX12_next 8 = .ok (.aload_n 0, 1) := by decide +kernel
theorem dX12_next_9 : decode cX12_next 9 = .ok (.getfield 119, 3) := by decide +kernel
theorem dX12_next_12 : decode cX12_next 12 = .ok (.aload_n 0, 1) := by decide +kernel
theorem dX12_next_13 : decode cX12_next 13 = .ok (.getfield 110, 3) := by decide +kernel
theorem dX12_next_16 : decode cX12_next 16 = .ok (.if_icmp .ge 42, 3) := by decide +kernel
theorem dX12_next_19 : decode cX12_next 19 = .ok (.aload_n 0, 1) := by decide +kernel
theorem dX12_next_20 : decode cX12_next 20 = .ok (.aload_n 0, 1) := by decide +kernel
theorem dX12_next_21 : decode cX12_next 21 = .ok (.getfield 119, 3) := by decide +kernel
theorem dX12_next_24 : decode cX12_next 24 = .ok (.invokevirtual 122, 3) := by decide +kernel
theorem dX12_next_27 : decode cX12_next 27 = .ok (.bipush 32, 2) := by decide +kernel
theorem dX12_next_29 : decode cX12_next 29 = .ok (.if_icmp .eq 16, 3) := by decide +kernel
theorem dX12_next_32 : decode cX12_next 32 = .ok (.aload_n 0, 1) := by decide +kernel
theorem dX12_next_33 : decode cX12_next 33 = .ok (.aload_n 0, 1) := by decide +kernel
theorem dX12_next_34 : decode cX12_next 34 = .ok (.getfield 119, 3) := by decide +kernel
theorem dX12_next_37 : decode cX12_next 37 = .ok (.invokevirtual 122, 3) := by decide +kernel
theorem dX12_next_40 : decode cX12_next 40 = .ok (.bipush 10, 2) := by decide +kernel
theorem dX12_next_42 : decode cX12_next 42 = .ok (.if_icmp .ne 16, 3) := by decide +kernel
theorem dX12_next_45 : decode cX12_next 45 = .ok (.aload_n 0, 1) := by decide +kernel
theorem dX12_next_46 : decode cX12_next 46 = .ok (.dup, 1) := by decide +kernel
theorem dX12_next_47 : decode cX12_next 47 = .ok (.getfield 119, 3) := by decide +kernel
theorem dX12_next_50 : decode cX12_next 50 = .ok (.iconst 1, 1) := by decide +kernel
theorem dX12_next_51 : decode cX12_next 51 = .ok (.iadd, 1) := by decide +kernel
theorem dX12_next_52 : decode cX12_next 52 = .ok (.putfield 119, 3) := by decide +kernel
theorem dX12_next_55 : decode cX12_next 55 = .ok (.goto (-47), 3) := by decide +kernel
theorem dX12_next_58 : decode cX12_next 58 = .ok (.aload_n 0, 1) := by decide +kernel
theorem dX12_next_59 : decode cX12_next 59 = .ok (.aload_n 0, 1) := by decide +kernel
theorem dX12_next_60 : decode cX12_next 60 = .ok (.getfield 119, 3) := by decide +kernel
theorem dX12_next_63 : decode cX12_next 63 = .ok (.invokevirtual 122, 3) := by decide +kernel
theorem dX12_next_66 : decode cX12_next 66 = .ok (.istore_n 1, 1) := by decide +kernel
theorem dX12_next_67 : decode cX12_next 67 = .ok (.aload_n 0, 1) := by decide +kernel
theorem dX12_next_68 : decode cX12_next 68 = .ok (.aload_n 0, 1) := by decide +kernel
theorem dX12_next_69 : decode cX12_next 69 = .ok (.getfield 119, 3) := by decide +kernel
theorem dX12_next_72 : decode cX12_next 72 = .ok (.iconst 1, 1) := by decide +kernel
theorem dX12_next_73 : decode cX12_next 73 = .ok (.iadd, 1) := by decide +kernel
theorem dX12_next_74 : decode cX12_next 74 = .ok (.putfield 116, 3) := by decide +kernel
theorem dX12_next_77 : decode cX12_next 77 = .ok (.aload_n 0, 1) := by decide +kernel
theorem dX12_next_78 : decode cX12_next 78 = .ok (.getfield 119, 3) := by decide +kernel
theorem dX12_next_81 : decode cX12_next 81 = .ok (.aload_n 0, 1) := by decide +kernel
theorem dX12_next_82 : decode cX12_next 82 = .ok (.getfield 110, 3) := by decide +kernel
theorem dX12_next_85 : decode cX12_next 85 = .ok (.if_icmp .lt 27, 3) := by decide +kernel
theorem dX12_next_88 : decode cX12_next 88 = .ok (.aload_n 0, 1) := by decide +kernel
theorem dX12_next_89 : decode cX12_next 89 = .ok (.iconst 0, 1) := by decide +kernel
theorem dX12_next_90 : decode cX12_next 90 = .ok (.putfield 126, 3) := by decide +kernel
theorem dX12_next_93 : decode cX12_next 93 = .ok (.aload_n 0, 1) := by decide +kernel
theorem dX12_next_94 : decode cX12_next 94 = .ok (.aload_n 0, 1) := by decide +kernel
theorem dX12_next_95 : decode cX12_next 95 = .ok (.getfield 110, 3) := by decide +kernel
theorem dX12_next_98 : decode cX12_next 98 = .ok (.putfield 119, 3) := by decide +kernel
theorem dX12_next_101 : decode cX12_next 101 = .ok (.aload_n 0, 1) := by decide +kernel
theorem dX12_next_102 : decode cX12_next 102 = .ok (.aload_n 0, 1) := by decide +kernel
theorem dX12_next_103 : decode cX12_next 103 = .ok (.getfield 110, 3) := by decide +kernel
theorem dX12_next_106 : decode cX12_next 106 = .ok (.putfield 116, 3) := by decide +kernel
theorem dX12_next_109 : decode cX12_next 109 = .ok (.goto 280, 3) := by decide +kernel
theorem dX12_next_112 : decode cX12_next 112 = .ok (.iload_n 1, 1) := by decide +kernel
theorem dX12_next_113 : decode cX12_next 113 = .ok (.invokestatic 129, 3) := by decide +kernel
theorem dX12_next_116 : decode cX12_next 116 = .ok (.ifCond .eq 109, 3) := by decide +kernel
theorem dX12_next_119 : decode cX12_next 119 = .ok (.aload_n 0, 1) := by decide +kernel
theorem dX12_next_120 : decode cX12_next 120 = .ok (.aload_n 0, 1) := by decide +kernel
theorem dX12_next_121 : decode cX12_next 121 = .ok (.getfield 116, 3) := by decide +kernel
theorem dX12_next_124 : decode cX12_next 124 = .ok (.invokevirtual 122, 3) := by decide +kernel
theorem dX12_next_127 : decode cX12_next 127 = .ok (.invokestatic 129, 3) := by decide +kernel
theorem dX12_next_130 : decode cX12_next 130 = .ok (.ifCond .eq 16, 3) := by decide +kernel
theorem dX12_next_133 : decode cX12_next 133 = .ok (.aload_n 0, 1) := by decide +kernel
theorem dX12_next_134 : decode cX12_next 134 = .ok (.dup, 1) := by decide +kernel
theorem dX12_next_135 : decode cX12_next 135 = .ok (.getfield 116, 3) := by decide +kernel
theorem dX12_next_138 : decode cX12_next 138 = .ok (.iconst 1, 1) := by decide +kernel
theorem dX12_next_139 : decode cX12_next 139 = .ok (.iadd, 1) := by decide +kernel
theorem dX12_next_140 : decode cX12_next 140 = .ok (.putfield 116, 3) := by decide +kernel
theorem dX12_next_143 : decode cX12_next 143 = .ok (.goto (-24), 3) := by decide +kernel
theorem dX12_next_146 : decode cX12_next 146 = .ok (.aload_n 0, 1) := by decide +kernel
theorem dX12_next_147 : decode cX12_next 147 = .ok (.lconst 0, 1) := by decide +kernel
theorem dX12_next_148 : decode cX12_next 148 = .ok (.putfield 133, 3) := by decide +kernel
theorem dX12_next_151 : decode cX12_next 151 = .ok (.aload_n 0, 1) := by decide +kernel
theorem dX12_next_152 : decode cX12_next 152 = .ok (.getfield 119, 3) := by decide +kernel
theorem dX12_next_155 : decode cX12_next 155 = .ok (.istore_n 2, 1) := by decide +kernel
theorem dX12_next_156 : decode cX12_next 156 = .ok (.iload_n 2, 1) := by decide +kernel
theorem dX12_next_157 : decode cX12_next 157 = .ok (.aload_n 0, 1) := by decide +kernel
theorem dX12_next_158 : decode cX12_next 158 = .ok (.getfield 116, 3) := by decide +kernel
theorem dX12_next_161 : decode cX12_next 161 = .ok (.if_icmp .ge 38, 3) := by decide +kernel
theorem dX12_next_164 : decode cX12_next 164 = .ok (.iload_n 2, 1) := by decide +kernel
theorem dX12_next_165 : decode cX12_next 165 = .ok (.aload_n 0, 1) := by decide +kernel
theorem dX12_next_166 : decode cX12_next 166 = .ok (.getfield 119, 3) := by decide +kernel
theorem dX12_next_169 : decode cX12_next 169 = .ok (.bipush 8, 2) := by decide +kernel
theorem dX12_next_171 : decode cX12_next 171 = .ok (.iadd, 1) := by decide +kernel
theorem dX12_next_172 : decode cX12_next 172 = .ok (.if_icmp .ge 27, 3) := by decide +kernel
theorem dX12_next_175 : decode cX12_next 175 = .ok (.aload_n 0, 1) := by decide +kernel
theorem dX12_next_176 : decode cX12_next 176 = .ok (.aload_n 0, 1) := by decide +kernel
theorem dX12_next_177 : decode cX12_next 177 = .ok (.getfield 133, 3) := by decide +kernel
theorem dX12_next_180 : decode cX12_next 180 = .ok (.bipush 8, 2) := by decide +kernel
theorem dX12_next_182 : decode cX12_next 182 = .ok (.lshl, 1) := by decide +kernel
theorem dX12_next_183 : decode cX12_next 183 = .ok (.aload_n 0, 1) := by decide +kernel
theorem dX12_next_184 : decode cX12_next 184 = .ok (.iload_n 2, 1) := by decide +kernel
theorem dX12_next_185 : decode cX12_next 185 = .ok (.invokevirtual 122, 3) := by decide +kernel
theorem dX12_next_188 : decode cX12_next 188 = .ok (.i2l, 1) := by decide +kernel
theorem dX12_next_189 : decode cX12_next 189 = .ok (.lor, 1) := by decide +kernel
theorem dX12_next_190 : decode cX12_next 190 = .ok (.putfield 133, 3) := by decide +kernel
theorem dX12_next_193 : decode cX12_next 193 = .ok (.iinc 2 1, 3) := by decide +kernel
theorem dX12_next_196 : decode cX12_next 196 = .ok (.goto (-40), 3) := by decide +kernel
theorem dX12_next_199 : decode cX12_next 199 = .ok (.aload_n 0, 1) := by decide +kernel
theorem dX12_next_200 : decode cX12_next 200 = .ok (.aload_n 0, 1) := by decide +kernel
theorem dX12_next_201 : decode cX12_next 201 = .ok (.getfield 116, 3) := by decide +kernel
theorem dX12_next_204 : decode cX12_next 204 = .ok (.aload_n 0, 1) := by decide +kernel
theorem dX12_next_205 : decode cX12_next 205 = .ok (.getfield 119, 3) := by decide +kernel
theorem dX12_next_208 : decode cX12_next 208 = .ok (.isub, 1) := by decide +kernel
theorem dX12_next_209 : decode cX12_next 209 = .ok (.bipush 8, 2) := by decide +kernel
theorem dX12_next_211 : decode cX12_next 211 = .ok (.if_icmp .le 7, 3) := by decide +kernel
theorem dX12_next_214 : decode cX12_next 214 = .ok (.iconst 1, 1) := by decide +kernel
theorem dX12_next_215 : decode cX12_next 215 = .ok (.goto 4, 3) := by decide +kernel
theorem dX12_next_218 : decode cX12_next 218 = .ok (.iconst 2, 1) := by decide +kernel
theorem dX12_next_219 : decode cX12_next 219 = .ok (.putfield 126, 3) := by decide +kernel
theorem dX12_next_222 : decode cX12_next 222 = .ok (.goto 167, 3) := by decide +kernel
theorem dX12_next_225 : decode cX12_next 225 = .ok (.iload_n 1, 1) := by decide +kernel
theorem dX12_next_226 : decode cX12_next 226 = .ok (.bipush 34, 2) := by decide +kernel
theorem dX12_next_228 : decode cX12_next 228 = .ok (.if_icmp .ne 128, 3) := by decide +kernel
theorem dX12_next_231 : decode cX12_next 231 = .ok (.aload_n 0, 1) := by decide +kernel
theorem dX12_next_232 : decode cX12_next 232 = .ok (.getfield 116, 3) := by decide +kernel
theorem dX12_next_235 : decode cX12_next 235 = .ok (.aload_n 0, 1) := by decide +kernel
theorem dX12_next_236 : decode cX12_next 236 = .ok (.getfield 110, 3) := by decide +kernel
theorem dX12_next_239 : decode cX12_next 239 = .ok (.if_icmp .ge 55, 3) := by decide +kernel
theorem dX12_next_242 : decode cX12_next 242 = .ok (.aload_n 0, 1) := by decide +kernel
theorem dX12_next_243 : decode cX12_next 243 = .ok (.aload_n 0, 1) := by decide +kernel
theorem dX12_next_244 : decode cX12_next 244 = .ok (.getfield 116, 3) := by decide +kernel
theorem dX12_next_247 : decode cX12_next 247 = .ok (.invokevirtual 122, 3) := by decide +kernel
theorem dX12_next_250 : decode cX12_next 250 = .ok (.bipush 32, 2) := by decide +kernel
theorem dX12_next_252 : decode cX12_next 252 = .ok (.if_icmp .lt 42, 3) := by decide +kernel
theorem dX12_next_255 : decode cX12_next 255 = .ok (.aload_n 0, 1) := by decide +kernel
theorem dX12_next_256 : decode cX12_next 256 = .ok (.aload_n 0, 1) := by decide +kernel
theorem dX12_next_257 : decode cX12_next 257 = .ok (.getfield 116, 3) := by decide +kernel
theorem dX12_next_260 : decode cX12_next 260 = .ok (.invokevirtual 122, 3) := by decide +kernel
theorem dX12_next_263 : decode cX12_next 263 = .ok (.bipush 127, 2) := by decide +kernel
theorem dX12_next_265 : decode cX12_next 265 = .ok (.if_icmp .ge 29, 3) := by decide +kernel
theorem dX12_next_268 : decode cX12_next 268 = .ok (.aload_n 0, 1) := by decide +kernel
theorem dX12_next_269 : decode cX12_next 269 = .ok (.aload_n 0, 1) := by decide +kernel
theorem dX12_next_270 : decode cX12_next 270 = .ok (.getfield 116, 3) := by decide +kernel
theorem dX12_next_273 : decode cX12_next 273 = .ok (.invokevirtual 122, 3) := by decide +kernel
theorem dX12_next_276 : decode cX12_next 276 = .ok (.bipush 34, 2) := by decide +kernel
theorem dX12_next_278 : decode cX12_next 278 = .ok (.if_icmp .eq 16, 3) := by decide +kernel
theorem dX12_next_281 : decode cX12_next 281 = .ok (.aload_n 0, 1) := by decide +kernel
theorem dX12_next_282 : decode cX12_next 282 = .ok (.dup, 1) := by decide +kernel
theorem dX12_next_283 : decode cX12_next 283 = .ok (.getfield 116, 3) := by decide +kernel
theorem dX12_next_286 : decode cX12_next 286 = .ok (.iconst 1, 1) := by decide +kernel
theorem dX12_next_287 : decode cX12_next 287 = .ok (.iadd, 1) := by decide +kernel
theorem dX12_next_288 : decode cX12_next 288 = .ok (.putfield 116, 3) := by decide +kernel
theorem dX12_next_291 : decode cX12_next 291 = .ok (.goto (-60), 3) := by decide +kernel
theorem dX12_next_294 : decode cX12_next 294 = .ok (.aload_n 0, 1) := by decide +kernel
theorem dX12_next_295 : decode cX12_next 295 = .ok (.aload_n 0, 1) := by decide +kernel
theorem dX12_next_296 : decode cX12_next 296 = .ok (.getfield 116, 3) := by decide +kernel
theorem dX12_next_299 : decode cX12_next 299 = .ok (.aload_n 0, 1) := by decide +kernel
theorem dX12_next_300 : decode cX12_next 300 = .ok (.getfield 110, 3) := by decide +kernel
theorem dX12_next_303 : decode cX12_next 303 = .ok (.if_icmp .ge 36, 3) := by decide +kernel
theorem dX12_next_306 : decode cX12_next 306 = .ok (.aload_n 0, 1) := by decide +kernel
theorem dX12_next_307 : decode cX12_next 307 = .ok (.aload_n 0, 1) := by decide +kernel
theorem dX12_next_308 : decode cX12_next 308 = .ok (.getfield 116, 3) := by decide +kernel
theorem dX12_next_311 : decode cX12_next 311 = .ok (.invokevirtual 122, 3) := by decide +kernel
theorem dX12_next_314 : decode cX12_next 314 = .ok (.bipush 34, 2) := by decide +kernel
theorem dX12_next_316 : decode cX12_next 316 = .ok (.if_icmp .ne 23, 3) := by decide +kernel
theorem dX12_next_319 : decode cX12_next 319 = .ok (.aload_n 0, 1) := by decide +kernel
theorem dX12_next_320 : decode cX12_next 320 = .ok (.getfield 116, 3) := by decide +kernel
theorem dX12_next_323 : decode cX12_next 323 = .ok (.aload_n 0, 1) := by decide +kernel
theorem dX12_next_324 : decode cX12_next 324 = .ok (.getfield 119, 3) := by decide +kernel
theorem dX12_next_327 : decode cX12_next 327 = .ok (.isub, 1) := by decide +kernel
theorem dX12_next_328 : decode cX12_next 328 = .ok (.iconst 1, 1) := by decide +kernel
theorem dX12_next_329 : decode cX12_next 329 = .ok (.isub, 1) := by decide +kernel
theorem dX12_next_330 : decode cX12_next 330 = .ok (.bipush 16, 2) := by decide +kernel
theorem dX12_next_332 : decode cX12_next 332 = .ok (.if_icmp .gt 7, 3) := by decide +kernel
theorem dX12_next_335 : decode cX12_next 335 = .ok (.iconst 3, 1) := by decide +kernel
theorem dX12_next_336 : decode cX12_next 336 = .ok (.goto 4, 3) := by decide +kernel
theorem dX12_next_339 : decode cX12_next 339 = .ok (.iconst 1, 1) := by decide +kernel
theorem dX12_next_340 : decode cX12_next 340 = .ok (.putfield 126, 3) := by decide +kernel
theorem dX12_next_343 : decode cX12_next 343 = .ok (.aload_n 0, 1) := by decide +kernel
theorem dX12_next_344 : decode cX12_next 344 = .ok (.dup, 1) := by decide +kernel
theorem dX12_next_345 : decode cX12_next 345 = .ok (.getfield 116, 3) := by decide +kernel
theorem dX12_next_348 : decode cX12_next 348 = .ok (.iconst 1, 1) := by decide +kernel
theorem dX12_next_349 : decode cX12_next 349 = .ok (.iadd, 1) := by decide +kernel
theorem dX12_next_350 : decode cX12_next 350 = .ok (.putfield 116, 3) := by decide +kernel
theorem dX12_next_353 : decode cX12_next 353 = .ok (.goto 36, 3) := by decide +kernel
theorem dX12_next_356 : decode cX12_next 356 = .ok (.aload_n 0, 1) := by decide +kernel
theorem dX12_next_357 : decode cX12_next 357 = .ok (.iload_n 1, 1) := by decide +kernel
theorem dX12_next_358 : decode cX12_next 358 = .ok (.bipush 35, 2) := by decide +kernel
theorem dX12_next_360 : decode cX12_next 360 = .ok (.if_icmp .eq 21, 3) := by decide +kernel
theorem dX12_next_363 : decode cX12_next 363 = .ok (.iload_n 1, 1) := by decide +kernel
theorem dX12_next_364 : decode cX12_next 364 = .ok (.bipush 33, 2) := by decide +kernel
theorem dX12_next_366 : decode cX12_next 366 = .ok (.if_icmp .eq 15, 3) := by decide +kernel
theorem dX12_next_369 : decode cX12_next 369 = .ok (.iload_n 1, 1) := by decide +kernel
theorem dX12_next_370 : decode cX12_next 370 = .ok (.bipush 40, 2) := by decide +kernel
theorem dX12_next_372 : decode cX12_next 372 = .ok (.if_icmp .eq 9, 3) := by decide +kernel
theorem dX12_next_375 : decode cX12_next 375 = .ok (.iload_n 1, 1) := by decide +kernel
theorem dX12_next_376 : decode cX12_next 376 = .ok (.bipush 41, 2) := by decide +kernel
theorem dX12_next_378 : decode cX12_next 378 = .ok (.if_icmp .ne 7, 3) := by decide +kernel
theorem dX12_next_381 : decode cX12_next 381 = .ok (.iconst 4, 1) := by decide +kernel
theorem dX12_next_382 : decode cX12_next 382 = .ok (.goto 4, 3) := by decide +kernel
theorem dX12_next_385 : decode cX12_next 385 = .ok (.iconst 1, 1) := by decide +kernel
theorem dX12_next_386 : decode cX12_next 386 = .ok (.putfield 126, 3) := by decide +kernel
theorem dX12_next_389 : decode cX12_next 389 = .ok (.return_, 1) := by decide +kernel
theorem dX12_is_0 : decode cX12_is 0 = .ok (.aload_n 0, 1) := by decide +kernel
theorem dX12_is_1 : decode cX12_is 1 = .ok (.getfield 126, 3) := by decide +kernel
theorem dX12_is_4 : decode cX12_is 4 = .ok (.iconst 4, 1) := by decide +kernel
theorem dX12_is_5 : decode cX12_is 5 = .ok (.if_icmp .ne 19, 3) := by decide +kernel
theorem dX12_is_8 : decode cX12_is 8 = .ok (.aload_n 0, 1) := by decide +kernel
theorem dX12_is_9 : decode cX12_is 9 = .ok (.aload_n 0, 1) := by decide +kernel
theorem dX12_is_10 : decode cX12_is 10 = .ok (.getfield 119, 3) := by decide +kernel
theorem dX12_is_13 : decode cX12_is 13 = .ok (.invokevirtual 122, 3) := by decide +kernel
theorem dX12_is_16 : decode cX12_is 16 = .ok (.iload_n 1, 1) := by decide +kernel
theorem dX12_is_17 : decode cX12_is 17 = .ok (.if_icmp .ne 7, 3) := by decide +kernel
theorem dX12_is_20 : decode cX12_is 20 = .ok (.iconst 1, 1) := by decide +kernel
theorem dX12_is_21 : decode cX12_is 21 = .ok (.goto 4, 3) := by decide +kernel
theorem dX12_is_24 : decode cX12_is 24 = .ok (.iconst 0, 1) := by decide +kernel
theorem dX12_is_25 : decode cX12_is 25 = .ok (.ireturn, 1) := by decide +kernel
theorem dX12_wrong_0 : decode cX12_wrong 0 = .ok (.aload_n 0, 1) := by decide +kernel
theorem dX12_wrong_1 : decode cX12_wrong 1 = .ok (.aload_n 0, 1) := by decide +kernel
theorem dX12_wrong_2 : decode cX12_wrong 2 = .ok (.getfield 126, 3) := by decide +kernel
theorem dX12_wrong_5 : decode cX12_wrong 5 = .ok (.iconst 1, 1) := by decide +kernel
theorem dX12_wrong_6 : decode cX12_wrong 6 = .ok (.if_icmp .ne 7, 3) := by decide +kernel
theorem dX12_wrong_9 : decode cX12_wrong 9 = .ok (.iconst 1, 1) := by decide +kernel
theorem dX12_wrong_10 : decode cX12_wrong 10 = .ok (.goto 4, 3) := by decide +kernel
theorem dX12_wrong_13 : decode cX12_wrong 13 = .ok (.iconst 2, 1) := by decide +kernel
theorem dX12_wrong_14 : decode cX12_wrong 14 = .ok (.aload_n 0, 1) := by decide +kernel
theorem dX12_wrong_15 : decode cX12_wrong 15 = .ok (.getfield 119, 3) := by decide +kernel
theorem dX12_wrong_18 : decode cX12_wrong 18 = .ok (.invokevirtual 137, 3) := by decide +kernel
theorem dX12_wrong_21 : decode cX12_wrong 21 = .ok (.return_, 1) := by decide +kernel
theorem dX12_spot_0 : decode cX12_spot 0 = .ok (.bipush 60, 2) := by decide +kernel
theorem dX12_spot_2 : decode cX12_spot 2 = .ok (.iload_n 0, 1) := by decide +kernel
theorem dX12_spot_3 : decode cX12_spot 3 = .ok (.imul, 1) := by decide +kernel
theorem dX12_spot_4 : decode cX12_spot 4 = .ok (.iload_n 1, 1) := by decide +kernel
theorem dX12_spot_5 : decode cX12_spot 5 = .ok (.iadd, 1) := by decide +kernel
theorem dX12_spot_6 : decode cX12_spot 6 = .ok (.ireturn, 1) := by decide +kernel
theorem dX12_readPart_0 : decode cX12_readPart 0 = .ok (.aload_n 0, 1) := by decide +kernel
theorem dX12_readPart_1 : decode cX12_readPart 1 = .ok (.getfield 126, 3) := by decide +kernel
theorem dX12_readPart_4 : decode cX12_readPart 4 = .ok (.iconst 2, 1) := by decide +kernel
theorem dX12_readPart_5 : decode cX12_readPart 5 = .ok (.if_icmp .ne 24, 3) := by decide +kernel
theorem dX12_readPart_8 : decode cX12_readPart 8 = .ok (.aload_n 0, 1) := by decide +kernel
theorem dX12_readPart_9 : decode cX12_readPart 9 = .ok (.getfield 20, 3) := by decide +kernel
theorem dX12_readPart_12 : decode cX12_readPart 12 = .ok (.bipush 30, 2) := by decide +kernel
theorem dX12_readPart_14 : decode cX12_readPart 14 = .ok (.iaload, 1) := by decide +kernel
theorem dX12_readPart_15 : decode cX12_readPart 15 = .ok (.bipush 60, 2) := by decide +kernel
theorem dX12_readPart_17 : decode cX12_readPart 17 = .ok (.if_icmp .eq 12, 3) := by decide +kernel
theorem dX12_readPart_20 : decode cX12_readPart 20 = .ok (.aload_n 0, 1) := by decide +kernel
theorem dX12_readPart_21 : decode cX12_readPart 21 = .ok (.getfield 141, 3) := by decide +kernel
theorem dX12_readPart_24 : decode cX12_readPart 24 = .ok (.bipush 12, 2) := by decide +kernel
theorem dX12_readPart_26 : decode cX12_readPart 26 = .ok (.if_icmp .ne 7, 3) := by decide +kernel
theorem dX12_readPart_29 : decode cX12_readPart 29 = .ok (.aload_n 0, 1) := by decide +kernel
theorem dX12_readPart_30 : decode cX12_readPart 30 = .ok (.invokevirtual 144, 3) := by decide +kernel
theorem dX12_readPart_33 : decode cX12_readPart 33 = .ok (.aload_n 0, 1) := by decide +kernel
theorem dX12_readPart_34 : decode cX12_readPart 34 = .ok (.invokevirtual 147, 3) := by decide +kernel
theorem dX12_readPart_37 : decode cX12_readPart 37 = .ok (.ifCond .ne 4, 3) := by decide +kernel
theorem dX12_readPart_40 : decode cX12_readPart 40 = .ok (.return_, 1) := by decide +kernel
theorem dX12_readPart_41 : decode cX12_readPart 41 = .ok (.aload_n 0, 1) := by decide +kernel
theorem dX12_readPart_42 : decode cX12_readPart 42 = .ok (.getfield 20, 3) := by decide +kernel
theorem dX12_readPart_45 : decode cX12_readPart 45 = .ok (.bipush 30, 2) := by decide +kernel
theorem dX12_readPart_47 : decode cX12_readPart 47 = .ok (.iaload, 1) := by decide +kernel
theorem dX12_readPart_48 : decode cX12_readPart 48 = .ok (.istore_n 1, 1) := by decide +kernel
theorem dX12_readPart_49 : decode cX12_readPart 49 = .ok (.bipush 30, 2) := by decide +kernel
theorem dX12_readPart_51 : decode cX12_readPart 51 = .ok (.iload_n 1, 1) := by decide +kernel
theorem dX12_readPart_52 : decode cX12_readPart 52 = .ok (.invokestatic 151, 3) := by decide +kernel
theorem dX12_readPart_55 : decode cX12_readPart 55 = .ok (.istore_n 2, 1) := by decide +kernel
theorem dX12_readPart_56 : decode cX12_readPart 56 = .ok (.aload_n 0, 1) := by decide +kernel
theorem dX12_readPart_57 : decode cX12_readPart 57 = .ok (.getfield 42, 3) := by decide +kernel
theorem dX12_readPart_60 : decode cX12_readPart 60 = .ok (.iload_n 2, 1) := by decide +kernel
theorem dX12_readPart_61 : decode cX12_readPart 61 = .ok (.aload_n 0, 1) := by decide +kernel
theorem dX12_readPart_62 : decode cX12_readPart 62 = .ok (.getfield 133, 3) := by decide +kernel
theorem dX12_readPart_65 : decode cX12_readPart 65 = .ok (.lastore, 1) := by decide +kernel
theorem dX12_readPart_66 : decode cX12_readPart 66 = .ok (.aload_n 0, 1) := by decide +kernel
theorem dX12_readPart_67 : decode cX12_readPart 67 = .ok (.getfield 46, 3) := by decide +kernel
theorem dX12_readPart_70 : decode cX12_readPart 70 = .ok (.iload_n 2, 1) := by decide +kernel
theorem dX12_readPart_71 : decode cX12_readPart 71 = .ok (.lconst 0, 1) := by decide +kernel
theorem dX12_readPart_72 : decode cX12_readPart 72 = .ok (.lastore, 1) := by decide +kernel
theorem dX12_readPart_73 : decode cX12_readPart 73 = .ok (.aload_n 0, 1) := by decide +kernel
theorem dX12_readPart_74 : decode cX12_readPart 74 = .ok (.getfield 36, 3) := by decide +kernel
theorem dX12_readPart_77 : decode cX12_readPart 77 = .ok (.iload_n 2, 1) := by decide +kernel
theorem dX12_readPart_78 : decode cX12_readPart 78 = .ok (.iconst (-1), 1) := by decide +kernel
theorem dX12_readPart_79 : decode cX12_readPart 79 = .ok (.iastore, 1) := by decide +kernel
theorem dX12_readPart_80 : decode cX12_readPart 80 = .ok (.aload_n 0, 1) := by decide +kernel
theorem dX12_readPart_81 : decode cX12_readPart 81 = .ok (.getfield 49, 3) := by decide +kernel
theorem dX12_readPart_84 : decode cX12_readPart 84 = .ok (.iload_n 2, 1) := by decide +kernel
theorem dX12_readPart_85 : decode cX12_readPart 85 = .ok (.iconst 0, 1) := by decide +kernel
theorem dX12_readPart_86 : decode cX12_readPart 86 = .ok (.bastore, 1) := by decide +kernel
theorem dX12_readPart_87 : decode cX12_readPart 87 = .ok (.aload_n 0, 1) := by decide +kernel
theorem dX12_readPart_88 : decode cX12_readPart 88 = .ok (.getfield 39, 3) := by decide +kernel
theorem dX12_readPart_91 : decode cX12_readPart 91 = .ok (.iload_n 2, 1) := by decide +kernel
theorem dX12_readPart_92 : decode cX12_readPart 92 = .ok (.iconst 0, 1) := by decide +kernel
theorem dX12_readPart_93 : decode cX12_readPart 93 = .ok (.iastore, 1) := by decide +kernel
theorem dX12_readPart_94 : decode cX12_readPart 94 = .ok (.aload_n 0, 1) := by decide +kernel
theorem dX12_readPart_95 : decode cX12_readPart 95 = .ok (.getfield 24, 3) := by decide +kernel
theorem dX12_readPart_98 : decode cX12_readPart 98 = .ok (.iload_n 2, 1) := by decide +kernel
theorem dX12_readPart_99 : decode cX12_readPart 99 = .ok (.aload_n 0, 1) := by decide +kernel
theorem dX12_readPart_100 : decode cX12_readPart 100 = .ok (.getfield 141, 3) := by decide +kernel
theorem dX12_readPart_103 : decode cX12_readPart 103 = .ok (.ifCond .ne 7, 3) := by decide +kernel
theorem dX12_readPart_106 : decode cX12_readPart 106 = .ok (.iconst (-1), 1) := by decide +kernel
theorem dX12_readPart_107 : decode cX12_readPart 107 = .ok (.goto 14, 3) := by decide +kernel
theorem dX12_readPart_110 : decode cX12_readPart 110 = .ok (.aload_n 0, 1) := by decide +kernel
theorem dX12_readPart_111 : decode cX12_readPart 111 = .ok (.getfield 56, 3) := by decide +kernel
theorem dX12_readPart_114 : decode cX12_readPart 114 = .ok (.aload_n 0, 1) := by decide +kernel
theorem dX12_readPart_115 : decode cX12_readPart 115 = .ok (.getfield 141, 3) := by decide +kernel
theorem dX12_readPart_118 : decode cX12_readPart 118 = .ok (.iconst 1, 1) := by decide +kernel
theorem dX12_readPart_119 : decode cX12_readPart 119 = .ok (.isub, 1) := by decide +kernel
theorem dX12_readPart_120 : decode cX12_readPart 120 = .ok (.iaload, 1) := by decide +kernel
theorem dX12_readPart_121 : decode cX12_readPart 121 = .ok (.iastore, 1) := by decide +kernel
theorem dX12_readPart_122 : decode cX12_readPart 122 = .ok (.aload_n 0, 1) := by decide +kernel
theorem dX12_readPart_123 : decode cX12_readPart 123 = .ok (.getfield 33, 3) := by decide +kernel
theorem dX12_readPart_126 : decode cX12_readPart 126 = .ok (.iload_n 2, 1) := by decide +kernel
theorem dX12_readPart_127 : decode cX12_readPart 127 = .ok (.aload_n 0, 1) := by decide +kernel
theorem dX12_readPart_128 : decode cX12_readPart 128 = .ok (.getfield 141, 3) := by decide +kernel
theorem dX12_readPart_131 : decode cX12_readPart 131 = .ok (.iastore, 1) := by decide +kernel
theorem dX12_readPart_132 : decode cX12_readPart 132 = .ok (.aload_n 0, 1) := by decide +kernel
theorem dX12_readPart_133 : decode cX12_readPart 133 = .ok (.getfield 20, 3) := by decide +kernel
theorem dX12_readPart_136 : decode cX12_readPart 136 = .ok (.bipush 30, 2) := by decide +kernel
theorem dX12_readPart_138 : decode cX12_readPart 138 = .ok (.dup2, 1) := by decide +kernel
theorem dX12_readPart_139 : decode cX12_readPart 139 = .ok (.iaload, 1) := by decide +kernel
theorem dX12_readPart_140 : decode cX12_readPart 140 = .ok (.iconst 1, 1) := by decide +kernel
theorem dX12_readPart_141 : decode cX12_readPart 141 = .ok (.iadd, 1) := by decide +kernel
theorem dX12_readPart_142 : decode cX12_readPart 142 = .ok (.iastore, 1) := by decide +kernel
theorem dX12_readPart_143 : decode cX12_readPart 143 = .ok (.aload_n 0, 1) := by decide +kernel
theorem dX12_readPart_144 : decode cX12_readPart 144 = .ok (.invokevirtual 155, 3) := by decide +kernel
theorem dX12_readPart_147 : decode cX12_readPart 147 = .ok (.aload_n 0, 1) := by decide +kernel
theorem dX12_readPart_148 : decode cX12_readPart 148 = .ok (.bipush 35, 2) := by decide +kernel
theorem dX12_readPart_150 : decode cX12_readPart 150 = .ok (.invokevirtual 158, 3) := by decide +kernel
theorem dX12_readPart_153 : decode cX12_readPart 153 = .ok (.ifCond .eq 40, 3) := by decide +kernel
theorem dX12_readPart_156 : decode cX12_readPart 156 = .ok (.aload_n 0, 1) := by decide +kernel
theorem dX12_readPart_157 : decode cX12_readPart 157 = .ok (.invokevirtual 155, 3) := by decide +kernel
theorem dX12_readPart_160 : decode cX12_readPart 160 = .ok (.aload_n 0, 1) := by decide +kernel
theorem dX12_readPart_161 : decode cX12_readPart 161 = .ok (.getfield 126, 3) := by decide +kernel
theorem dX12_readPart_164 : decode cX12_readPart 164 = .ok (.iconst 2, 1) := by decide +kernel
theorem dX12_readPart_165 : decode cX12_readPart 165 = .ok (.if_icmp .eq 7, 3) := by decide +kernel
theorem dX12_readPart_168 : decode cX12_readPart 168 = .ok (.aload_n 0, 1) := by decide +kernel
theorem dX12_readPart_169 : decode cX12_readPart 169 = .ok (.invokevirtual 144, 3) := by decide +kernel
theorem dX12_readPart_172 : decode cX12_readPart 172 = .ok (.aload_n 0, 1) := by decide +kernel
theorem dX12_readPart_173 : decode cX12_readPart 173 = .ok (.getfield 46, 3) := by decide +kernel
theorem dX12_readPart_176 : decode cX12_readPart 176 = .ok (.iload_n 2, 1) := by decide +kernel
theorem dX12_readPart_177 : decode cX12_readPart 177 = .ok (.aload_n 0, 1) := by decide +kernel
theorem dX12_readPart_178 : decode cX12_readPart 178 = .ok (.getfield 133, 3) := by decide +kernel
theorem dX12_readPart_181 : decode cX12_readPart 181 = .ok (.lastore, 1) := by decide +kernel
theorem dX12_readPart_182 : decode cX12_readPart 182 = .ok (.aload_n 0, 1) := by decide +kernel
theorem dX12_readPart_183 : decode cX12_readPart 183 = .ok (.invokevirtual 147, 3) := by decide +kernel
theorem dX12_readPart_186 : decode cX12_readPart 186 = .ok (.ifCond .eq 7, 3) := by decide +kernel
theorem dX12_readPart_189 : decode cX12_readPart 189 = .ok (.aload_n 0, 1) := by decide +kernel
theorem dX12_readPart_190 : decode cX12_readPart 190 = .ok (.invokevirtual 155, 3) := by decide +kernel
theorem dX12_readPart_193 : decode cX12_readPart 193 = .ok (.aload_n 0, 1) := by decide +kernel
theorem dX12_readPart_194 : decode cX12_readPart 194 = .ok (.invokevirtual 147, 3) := by decide +kernel
theorem dX12_readPart_197 : decode cX12_readPart 197 = .ok (.ifCond .eq 74, 3) := by decide +kernel
theorem dX12_readPart_200 : decode cX12_readPart 200 = .ok (.aload_n 0, 1) := by decide +kernel
theorem dX12_readPart_201 : decode cX12_readPart 201 = .ok (.getfield 126, 3) := by decide +kernel
theorem dX12_readPart_204 : decode cX12_readPart 204 = .ok (.iconst 3, 1) := by decide +kernel
theorem dX12_readPart_205 : decode cX12_readPart 205 = .ok (.if_icmp .ne 66, 3) := by decide +kernel
theorem dX12_readPart_208 : decode cX12_readPart 208 = .ok (.aload_n 0, 1) := by decide +kernel
theorem dX12_readPart_209 : decode cX12_readPart 209 = .ok (.getfield 36, 3) := by decide +kernel
theorem dX12_readPart_212 : decode cX12_readPart 212 = .ok (.iload_n 2, 1) := by decide +kernel
theorem dX12_readPart_213 : decode cX12_readPart 213 = .ok (.aload_n 0, 1) := by decide +kernel
theorem dX12_readPart_214 : decode cX12_readPart 214 = .ok (.getfield 116, 3) := by decide +kernel
theorem dX12_readPart_217 : decode cX12_readPart 217 = .ok (.aload_n 0, 1) := by decide +kernel
theorem dX12_readPart_218 : decode cX12_readPart 218 = .ok (.getfield 119, 3) := by decide +kernel
theorem dX12_readPart_221 : decode cX12_readPart 221 = .ok (.isub, 1) := by decide +kernel
theorem dX12_readPart_222 : decode cX12_readPart 222 = .ok (.iconst 2, 1) := by decide +kernel
theorem dX12_readPart_223 : decode cX12_readPart 223 = .ok (.isub, 1) := by decide +kernel
theorem dX12_readPart_224 : decode cX12_readPart 224 = .ok (.iastore, 1) := by decide +kernel
theorem dX12_readPart_225 : decode cX12_readPart 225 = .ok (.iconst 0, 1) := by decide +kernel
theorem dX12_readPart_226 : decode cX12_readPart 226 = .ok (.istore_n 3, 1) := by decide +kernel
theorem dX12_readPart_227 : decode cX12_readPart 227 = .ok (.iload_n 3, 1) := by decide +kernel
theorem dX12_readPart_228 : decode cX12_readPart 228 = .ok (.aload_n 0, 1) := by decide +kernel
theorem dX12_readPart_229 : decode cX12_readPart 229 = .ok (.getfield 36, 3) := by decide +kernel
theorem dX12_readPart_232 : decode cX12_readPart 232 = .ok (.iload_n 2, 1) := by decide +kernel
theorem dX12_readPart_233 : decode cX12_readPart 233 = .ok (.iaload, 1) := by decide +kernel
theorem dX12_readPart_234 : decode cX12_readPart 234 = .ok (.if_icmp .ge 33, 3) := by decide +kernel
theorem dX12_readPart_237 : decode cX12_readPart 237 = .ok (.aload_n 0, 1) := by decide +kernel
theorem dX12_readPart_238 : decode cX12_readPart 238 = .ok (.getfield 53, 3) := by decide +kernel
theorem dX12_readPart_241 : decode cX12_readPart 241 = .ok (.bipush 16, 2) := by decide +kernel
theorem dX12_readPart_243 : decode cX12_readPart 243 = .ok (.iload_n 2, 1) := by decide +kernel
theorem dX12_readPart_244 : decode cX12_readPart 244 = .ok (.imul, 1) := by decide +kernel
theorem dX12_readPart_245 : decode cX12_readPart 245 = .ok (.iload_n 3, 1) := by decide +kernel
theorem dX12_readPart_246 : decode cX12_readPart 246 = .ok (.iadd, 1) := by decide +kernel
theorem dX12_readPart_247 : decode cX12_readPart 247 = .ok (.aload_n 0, 1) := by decide +kernel
theorem dX12_readPart_248 : decode cX12_readPart 248 = .ok (.getfield 13, 3) := by decide +kernel
theorem dX12_readPart_251 : decode cX12_readPart 251 = .ok (.aload_n 0, 1) := by decide +kernel
theorem dX12_readPart_252 : decode cX12_readPart 252 = .ok (.getfield 119, 3) := by decide +kernel
theorem dX12_readPart_255 : decode cX12_readPart 255 = .ok (.iconst 1, 1) := by decide +kernel
theorem dX12_readPart_256 : decode cX12_readPart 256 = .ok (.iadd, 1) := by decide +kernel
theorem dX12_readPart_257 : decode cX12_readPart 257 = .ok (.iload_n 3, 1) := by decide +kernel
theorem dX12_readPart_258 : decode cX12_readPart 258 = .ok (.iadd, 1) := by decide +kernel
theorem dX12_readPart_259 : decode cX12_readPart 259 = .ok (.baload, 1) := by decide +kernel
theorem dX12_readPart_260 : decode cX12_readPart 260 = .ok (.bastore, 1) := by decide +kernel
theorem dX12_readPart_261 : decode cX12_readPart 261 = .ok (.iinc 3 1, 3) := by decide +kernel
theorem dX12_readPart_264 : decode cX12_readPart 264 = .ok (.goto (-37), 3) := by decide +kernel
theorem dX12_readPart_267 : decode cX12_readPart 267 = .ok (.aload_n 0, 1) := by decide +kernel
theorem dX12_readPart_268 : decode cX12_readPart 268 = .ok (.invokevirtual 155, 3) := by decide +kernel
theorem dX12_readPart_271 : decode cX12_readPart 271 = .ok (.aload_n 0, 1) := by decide +kernel
theorem dX12_readPart_272 : decode cX12_readPart 272 = .ok (.invokevirtual 147, 3) := by decide +kernel
theorem dX12_readPart_275 : decode cX12_readPart 275 = .ok (.ifCond .eq 23, 3) := by decide +kernel
theorem dX12_readPart_278 : decode cX12_readPart 278 = .ok (.aload_n 0, 1) := by decide +kernel
theorem dX12_readPart_279 : decode cX12_readPart 279 = .ok (.bipush 33, 2) := by decide +kernel
theorem dX12_readPart_281 : decode cX12_readPart 281 = .ok (.invokevirtual 158, 3) := by decide +kernel
theorem dX12_readPart_284 : decode cX12_readPart 284 = .ok (.ifCond .eq 14, 3) := by decide +kernel
theorem dX12_readPart_287 : decode cX12_readPart 287 = .ok (.aload_n 0, 1) := by decide +kernel
theorem dX12_readPart_288 : decode cX12_readPart 288 = .ok (.getfield 49, 3) := by decide +kernel
theorem dX12_readPart_291 : decode cX12_readPart 291 = .ok (.iload_n 2, 1) := by decide +kernel
theorem dX12_readPart_292 : decode cX12_readPart 292 = .ok (.iconst 1, 1) := by decide +kernel
theorem dX12_readPart_293 : decode cX12_readPart 293 = .ok (.bastore, 1) := by decide +kernel
theorem dX12_readPart_294 : decode cX12_readPart 294 = .ok (.aload_n 0, 1) := by decide +kernel
theorem dX12_readPart_295 : decode cX12_readPart 295 = .ok (.invokevirtual 155, 3) := by decide +kernel
theorem dX12_readPart_298 : decode cX12_readPart 298 = .ok (.aload_n 0, 1) := by decide +kernel
theorem dX12_readPart_299 : decode cX12_readPart 299 = .ok (.getfield 56, 3) := by decide +kernel
theorem dX12_readPart_302 : decode cX12_readPart 302 = .ok (.aload_n 0, 1) := by decide +kernel
theorem dX12_readPart_303 : decode cX12_readPart 303 = .ok (.getfield 141, 3) := by decide +kernel
theorem dX12_readPart_306 : decode cX12_readPart 306 = .ok (.iload_n 1, 1) := by decide +kernel
theorem dX12_readPart_307 : decode cX12_readPart 307 = .ok (.iastore, 1) := by decide +kernel
theorem dX12_readPart_308 : decode cX12_readPart 308 = .ok (.aload_n 0, 1) := by decide +kernel
theorem dX12_readPart_309 : decode cX12_readPart 309 = .ok (.dup, 1) := by decide +kernel
theorem dX12_readPart_310 : decode cX12_readPart 310 = .ok (.getfield 141, 3) := by decide +kernel
theorem dX12_readPart_313 : decode cX12_readPart 313 = .ok (.iconst 1, 1) := by decide +kernel
theorem dX12_readPart_314 : decode cX12_readPart 314 = .ok (.iadd, 1) := by decide +kernel
theorem dX12_readPart_315 : decode cX12_readPart 315 = .ok (.putfield 141, 3) := by decide +kernel
theorem dX12_readPart_318 : decode cX12_readPart 318 = .ok (.return_, 1) := by decide +kernel
theorem dX12_readPage_0 : decode cX12_readPage 0 = .ok (.aload_n 0, 1) := by decide +kernel
theorem dX12_readPage_1 : decode cX12_readPage 1 = .ok (.getfield 20, 3) := by decide +kernel
theorem dX12_readPage_4 : decode cX12_readPage 4 = .ok (.bipush 30, 2) := by decide +kernel
theorem dX12_readPage_6 : decode cX12_readPage 6 = .ok (.iconst 0, 1) := by decide +kernel
theorem dX12_readPage_7 : decode cX12_readPage 7 = .ok (.iastore, 1) := by decide +kernel
theorem dX12_readPage_8 : decode cX12_readPage 8 = .ok (.aload_n 0, 1) := by decide +kernel
theorem dX12_readPage_9 : decode cX12_readPage 9 = .ok (.iconst 0, 1) := by decide +kernel
theorem dX12_readPage_10 : decode cX12_readPage 10 = .ok (.putfield 141, 3) := by decide +kernel
theorem dX12_readPage_13 : decode cX12_readPage 13 = .ok (.aload_n 0, 1) := by decide +kernel
theorem dX12_readPage_14 : decode cX12_readPage 14 = .ok (.iconst 0, 1) := by decide +kernel
theorem dX12_readPage_15 : decode cX12_readPage 15 = .ok (.putfield 116, 3) := by decide +kernel
theorem dX12_readPage_18 : decode cX12_readPage 18 = .ok (.aload_n 0, 1) := by decide +kernel
theorem dX12_readPage_19 : decode cX12_readPage 19 = .ok (.invokevirtual 155, 3) := by decide +kernel
theorem dX12_readPage_22 : decode cX12_readPage 22 = .ok (.aload_n 0, 1) := by decide +kernel
theorem dX12_readPage_23 : decode cX12_readPage 23 = .ok (.invokevirtual 161, 3) := by decide +kernel
theorem dX12_readPage_26 : decode cX12_readPage 26 = .ok (.aload_n 0, 1) := by decide +kernel
theorem dX12_readPage_27 : decode cX12_readPage 27 = .ok (.invokevirtual 147, 3) := by decide +kernel
theorem dX12_readPage_30 : decode cX12_readPage 30 = .ok (.ifCond .eq 107, 3) := by decide +kernel
theorem dX12_readPage_33 : decode cX12_readPage 33 = .ok (.aload_n 0, 1) := by decide +kernel
theorem dX12_readPage_34 : decode cX12_readPage 34 = .ok (.getfield 141, 3) := by decide +kernel
theorem dX12_readPage_37 : decode cX12_readPage 37 = .ok (.ifCond .le 100, 3) := by decide +kernel
theorem dX12_readPage_40 : decode cX12_readPage 40 = .ok (.aload_n 0, 1) := by decide +kernel
theorem dX12_readPage_41 : decode cX12_readPage 41 = .ok (.bipush 40, 2) := by decide +kernel
theorem dX12_readPage_43 : decode cX12_readPage 43 = .ok (.invokevirtual 158, 3) := by decide +kernel
theorem dX12_readPage_46 : decode cX12_readPage 46 = .ok (.ifCond .eq 14, 3) := by decide +kernel
theorem dX12_readPage_49 : decode cX12_readPage 49 = .ok (.aload_n 0, 1) := by decide +kernel
theorem dX12_readPage_50 : decode cX12_readPage 50 = .ok (.invokevirtual 155, 3) := by decide +kernel
theorem dX12_readPage_53 : decode cX12_readPage 53 = .ok (.aload_n 0, 1) := by decide +kernel
theorem dX12_readPage_54 : decode cX12_readPage 54 = .ok (.invokevirtual 161, 3) := by decide +kernel
theorem dX12_readPage_57 : decode cX12_readPage 57 = .ok (.goto (-31), 3) := by decide +kernel
theorem dX12_readPage_60 : decode cX12_readPage 60 = .ok (.aload_n 0, 1) := by decide +kernel
theorem dX12_readPage_61 : decode cX12_readPage 61 = .ok (.dup, 1) := by decide +kernel
theorem dX12_readPage_62 : decode cX12_readPage 62 = .ok (.getfield 141, 3) := by decide +kernel
theorem dX12_readPage_65 : decode cX12_readPage 65 = .ok (.iconst 1, 1) := by decide +kernel
theorem dX12_readPage_66 : decode cX12_readPage 66 = .ok (.isub, 1) := by decide +kernel
theorem dX12_readPage_67 : decode cX12_readPage 67 = .ok (.putfield 141, 3) := by decide +kernel
theorem dX12_readPage_70 : decode cX12_readPage 70 = .ok (.aload_n 0, 1) := by decide +kernel
theorem dX12_readPage_71 : decode cX12_readPage 71 = .ok (.getfield 141, 3) := by decide +kernel
theorem dX12_readPage_74 : decode cX12_readPage 74 = .ok (.ifCond .le 7, 3) := by decide +kernel
theorem dX12_readPage_77 : decode cX12_readPage 77 = .ok (.iconst 1, 1) := by decide +kernel
theorem dX12_readPage_78 : decode cX12_readPage 78 = .ok (.goto 4, 3) := by decide +kernel
theorem dX12_readPage_81 : decode cX12_readPage 81 = .ok (.iconst 0, 1) := by decide +kernel
theorem dX12_readPage_82 : decode cX12_readPage 82 = .ok (.istore_n 1, 1) := by decide +kernel
theorem dX12_readPage_83 : decode cX12_readPage 83 = .ok (.iload_n 1, 1) := by decide +kernel
theorem dX12_readPage_84 : decode cX12_readPage 84 = .ok (.ifCond .eq 42, 3) := by decide +kernel
theorem dX12_readPage_87 : decode cX12_readPage 87 = .ok (.aload_n 0, 1) := by decide +kernel
theorem dX12_readPage_88 : decode cX12_readPage 88 = .ok (.bipush 41, 2) := by decide +kernel
theorem dX12_readPage_90 : decode cX12_readPage 90 = .ok (.invokevirtual 158, 3) := by decide +kernel
theorem dX12_readPage_93 : decode cX12_readPage 93 = .ok (.ifCond .eq 33, 3) := by decide +kernel
theorem dX12_readPage_96 : decode cX12_readPage 96 = .ok (.aload_n 0, 1) := by decide +kernel
theorem dX12_readPage_97 : decode cX12_readPage 97 = .ok (.invokevirtual 155, 3) := by decide +kernel
theorem dX12_readPage_100 : decode cX12_readPage 100 = .ok (.aload_n 0, 1) := by decide +kernel
theorem dX12_readPage_101 : decode cX12_readPage 101 = .ok (.dup, 1) := by decide +kernel
theorem dX12_readPage_102 : decode cX12_readPage 102 = .ok (.getfield 141, 3) := by decide +kernel
theorem dX12_readPage_105 : decode cX12_readPage 105 = .ok (.iconst 1, 1) := by decide +kernel
theorem dX12_readPage_106 : decode cX12_readPage 106 = .ok (.isub, 1) := by decide +kernel
theorem dX12_readPage_107 : decode cX12_readPage 107 = .ok (.putfield 141, 3) := by decide +kernel
theorem dX12_readPage_110 : decode cX12_readPage 110 = .ok (.aload_n 0, 1) := by decide +kernel
theorem dX12_readPage_111 : decode cX12_readPage 111 = .ok (.getfield 141, 3) := by decide +kernel
theorem dX12_readPage_114 : decode cX12_readPage 114 = .ok (.ifCond .le 7, 3) := by decide +kernel
theorem dX12_readPage_117 : decode cX12_readPage 117 = .ok (.iconst 1, 1) := by decide +kernel
theorem dX12_readPage_118 : decode cX12_readPage 118 = .ok (.goto 4, 3) := by decide +kernel
theorem dX12_readPage_121 : decode cX12_readPage 121 = .ok (.iconst 0, 1) := by decide +kernel
theorem dX12_readPage_122 : decode cX12_readPage 122 = .ok (.istore_n 1, 1) := by decide +kernel
theorem dX12_readPage_123 : decode cX12_readPage 123 = .ok (.goto (-40), 3) := by decide +kernel
theorem dX12_readPage_126 : decode cX12_readPage 126 = .ok (.iload_n 1, 1) := by decide +kernel
theorem dX12_readPage_127 : decode cX12_readPage 127 = .ok (.ifCond .eq 7, 3) := by decide +kernel
theorem dX12_readPage_130 : decode cX12_readPage 130 = .ok (.aload_n 0, 1) := by decide +kernel
theorem dX12_readPage_131 : decode cX12_readPage 131 = .ok (.invokevirtual 161, 3) := by decide +kernel
theorem dX12_readPage_134 : decode cX12_readPage 134 = .ok (.goto (-108), 3) := by decide +kernel
theorem dX12_readPage_137 : decode cX12_readPage 137 = .ok (.aload_n 0, 1) := by decide +kernel
theorem dX12_readPage_138 : decode cX12_readPage 138 = .ok (.invokevirtual 147, 3) := by decide +kernel
theorem dX12_readPage_141 : decode cX12_readPage 141 = .ok (.ifCond .eq 14, 3) := by decide +kernel
theorem dX12_readPage_144 : decode cX12_readPage 144 = .ok (.aload_n 0, 1) := by decide +kernel
theorem dX12_readPage_145 : decode cX12_readPage 145 = .ok (.getfield 126, 3) := by decide +kernel
theorem dX12_readPage_148 : decode cX12_readPage 148 = .ok (.ifCond .eq 7, 3) := by decide +kernel
theorem dX12_readPage_151 : decode cX12_readPage 151 = .ok (.aload_n 0, 1) := by decide +kernel
theorem dX12_readPage_152 : decode cX12_readPage 152 = .ok (.invokevirtual 144, 3) := by decide +kernel
theorem dX12_readPage_155 : decode cX12_readPage 155 = .ok (.return_, 1) := by decide +kernel
theorem dX12_measure_0 : decode cX12_measure 0 = .ok (.aload_n 0, 1) := by decide +kernel
theorem dX12_measure_1 : decode cX12_measure 1 = .ok (.getfield 20, 3) := by decide +kernel
theorem dX12_measure_4 : decode cX12_measure 4 = .ok (.bipush 30, 2) := by decide +kernel
theorem dX12_measure_6 : decode cX12_measure 6 = .ok (.iaload, 1) := by decide +kernel
theorem dX12_measure_7 : decode cX12_measure 7 = .ok (.istore_n 1, 1) := by decide +kernel
theorem dX12_measure_8 : decode cX12_measure 8 = .ok (.iload_n 1, 1) := by decide +kernel
theorem dX12_measure_9 : decode cX12_measure 9 = .ok (.iconst 1, 1) := by decide +kernel
theorem dX12_measure_10 : decode cX12_measure 10 = .ok (.isub, 1) := by decide +kernel
theorem dX12_measure_11 : decode cX12_measure 11 = .ok (.istore_n 2, 1) := by decide +kernel
theorem dX12_measure_12 : decode cX12_measure 12 = .ok (.iload_n 2, 1) := by decide +kernel
theorem dX12_measure_13 : decode cX12_measure 13 = .ok (.ifCond .lt 145, 3) := by decide +kernel
theorem dX12_measure_16 : decode cX12_measure 16 = .ok (.bipush 30, 2) := by decide +kernel
theorem dX12_measure_18 : decode cX12_measure 18 = .ok (.iload_n 2, 1) := by decide +kernel
theorem dX12_measure_19 : decode cX12_measure 19 = .ok (.invokestatic 151, 3) := by decide +kernel
theorem dX12_measure_22 : decode cX12_measure 22 = .ok (.istore_n 3, 1) := by decide +kernel
theorem dX12_measure_23 : decode cX12_measure 23 = .ok (.aload_n 0, 1) := by decide +kernel
theorem dX12_measure_24 : decode cX12_measure 24 = .ok (.getfield 27, 3) := by decide +kernel
theorem dX12_measure_27 : decode cX12_measure 27 = .ok (.iload_n 3, 1) := by decide +kernel
theorem dX12_measure_28 : decode cX12_measure 28 = .ok (.iconst 1, 1) := by decide +kernel
theorem dX12_measure_29 : decode cX12_measure 29 = .ok (.iastore, 1) := by decide +kernel
theorem dX12_measure_30 : decode cX12_measure 30 = .ok (.iload_n 2, 1) := by decide +kernel
theorem dX12_measure_31 : decode cX12_measure 31 = .ok (.iconst 1, 1) := by decide +kernel
theorem dX12_measure_32 : decode cX12_measure 32 = .ok (.iadd, 1) := by decide +kernel
theorem dX12_measure_33 : decode cX12_measure 33 = .ok (.istore 4, 2) := by decide +kernel
theorem dX12_measure_35 : decode cX12_measure 35 = .ok (.iload 4, 2) := by decide +kernel
theorem dX12_measure_37 : decode cX12_measure 37 = .ok (.iload_n 1, 1) := by decide +kernel
theorem dX12_measure_38 : decode cX12_measure 38 = .ok (.if_icmp .ge 35, 3) := by decide +kernel
theorem dX12_measure_41 : decode cX12_measure 41 = .ok (.aload_n 0, 1) := by decide +kernel
theorem dX12_measure_42 : decode cX12_measure 42 = .ok (.getfield 27, 3) := by decide +kernel
theorem dX12_measure_45 : decode cX12_measure 45 = .ok (.iload_n 3, 1) := by decide +kernel
theorem dX12_measure_46 : decode cX12_measure 46 = .ok (.dup2, 1) := by decide +kernel
theorem dX12_measure_47 : decode cX12_measure 47 = .ok (.iaload, 1) := by decide +kernel
theorem dX12_measure_48 : decode cX12_measure 48 = .ok (.aload_n 0, 1) := by decide +kernel
theorem dX12_measure_49 : decode cX12_measure 49 = .ok (.bipush 30, 2) := by decide +kernel
theorem dX12_measure_51 : decode cX12_measure 51 = .ok (.iload 4, 2) := by decide +kernel
theorem dX12_measure_53 : decode cX12_measure 53 = .ok (.iload_n 2, 1) := by decide +kernel
theorem dX12_measure_54 : decode cX12_measure 54 = .ok (.invokevirtual 164, 3) := by decide +kernel
theorem dX12_measure_57 : decode cX12_measure 57 = .ok (.ifCond .eq 7, 3) := by decide +kernel
theorem dX12_measure_60 : decode cX12_measure 60 = .ok (.iconst 1, 1) := by decide +kernel
theorem dX12_measure_61 : decode cX12_measure 61 = .ok (.goto 4, 3) := by decide +kernel
theorem dX12_measure_64 : decode cX12_measure 64 = .ok (.iconst 0, 1) := by decide +kernel
theorem dX12_measure_65 : decode cX12_measure 65 = .ok (.iadd, 1) := by decide +kernel
theorem dX12_measure_66 : decode cX12_measure 66 = .ok (.iastore, 1) := by decide +kernel
theorem dX12_measure_67 : decode cX12_measure 67 = .ok (.iinc 4 1, 3) := by decide +kernel
theorem dX12_measure_70 : decode cX12_measure 70 = .ok (.goto (-35), 3) := by decide +kernel
theorem dX12_measure_73 : decode cX12_measure 73 = .ok (.aload_n 0, 1) := by decide +kernel
theorem dX12_measure_74 : decode cX12_measure 74 = .ok (.getfield 30, 3) := by decide +kernel
theorem dX12_measure_77 : decode cX12_measure 77 = .ok (.iload_n 3, 1) := by decide +kernel
theorem dX12_measure_78 : decode cX12_measure 78 = .ok (.iconst 0, 1) := by decide +kernel
theorem dX12_measure_79 : decode cX12_measure 79 = .ok (.iastore, 1) := by decide +kernel
theorem dX12_measure_80 : decode cX12_measure 80 = .ok (.iconst 0, 1) := by decide +kernel
theorem dX12_measure_81 : decode cX12_measure 81 = .ok (.istore 4, 2) := by decide +kernel
theorem dX12_measure_83 : decode cX12_measure 83 = .ok (.iload 4, 2) := by decide +kernel
theorem dX12_measure_85 : decode cX12_measure 85 = .ok (.iload_n 2, 1) := by decide +kernel
theorem dX12_measure_86 : decode cX12_measure 86 = .ok (.if_icmp .ge 66, 3) := by decide +kernel
theorem dX12_measure_89 : decode cX12_measure 89 = .ok (.aload_n 0, 1) := by decide +kernel
theorem dX12_measure_90 : decode cX12_measure 90 = .ok (.getfield 30, 3) := by decide +kernel
theorem dX12_measure_93 : decode cX12_measure 93 = .ok (.iload_n 3, 1) := by decide +kernel
theorem dX12_measure_94 : decode cX12_measure 94 = .ok (.dup2, 1) := by decide +kernel
theorem dX12_measure_95 : decode cX12_measure 95 = .ok (.iaload, 1) := by decide +kernel
theorem dX12_measure_96 : decode cX12_measure 96 = .ok (.aload_n 0, 1) := by decide +kernel
theorem dX12_measure_97 : decode cX12_measure 97 = .ok (.getfield 24, 3) := by decide +kernel
theorem dX12_measure_100 : decode cX12_measure 100 = .ok (.bipush 30, 2) := by decide +kernel
theorem dX12_measure_102 : decode cX12_measure 102 = .ok (.iload 4, 2) := by decide +kernel
theorem dX12_measure_104 : decode cX12_measure 104 = .ok (.invokestatic 151, 3) := by decide +kernel
theorem dX12_measure_107 : decode cX12_measure 107 = .ok (.iaload, 1) := by decide +kernel
theorem dX12_measure_108 : decode cX12_measure 108 = .ok (.aload_n 0, 1) := by decide +kernel
theorem dX12_measure_109 : decode cX12_measure 109 = .ok (.getfield 24, 3) := by decide +kernel
theorem dX12_measure_112 : decode cX12_measure 112 = .ok (.iload_n 3, 1) := by decide +kernel
theorem dX12_measure_113 : decode cX12_measure 113 = .ok (.iaload, 1) := by decide +kernel
theorem dX12_measure_114 : decode cX12_measure 114 = .ok (.if_icmp .ne 29, 3) := by decide +kernel
theorem dX12_measure_117 : decode cX12_measure 117 = .ok (.aload_n 0, 1) := by decide +kernel
theorem dX12_measure_118 : decode cX12_measure 118 = .ok (.getfield 42, 3) := by decide +kernel
theorem dX12_measure_121 : decode cX12_measure 121 = .ok (.bipush 30, 2) := by decide +kernel
theorem dX12_measure_123 : decode cX12_measure 123 = .ok (.iload 4, 2) := by decide +kernel
theorem dX12_measure_125 : decode cX12_measure 125 = .ok (.invokestatic 151, 3) := by decide +kernel
theorem dX12_measure_128 : decode cX12_measure 128 = .ok (.laload, 1) := by decide +kernel
theorem dX12_measure_129 : decode cX12_measure 129 = .ok (.aload_n 0, 1) := by decide +kernel
theorem dX12_measure_130 : decode cX12_measure 130 = .ok (.getfield 42, 3) := by decide +kernel
theorem dX12_measure_133 : decode cX12_measure 133 = .ok (.iload_n 3, 1) := by decide +kernel
theorem dX12_measure_134 : decode cX12_measure 134 = .ok (.laload, 1) := by decide +kernel
theorem dX12_measure_135 : decode cX12_measure 135 = .ok (.lcmp, 1) := by decide +kernel
theorem dX12_measure_136 : decode cX12_measure 136 = .ok (.ifCond .ne 7, 3) := by decide +kernel
theorem dX12_measure_139 : decode cX12_measure 139 = .ok (.iconst 1, 1) := by decide +kernel
theorem dX12_measure_140 : decode cX12_measure 140 = .ok (.goto 4, 3) := by decide +kernel
theorem dX12_measure_143 : decode cX12_measure 143 = .ok (.iconst 0, 1) := by decide +kernel
theorem dX12_measure_144 : decode cX12_measure 144 = .ok (.iadd, 1) := by decide +kernel
theorem dX12_measure_145 : decode cX12_measure 145 = .ok (.iastore, 1) := by decide +kernel
theorem dX12_measure_146 : decode cX12_measure 146 = .ok (.iinc 4 1, 3) := by decide +kernel
theorem dX12_measure_149 : decode cX12_measure 149 = .ok (.goto (-66), 3) := by decide +kernel
theorem dX12_measure_152 : decode cX12_measure 152 = .ok (.iinc 2 (-1), 3) := by decide +kernel
theorem dX12_measure_155 : decode cX12_measure 155 = .ok (.goto (-143), 3) := by decide +kernel
theorem dX12_measure_158 : decode cX12_measure 158 = .ok (.return_, 1) := by decide +kernel
theorem dX12_isUnder_0 : decode cX12_isUnder 0 = .ok (.aload_n 0, 1) := by decide +kernel
theorem dX12_isUnder_1 : decode cX12_isUnder 1 = .ok (.getfield 24, 3) := by decide +kernel
theorem dX12_isUnder_4 : decode cX12_isUnder 4 = .ok (.iload_n 1, 1) := by decide +kernel
theorem dX12_isUnder_5 : decode cX12_isUnder 5 = .ok (.iload_n 2, 1) := by decide +kernel
theorem dX12_isUnder_6 : decode cX12_isUnder 6 = .ok (.invokestatic 151, 3) := by decide +kernel
theorem dX12_isUnder_9 : decode cX12_isUnder 9 = .ok (.iaload, 1) := by decide +kernel
theorem dX12_isUnder_10 : decode cX12_isUnder 10 = .ok (.istore 4, 2) := by decide +kernel
theorem dX12_isUnder_12 : decode cX12_isUnder 12 = .ok (.iload 4, 2) := by decide +kernel
theorem dX12_isUnder_14 : decode cX12_isUnder 14 = .ok (.ifCond .lt 25, 3) := by decide +kernel
theorem dX12_isUnder_17 : decode cX12_isUnder 17 = .ok (.iload 4, 2) := by decide +kernel
theorem dX12_isUnder_19 : decode cX12_isUnder 19 = .ok (.iload_n 3, 1) := by decide +kernel
theorem dX12_isUnder_20 : decode cX12_isUnder 20 = .ok (.if_icmp .eq 19, 3) := by decide +kernel
theorem dX12_isUnder_23 : decode cX12_isUnder 23 = .ok (.aload_n 0, 1) := by decide +kernel
theorem dX12_isUnder_24 : decode cX12_isUnder 24 = .ok (.getfield 24, 3) := by decide +kernel
theorem dX12_isUnder_27 : decode cX12_isUnder 27 = .ok (.iload_n 1, 1) := by decide +kernel
theorem dX12_isUnder_28 : decode cX12_isUnder 28 = .ok (.iload 4, 2) := by decide +kernel
theorem dX12_isUnder_30 : decode cX12_isUnder 30 = .ok (.invokestatic 151, 3) := by decide +kernel
theorem dX12_isUnder_33 : decode cX12_isUnder 33 = .ok (.iaload, 1) := by decide +kernel
theorem dX12_isUnder_34 : decode cX12_isUnder 34 = .ok (.istore 4, 2) := by decide +kernel
theorem dX12_isUnder_36 : decode cX12_isUnder 36 = .ok (.goto (-24), 3) := by decide +kernel
theorem dX12_isUnder_39 : decode cX12_isUnder 39 = .ok (.iload 4, 2) := by decide +kernel
theorem dX12_isUnder_41 : decode cX12_isUnder 41 = .ok (.iload_n 3, 1) := by decide +kernel
theorem dX12_isUnder_42 : decode cX12_isUnder 42 = .ok (.if_icmp .ne 7, 3) := by decide +kernel
theorem dX12_isUnder_45 : decode cX12_isUnder 45 = .ok (.iconst 1, 1) := by decide +kernel
theorem dX12_isUnder_46 : decode cX12_isUnder 46 = .ok (.goto 4, 3) := by decide +kernel
theorem dX12_isUnder_49 : decode cX12_isUnder 49 = .ok (.iconst 0, 1) := by decide +kernel
theorem dX12_isUnder_50 : decode cX12_isUnder 50 = .ok (.ireturn, 1) := by decide +kernel
theorem dX12_copyPage_0 : decode cX12_copyPage 0 = .ok (.aload_n 0, 1) := by decide +kernel
theorem dX12_copyPage_1 : decode cX12_copyPage 1 = .ok (.getfield 20, 3) := by decide +kernel
theorem dX12_copyPage_4 : decode cX12_copyPage 4 = .ok (.iload_n 2, 1) := by decide +kernel
theorem dX12_copyPage_5 : decode cX12_copyPage 5 = .ok (.aload_n 0, 1) := by decide +kernel
theorem dX12_copyPage_6 : decode cX12_copyPage 6 = .ok (.getfield 20, 3) := by decide +kernel
theorem dX12_copyPage_9 : decode cX12_copyPage 9 = .ok (.iload_n 1, 1) := by decide +kernel
theorem dX12_copyPage_10 : decode cX12_copyPage 10 = .ok (.iaload, 1) := by decide +kernel
theorem dX12_copyPage_11 : decode cX12_copyPage 11 = .ok (.iastore, 1) := by decide +kernel
theorem dX12_copyPage_12 : decode cX12_copyPage 12 = .ok (.iconst 0, 1) := by decide +kernel
theorem dX12_copyPage_13 : decode cX12_copyPage 13 = .ok (.istore_n 3, 1) := by decide +kernel
theorem dX12_copyPage_14 : decode cX12_copyPage 14 = .ok (.iload_n 3, 1) := by decide +kernel
theorem dX12_copyPage_15 : decode cX12_copyPage 15 = .ok (.aload_n 0, 1) := by decide +kernel
theorem dX12_copyPage_16 : decode cX12_copyPage 16 = .ok (.getfield 20, 3) := by decide +kernel
theorem dX12_copyPage_19 : decode cX12_copyPage 19 = .ok (.iload_n 1, 1) := by decide +kernel
theorem dX12_copyPage_20 : decode cX12_copyPage 20 = .ok (.iaload, 1) := by decide +kernel
theorem dX12_copyPage_21 : decode cX12_copyPage 21 = .ok (.if_icmp .ge 196, 3) := by decide +kernel
theorem dX12_copyPage_24 : decode cX12_copyPage 24 = .ok (.iload_n 1, 1) := by decide +kernel
theorem dX12_copyPage_25 : decode cX12_copyPage 25 = .ok (.iload_n 3, 1) := by decide +kernel
theorem dX12_copyPage_26 : decode cX12_copyPage 26 = .ok (.invokestatic 151, 3) := by decide +kernel
theorem dX12_copyPage_29 : decode cX12_copyPage 29 = .ok (.istore 4, 2) := by decide +kernel
theorem dX12_copyPage_31 : decode cX12_copyPage 31 = .ok (.iload_n 2, 1) := by decide +kernel
theorem dX12_copyPage_32 : decode cX12_copyPage 32 = .ok (.iload_n 3, 1) := by decide +kernel
theorem dX12_copyPage_33 : decode cX12_copyPage 33 = .ok (.invokestatic 151, 3) := by decide +kernel
theorem dX12_copyPage_36 : decode cX12_copyPage 36 = .ok (.istore 5, 2) := by decide +kernel
theorem dX12_copyPage_38 : decode cX12_copyPage 38 = .ok (.aload_n 0, 1) := by decide +kernel
theorem dX12_copyPage_39 : decode cX12_copyPage 39 = .ok (.getfield 24, 3) := by decide +kernel
theorem dX12_copyPage_42 : decode cX12_copyPage 42 = .ok (.iload 5, 2) := by decide +kernel
theorem dX12_copyPage_44 : decode cX12_copyPage 44 = .ok (.aload_n 0, 1) := by decide +kernel
theorem dX12_copyPage_45 : decode cX12_copyPage 45 = .ok (.getfield 24, 3) := by decide +kernel
theorem dX12_copyPage_48 : decode cX12_copyPage 48 = .ok (.iload 4, 2) := by decide +kernel
theorem dX12_copyPage_50 : decode cX12_copyPage 50 = .ok (.iaload, 1) := by decide +kernel
theorem dX12_copyPage_51 : decode cX12_copyPage 51 = .ok (.iastore, 1) := by decide +kernel
theorem dX12_copyPage_52 : decode cX12_copyPage 52 = .ok (.aload_n 0, 1) := by decide +kernel
theorem dX12_copyPage_53 : decode cX12_copyPage 53 = .ok (.getfield 27, 3) := by decide +kernel
theorem dX12_copyPage_56 : decode cX12_copyPage 56 = .ok (.iload 5, 2) := by decide +kernel
theorem dX12_copyPage_58 : decode cX12_copyPage 58 = .ok (.aload_n 0, 1) := by decide +kernel
theorem dX12_copyPage_59 : decode cX12_copyPage 59 = .ok (.getfield 27, 3) := by decide +kernel
theorem dX12_copyPage_62 : decode cX12_copyPage 62 = .ok (.iload 4, 2) := by decide +kernel
theorem dX12_copyPage_64 : decode cX12_copyPage 64 = .ok (.iaload, 1) := by decide +kernel
theorem dX12_copyPage_65 : decode cX12_copyPage 65 = .ok (.iastore, 1) := by decide +kernel
theorem dX12_copyPage_66 : decode cX12_copyPage 66 = .ok (.aload_n 0, 1) := by decide +kernel
theorem dX12_copyPage_67 : decode cX12_copyPage 67 = .ok (.getfield 30, 3) := by decide +kernel
theorem dX12_copyPage_70 : decode cX12_copyPage 70 = .ok (.iload 5, 2) := by decide +kernel
theorem dX12_copyPage_72 : decode cX12_copyPage 72 = .ok (.aload_n 0, 1) := by decide +kernel
theorem dX12_copyPage_73 : decode cX12_copyPage 73 = .ok (.getfield 30, 3) := by decide +kernel
theorem dX12_copyPage_76 : decode cX12_copyPage 76 = .ok (.iload 4, 2) := by decide +kernel
theorem dX12_copyPage_78 : decode cX12_copyPage 78 = .ok (.iaload, 1) := by decide +kernel
theorem dX12_copyPage_79 : decode cX12_copyPage 79 = .ok (.iastore, 1) := by decide +kernel
theorem dX12_copyPage_80 : decode cX12_copyPage 80 = .ok (.aload_n 0, 1) := by decide +kernel
theorem dX12_copyPage_81 : decode cX12_copyPage 81 = .ok (.getfield 33, 3) := by decide +kernel
theorem dX12_copyPage_84 : decode cX12_copyPage 84 = .ok (.iload 5, 2) := by decide +kernel
theorem dX12_copyPage_86 : decode cX12_copyPage 86 = .ok (.aload_n 0, 1) := by decide +kernel
theorem dX12_copyPage_87 : decode cX12_copyPage 87 = .ok (.getfield 33, 3) := by decide +kernel
theorem dX12_copyPage_90 : decode cX12_copyPage 90 = .ok (.iload 4, 2) := by decide +kernel
theorem dX12_copyPage_92 : decode cX12_copyPage 92 = .ok (.iaload, 1) := by decide +kernel
theorem dX12_copyPage_93 : decode cX12_copyPage 93 = .ok (.iastore, 1) := by decide +kernel
theorem dX12_copyPage_94 : decode cX12_copyPage 94 = .ok (.aload_n 0, 1) := by decide +kernel
theorem dX12_copyPage_95 : decode cX12_copyPage 95 = .ok (.getfield 36, 3) := by decide +kernel
theorem dX12_copyPage_98 : decode cX12_copyPage 98 = .ok (.iload 5, 2) := by decide +kernel
theorem dX12_copyPage_100 : decode cX12_copyPage 100 = .ok (.aload_n 0, 1) := by decide +kernel
theorem dX12_copyPage_101 : decode cX12_copyPage 101 = .ok (.getfield 36, 3) := by decide +kernel
theorem dX12_copyPage_104 : decode cX12_copyPage 104 = .ok (.iload 4, 2) := by decide +kernel
theorem dX12_copyPage_106 : decode cX12_copyPage 106 = .ok (.iaload, 1) := by decide +kernel
theorem dX12_copyPage_107 : decode cX12_copyPage 107 = .ok (.iastore, 1) := by decide +kernel
theorem dX12_copyPage_108 : decode cX12_copyPage 108 = .ok (.aload_n 0, 1) := by decide +kernel
theorem dX12_copyPage_109 : decode cX12_copyPage 109 = .ok (.getfield 39, 3) := by decide +kernel
theorem dX12_copyPage_112 : decode cX12_copyPage 112 = .ok (.iload 5, 2) := by decide +kernel
theorem dX12_copyPage_114 : decode cX12_copyPage 114 = .ok (.aload_n 0, 1) := by decide +kernel
theorem dX12_copyPage_115 : decode cX12_copyPage 115 = .ok (.getfield 39, 3) := by decide +kernel
theorem dX12_copyPage_118 : decode cX12_copyPage 118 = .ok (.iload 4, 2) := by decide +kernel
theorem dX12_copyPage_120 : decode cX12_copyPage 120 = .ok (.iaload, 1) := by decide +kernel
theorem dX12_copyPage_121 : decode cX12_copyPage 121 = .ok (.iastore, 1) := by decide +kernel
theorem dX12_copyPage_122 : decode cX12_copyPage 122 = .ok (.aload_n 0, 1) := by decide +kernel
theorem dX12_copyPage_123 : decode cX12_copyPage 123 = .ok (.getfield 42, 3) := by decide +kernel
theorem dX12_copyPage_126 : decode cX12_copyPage 126 = .ok (.iload 5, 2) := by decide +kernel
theorem dX12_copyPage_128 : decode cX12_copyPage 128 = .ok (.aload_n 0, 1) := by decide +kernel
theorem dX12_copyPage_129 : decode cX12_copyPage 129 = .ok (.getfield 42, 3) := by decide +kernel
theorem dX12_copyPage_132 : decode cX12_copyPage 132 = .ok (.iload 4, 2) := by decide +kernel
theorem dX12_copyPage_134 : decode cX12_copyPage 134 = .ok (.laload, 1) := by decide +kernel
theorem dX12_copyPage_135 : decode cX12_copyPage 135 = .ok (.lastore, 1) := by decide +kernel
theorem dX12_copyPage_136 : decode cX12_copyPage 136 = .ok (.aload_n 0, 1) := by decide +kernel
theorem dX12_copyPage_137 : decode cX12_copyPage 137 = .ok (.getfield 46, 3) := by decide +kernel
theorem dX12_copyPage_140 : decode cX12_copyPage 140 = .ok (.iload 5, 2) := by decide +kernel
theorem dX12_copyPage_142 : decode cX12_copyPage 142 = .ok (.aload_n 0, 1) := by decide +kernel
theorem dX12_copyPage_143 : decode cX12_copyPage 143 = .ok (.getfield 46, 3) := by decide +kernel
theorem dX12_copyPage_146 : decode cX12_copyPage 146 = .ok (.iload 4, 2) := by decide +kernel
theorem dX12_copyPage_148 : decode cX12_copyPage 148 = .ok (.laload, 1) := by decide +kernel
theorem dX12_copyPage_149 : decode cX12_copyPage 149 = .ok (.lastore, 1) := by decide +kernel
theorem dX12_copyPage_150 : decode cX12_copyPage 150 = .ok (.aload_n 0, 1) := by decide +kernel
theorem dX12_copyPage_151 : decode cX12_copyPage 151 = .ok (.getfield 49, 3) := by decide +kernel
theorem dX12_copyPage_154 : decode cX12_copyPage 154 = .ok (.iload 5, 2) := by decide +kernel
theorem dX12_copyPage_156 : decode cX12_copyPage 156 = .ok (.aload_n 0, 1) := by decide +kernel
theorem dX12_copyPage_157 : decode cX12_copyPage 157 = .ok (.getfield 49, 3) := by decide +kernel
theorem dX12_copyPage_160 : decode cX12_copyPage 160 = .ok (.iload 4, 2) := by decide +kernel
theorem dX12_copyPage_162 : decode cX12_copyPage 162 = .ok (.baload, 1) := by decide +kernel
theorem dX12_copyPage_163 : decode cX12_copyPage 163 = .ok (.bastore, 1) := by decide +kernel
theorem dX12_copyPage_164 : decode cX12_copyPage 164 = .ok (.iconst 0, 1) := by decide +kernel
theorem dX12_copyPage_165 : decode cX12_copyPage 165 = .ok (.istore 6, 2) := by decide +kernel
theorem dX12_copyPage_167 : decode cX12_copyPage 167 = .ok (.iload 6, 2) := by decide +kernel
theorem dX12_copyPage_169 : decode cX12_copyPage 169 = .ok (.aload_n 0, 1) := by decide +kernel
theorem dX12_copyPage_170 : decode cX12_copyPage 170 = .ok (.getfield 36, 3) := by decide +kernel
theorem dX12_copyPage_173 : decode cX12_copyPage 173 = .ok (.iload 4, 2) := by decide +kernel
theorem dX12_copyPage_175 : decode cX12_copyPage 175 = .ok (.iaload, 1) := by decide +kernel
theorem dX12_copyPage_176 : decode cX12_copyPage 176 = .ok (.if_icmp .ge 35, 3) := by decide +kernel
theorem dX12_copyPage_179 : decode cX12_copyPage 179 = .ok (.aload_n 0, 1) := by decide +kernel
theorem dX12_copyPage_180 : decode cX12_copyPage 180 = .ok (.getfield 53, 3) := by decide +kernel
theorem dX12_copyPage_183 : decode cX12_copyPage 183 = .ok (.bipush 16, 2) := by decide +kernel
theorem dX12_copyPage_185 : decode cX12_copyPage 185 = .ok (.iload 5, 2) := by decide +kernel
theorem dX12_copyPage_187 : decode cX12_copyPage 187 = .ok (.imul, 1) := by decide +kernel
theorem dX12_copyPage_188 : decode cX12_copyPage 188 = .ok (.iload 6, 2) := by decide +kernel
theorem dX12_copyPage_190 : decode cX12_copyPage 190 = .ok (.iadd, 1) := by decide +kernel
theorem dX12_copyPage_191 : decode cX12_copyPage 191 = .ok (.aload_n 0, 1) := by decide +kernel
theorem dX12_copyPage_192 : decode cX12_copyPage 192 = .ok (.getfield 53, 3) := by decide +kernel
theorem dX12_copyPage_195 : decode cX12_copyPage 195 = .ok (.bipush 16, 2) := by decide +kernel
theorem dX12_copyPage_197 : decode cX12_copyPage 197 = .ok (.iload 4, 2) := by decide +kernel
theorem dX12_copyPage_199 : decode cX12_copyPage 199 = .ok (.imul, 1) := by decide +kernel
theorem dX12_copyPage_200 : decode cX12_copyPage 200 = .ok (.iload 6, 2) := by decide +kernel
theorem dX12_copyPage_202 : decode cX12_copyPage 202 = .ok (.iadd, 1) := by decide +kernel
theorem dX12_copyPage_203 : decode cX12_copyPage 203 = .ok (.baload, 1) := by decide +kernel
theorem dX12_copyPage_204 : decode cX12_copyPage 204 = .ok (.bastore, 1) := by decide +kernel
theorem dX12_copyPage_205 : decode cX12_copyPage 205 = .ok (.iinc 6 1, 3) := by decide +kernel
theorem dX12_copyPage_208 : decode cX12_copyPage 208 = .ok (.goto (-41), 3) := by decide +kernel
theorem dX12_copyPage_211 : decode cX12_copyPage 211 = .ok (.iinc 3 1, 3) := by decide +kernel
theorem dX12_copyPage_214 : decode cX12_copyPage 214 = .ok (.goto (-200), 3) := by decide +kernel
theorem dX12_copyPage_217 : decode cX12_copyPage 217 = .ok (.return_, 1) := by decide +kernel
theorem dX12_isShelf_0 : decode cX12_isShelf 0 = .ok (.iload_n 0, 1) := by decide +kernel
theorem dX12_isShelf_1 : decode cX12_isShelf 1 = .ok (.ifCond .lt 12, 3) := by decide +kernel
theorem dX12_isShelf_4 : decode cX12_isShelf 4 = .ok (.iload_n 0, 1) := by decide +kernel
theorem dX12_isShelf_5 : decode cX12_isShelf 5 = .ok (.iconst 4, 1) := by decide +kernel
theorem dX12_isShelf_6 : decode cX12_isShelf 6 = .ok (.if_icmp .ge 7, 3) := by decide +kernel
theorem dX12_isShelf_9 : decode cX12_isShelf 9 = .ok (.iconst 1, 1) := by decide +kernel
theorem dX12_isShelf_10 : decode cX12_isShelf 10 = .ok (.goto 4, 3) := by decide +kernel
theorem dX12_isShelf_13 : decode cX12_isShelf 13 = .ok (.iconst 0, 1) := by decide +kernel
theorem dX12_isShelf_14 : decode cX12_isShelf 14 = .ok (.ireturn, 1) := by decide +kernel
theorem dX12_page_0 : decode cX12_page 0 = .ok (.iload_n 1, 1) := by decide +kernel
theorem dX12_page_1 : decode cX12_page 1 = .ok (.invokestatic 168, 3) := by decide +kernel
theorem dX12_page_4 : decode cX12_page 4 = .ok (.ifCond .ne 6, 3) := by decide +kernel
theorem dX12_page_7 : decode cX12_page 7 = .ok (.bipush (-2), 2) := by decide +kernel
theorem dX12_page_9 : decode cX12_page 9 = .ok (.ireturn, 1) := by decide +kernel
theorem dX12_page_10 : decode cX12_page 10 = .ok (.aload_n 0, 1) := by decide +kernel
theorem dX12_page_11 : decode cX12_page 11 = .ok (.iconst 0, 1) := by decide +kernel
theorem dX12_page_12 : decode cX12_page 12 = .ok (.putfield 113, 3) := by decide +kernel
theorem dX12_page_15 : decode cX12_page 15 = .ok (.aload_n 0, 1) := by decide +kernel
theorem dX12_page_16 : decode cX12_page 16 = .ok (.iconst (-1), 1) := by decide +kernel
theorem dX12_page_17 : decode cX12_page 17 = .ok (.putfield 16, 3) := by decide +kernel
theorem dX12_page_20 : decode cX12_page 20 = .ok (.aload_n 0, 1) := by decide +kernel
theorem dX12_page_21 : decode cX12_page 21 = .ok (.aload_n 0, 1) := by decide +kernel
theorem dX12_page_22 : decode cX12_page 22 = .ok (.getfield 171, 3) := by decide +kernel
theorem dX12_page_25 : decode cX12_page 25 = .ok (.putfield 110, 3) := by decide +kernel
theorem dX12_page_28 : decode cX12_page 28 = .ok (.iconst 0, 1) := by decide +kernel
theorem dX12_page_29 : decode cX12_page 29 = .ok (.istore_n 2, 1) := by decide +kernel
theorem dX12_page_30 : decode cX12_page 30 = .ok (.iload_n 2, 1) := by decide +kernel
theorem dX12_page_31 : decode cX12_page 31 = .ok (.aload_n 0, 1) := by decide +kernel
theorem dX12_page_32 : decode cX12_page 32 = .ok (.getfield 110, 3) := by decide +kernel
theorem dX12_page_35 : decode cX12_page 35 = .ok (.if_icmp .ge 21, 3) := by decide +kernel
theorem dX12_page_38 : decode cX12_page 38 = .ok (.aload_n 0, 1) := by decide +kernel
theorem dX12_page_39 : decode cX12_page 39 = .ok (.getfield 13, 3) := by decide +kernel
theorem dX12_page_42 : decode cX12_page 42 = .ok (.iload_n 2, 1) := by decide +kernel
theorem dX12_page_43 : decode cX12_page 43 = .ok (.aload_n 0, 1) := by decide +kernel
theorem dX12_page_44 : decode cX12_page 44 = .ok (.getfield 7, 3) := by decide +kernel
theorem dX12_page_47 : decode cX12_page 47 = .ok (.iload_n 2, 1) := by decide +kernel
theorem dX12_page_48 : decode cX12_page 48 = .ok (.baload, 1) := by decide +kernel
theorem dX12_page_49 : decode cX12_page 49 = .ok (.bastore, 1) := by decide +kernel
theorem dX12_page_50 : decode cX12_page 50 = .ok (.iinc 2 1, 3) := by decide +kernel
theorem dX12_page_53 : decode cX12_page 53 = .ok (.goto (-23), 3) := by decide +kernel
theorem dX12_page_56 : decode cX12_page 56 = .ok (.aload_n 0, 1) := by decide +kernel
theorem dX12_page_57 : decode cX12_page 57 = .ok (.iconst 0, 1) := by decide +kernel
theorem dX12_page_58 : decode cX12_page 58 = .ok (.putfield 171, 3) := by decide +kernel
theorem dX12_page_61 : decode cX12_page 61 = .ok (.aload_n 0, 1) := by decide +kernel
theorem dX12_page_62 : decode cX12_page 62 = .ok (.invokevirtual 174, 3) := by decide +kernel
theorem dX12_page_65 : decode cX12_page 65 = .ok (.aload_n 0, 1) := by decide +kernel
theorem dX12_page_66 : decode cX12_page 66 = .ok (.invokevirtual 147, 3) := by decide +kernel
theorem dX12_page_69 : decode cX12_page 69 = .ok (.ifCond .ne 5, 3) := by decide +kernel
theorem dX12_page_72 : decode cX12_page 72 = .ok (.iconst (-1), 1) := by decide +kernel
theorem dX12_page_73 : decode cX12_page 73 = .ok (.ireturn, 1) := by decide +kernel
theorem dX12_page_74 : decode cX12_page 74 = .ok (.aload_n 0, 1) := by decide +kernel
theorem dX12_page_75 : decode cX12_page 75 = .ok (.invokevirtual 177, 3) := by decide +kernel
theorem dX12_page_78 : decode cX12_page 78 = .ok (.aload_n 0, 1) := by decide +kernel
theorem dX12_page_79 : decode cX12_page 79 = .ok (.bipush 30, 2) := by decide +kernel
theorem dX12_page_81 : decode cX12_page 81 = .ok (.iload_n 1, 1) := by decide +kernel
theorem dX12_page_82 : decode cX12_page 82 = .ok (.invokevirtual 180, 3) := by decide +kernel
theorem dX12_page_85 : decode cX12_page 85 = .ok (.aload_n 0, 1) := by decide +kernel
theorem dX12_page_86 : decode cX12_page 86 = .ok (.getfield 20, 3) := by decide +kernel
theorem dX12_page_89 : decode cX12_page 89 = .ok (.iload_n 1, 1) := by decide +kernel
theorem dX12_page_90 : decode cX12_page 90 = .ok (.iaload, 1) := by decide +kernel
theorem dX12_page_91 : decode cX12_page 91 = .ok (.ireturn, 1) := by decide +kernel
theorem dX12_fault_0 : decode cX12_fault 0 = .ok (.iload_n 1, 1) := by decide +kernel
theorem dX12_fault_1 : decode cX12_fault 1 = .ok (.ifCond .ne 10, 3) := by decide +kernel
theorem dX12_fault_4 : decode cX12_fault 4 = .ok (.aload_n 0, 1) := by decide +kernel
theorem dX12_fault_5 : decode cX12_fault 5 = .ok (.getfield 113, 3) := by decide +kernel
theorem dX12_fault_8 : decode cX12_fault 8 = .ok (.goto 16, 3) := by decide +kernel
theorem dX12_fault_11 : decode cX12_fault 11 = .ok (.iload_n 1, 1) := by decide +kernel
theorem dX12_fault_12 : decode cX12_fault 12 = .ok (.iconst 1, 1) := by decide +kernel
theorem dX12_fault_13 : decode cX12_fault 13 = .ok (.if_icmp .ne 10, 3) := by decide +kernel
theorem dX12_fault_16 : decode cX12_fault 16 = .ok (.aload_n 0, 1) := by decide +kernel
theorem dX12_fault_17 : decode cX12_fault 17 = .ok (.getfield 16, 3) := by decide +kernel
theorem dX12_fault_20 : decode cX12_fault 20 = .ok (.goto 4, 3) := by decide +kernel
theorem dX12_fault_23 : decode cX12_fault 23 = .ok (.iconst (-1), 1) := by decide +kernel
theorem dX12_fault_24 : decode cX12_fault 24 = .ok (.ireturn, 1) := by decide +kernel
theorem dX12_isPart_0 : decode cX12_isPart 0 = .ok (.iload_n 1, 1) := by decide +kernel
theorem dX12_isPart_1 : decode cX12_isPart 1 = .ok (.invokestatic 168, 3) := by decide +kernel
theorem dX12_isPart_4 : decode cX12_isPart 4 = .ok (.ifCond .eq 21, 3) := by decide +kernel
theorem dX12_isPart_7 : decode cX12_isPart 7 = .ok (.iload_n 2, 1) := by decide +kernel
theorem dX12_isPart_8 : decode cX12_isPart 8 = .ok (.ifCond .lt 17, 3) := by decide +kernel
theorem dX12_isPart_11 : decode cX12_isPart 11 = .ok (.iload_n 2, 1) := by decide +kernel
theorem dX12_isPart_12 : decode cX12_isPart 12 = .ok (.aload_n 0, 1) := by decide +kernel
theorem dX12_isPart_13 : decode cX12_isPart 13 = .ok (.getfield 20, 3) := by decide +kernel
theorem dX12_isPart_16 : decode cX12_isPart 16 = .ok (.iload_n 1, 1) := by decide +kernel
theorem dX12_isPart_17 : decode cX12_isPart 17 = .ok (.iaload, 1) := by decide +kernel
theorem dX12_isPart_18 : decode cX12_isPart 18 = .ok (.if_icmp .ge 7, 3) := by decide +kernel
theorem dX12_isPart_21 : decode cX12_isPart 21 = .ok (.iconst 1, 1) := by decide +kernel
theorem dX12_isPart_22 : decode cX12_isPart 22 = .ok (.goto 4, 3) := by decide +kernel
theorem dX12_isPart_25 : decode cX12_isPart 25 = .ok (.iconst 0, 1) := by decide +kernel
theorem dX12_isPart_26 : decode cX12_isPart 26 = .ok (.ireturn, 1) := by decide +kernel
theorem dX12_hasPage_0 : decode cX12_hasPage 0 = .ok (.iload_n 1, 1) := by decide +kernel
theorem dX12_hasPage_1 : decode cX12_hasPage 1 = .ok (.invokestatic 168, 3) := by decide +kernel
theorem dX12_hasPage_4 : decode cX12_hasPage 4 = .ok (.ifCond .eq 16, 3) := by decide +kernel
theorem dX12_hasPage_7 : decode cX12_hasPage 7 = .ok (.aload_n 0, 1) := by decide +kernel
theorem dX12_hasPage_8 : decode cX12_hasPage 8 = .ok (.getfield 20, 3) := by decide +kernel
theorem dX12_hasPage_11 : decode cX12_hasPage 11 = .ok (.iload_n 1, 1) := by decide +kernel
theorem dX12_hasPage_12 : decode cX12_hasPage 12 = .ok (.iaload, 1) := by decide +kernel
theorem dX12_hasPage_13 : decode cX12_hasPage 13 = .ok (.ifCond .le 7, 3) := by decide +kernel
theorem dX12_hasPage_16 : decode cX12_hasPage 16 = .ok (.iconst 1, 1) := by decide +kernel
theorem dX12_hasPage_17 : decode cX12_hasPage 17 = .ok (.goto 4, 3) := by decide +kernel
theorem dX12_hasPage_20 : decode cX12_hasPage 20 = .ok (.iconst 0, 1) := by decide +kernel
theorem dX12_hasPage_21 : decode cX12_hasPage 21 = .ok (.ireturn, 1) := by decide +kernel
theorem dX12_left_0 : decode cX12_left 0 = .ok (.iconst (-1), 1) := by decide +kernel
theorem dX12_left_1 : decode cX12_left 1 = .ok (.istore_n 3, 1) := by decide +kernel
theorem dX12_left_2 : decode cX12_left 2 = .ok (.iconst 0, 1) := by decide +kernel
theorem dX12_left_3 : decode cX12_left 3 = .ok (.istore 4, 2) := by decide +kernel
theorem dX12_left_5 : decode cX12_left 5 = .ok (.iload 4, 2) := by decide +kernel
theorem dX12_left_7 : decode cX12_left 7 = .ok (.iload_n 2, 1) := by decide +kernel
theorem dX12_left_8 : decode cX12_left 8 = .ok (.if_icmp .ge 45, 3) := by decide +kernel
theorem dX12_left_11 : decode cX12_left 11 = .ok (.iload_n 2, 1) := by decide +kernel
theorem dX12_left_12 : decode cX12_left 12 = .ok (.ifCond .le 35, 3) := by decide +kernel
theorem dX12_left_15 : decode cX12_left 15 = .ok (.iload 4, 2) := by decide +kernel
theorem dX12_left_17 : decode cX12_left 17 = .ok (.ifCond .le 30, 3) := by decide +kernel
theorem dX12_left_20 : decode cX12_left 20 = .ok (.aload_n 0, 1) := by decide +kernel
theorem dX12_left_21 : decode cX12_left 21 = .ok (.getfield 24, 3) := by decide +kernel
theorem dX12_left_24 : decode cX12_left 24 = .ok (.iload_n 1, 1) := by decide +kernel
theorem dX12_left_25 : decode cX12_left 25 = .ok (.iload 4, 2) := by decide +kernel
theorem dX12_left_27 : decode cX12_left 27 = .ok (.invokestatic 151, 3) := by decide +kernel
theorem dX12_left_30 : decode cX12_left 30 = .ok (.iaload, 1) := by decide +kernel
theorem dX12_left_31 : decode cX12_left 31 = .ok (.aload_n 0, 1) := by decide +kernel
theorem dX12_left_32 : decode cX12_left 32 = .ok (.getfield 24, 3) := by decide +kernel
theorem dX12_left_35 : decode cX12_left 35 = .ok (.iload_n 1, 1) := by decide +kernel
theorem dX12_left_36 : decode cX12_left 36 = .ok (.iload_n 2, 1) := by decide +kernel
theorem dX12_left_37 : decode cX12_left 37 = .ok (.invokestatic 151, 3) := by decide +kernel
theorem dX12_left_40 : decode cX12_left 40 = .ok (.iaload, 1) := by decide +kernel
theorem dX12_left_41 : decode cX12_left 41 = .ok (.if_icmp .ne 6, 3) := by decide +kernel
theorem dX12_left_44 : decode cX12_left 44 = .ok (.iload 4, 2) := by decide +kernel
theorem dX12_left_46 : decode cX12_left 46 = .ok (.istore_n 3, 1) := by decide +kernel
theorem dX12_left_47 : decode cX12_left 47 = .ok (.iinc 4 1, 3) := by decide +kernel
theorem dX12_left_50 : decode cX12_left 50 = .ok (.goto (-45), 3) := by decide +kernel
theorem dX12_left_53 : decode cX12_left 53 = .ok (.iload_n 3, 1) := by decide +kernel
theorem dX12_left_54 : decode cX12_left 54 = .ok (.ireturn, 1) := by decide +kernel
theorem dX12_right_0 : decode cX12_right 0 = .ok (.iload_n 2, 1) := by decide +kernel
theorem dX12_right_1 : decode cX12_right 1 = .ok (.aload_n 0, 1) := by decide +kernel
theorem dX12_right_2 : decode cX12_right 2 = .ok (.getfield 27, 3) := by decide +kernel
theorem dX12_right_5 : decode cX12_right 5 = .ok (.iload_n 1, 1) := by decide +kernel
theorem dX12_right_6 : decode cX12_right 6 = .ok (.iload_n 2, 1) := by decide +kernel
theorem dX12_right_7 : decode cX12_right 7 = .ok (.invokestatic 151, 3) := by decide +kernel
theorem dX12_right_10 : decode cX12_right 10 = .ok (.iaload, 1) := by decide +kernel
theorem dX12_right_11 : decode cX12_right 11 = .ok (.iadd, 1) := by decide +kernel
theorem dX12_right_12 : decode cX12_right 12 = .ok (.istore_n 3, 1) := by decide +kernel
theorem dX12_right_13 : decode cX12_right 13 = .ok (.iload_n 2, 1) := by decide +kernel
theorem dX12_right_14 : decode cX12_right 14 = .ok (.ifCond .le 40, 3) := by decide +kernel
theorem dX12_right_17 : decode cX12_right 17 = .ok (.iload_n 3, 1) := by decide +kernel
theorem dX12_right_18 : decode cX12_right 18 = .ok (.aload_n 0, 1) := by decide +kernel
theorem dX12_right_19 : decode cX12_right 19 = .ok (.getfield 20, 3) := by decide +kernel
theorem dX12_right_22 : decode cX12_right 22 = .ok (.iload_n 1, 1) := by decide +kernel
theorem dX12_right_23 : decode cX12_right 23 = .ok (.iaload, 1) := by decide +kernel
theorem dX12_right_24 : decode cX12_right 24 = .ok (.if_icmp .ge 30, 3) := by decide +kernel
theorem dX12_right_27 : decode cX12_right 27 = .ok (.aload_n 0, 1) := by decide +kernel
theorem dX12_right_28 : decode cX12_right 28 = .ok (.getfield 24, 3) := by decide +kernel
theorem dX12_right_31 : decode cX12_right 31 = .ok (.iload_n 1, 1) := by decide +kernel
theorem dX12_right_32 : decode cX12_right 32 = .ok (.iload_n 3, 1) := by decide +kernel
theorem dX12_right_33 : decode cX12_right 33 = .ok (.invokestatic 151, 3) := by decide +kernel
theorem dX12_right_36 : decode cX12_right 36 = .ok (.iaload, 1) := by decide +kernel
theorem dX12_right_37 : decode cX12_right 37 = .ok (.aload_n 0, 1) := by decide +kernel
theorem dX12_right_38 : decode cX12_right 38 = .ok (.getfield 24, 3) := by decide +kernel
theorem dX12_right_41 : decode cX12_right 41 = .ok (.iload_n 1, 1) := by decide +kernel
theorem dX12_right_42 : decode cX12_right 42 = .ok (.iload_n 2, 1) := by decide +kernel
theorem dX12_right_43 : decode cX12_right 43 = .ok (.invokestatic 151, 3) := by decide +kernel
theorem dX12_right_46 : decode cX12_right 46 = .ok (.iaload, 1) := by decide +kernel
theorem dX12_right_47 : decode cX12_right 47 = .ok (.if_icmp .ne 7, 3) := by decide +kernel
theorem dX12_right_50 : decode cX12_right 50 = .ok (.iload_n 3, 1) := by decide +kernel
theorem dX12_right_51 : decode cX12_right 51 = .ok (.goto 4, 3) := by decide +kernel
theorem dX12_right_54 : decode cX12_right 54 = .ok (.iconst (-1), 1) := by decide +kernel
theorem dX12_right_55 : decode cX12_right 55 = .ok (.ireturn, 1) := by decide +kernel
theorem dX12_label_0 : decode cX12_label 0 = .ok (.iload_n 2, 1) := by decide +kernel
theorem dX12_label_1 : decode cX12_label 1 = .ok (.iconst 1, 1) := by decide +kernel
theorem dX12_label_2 : decode cX12_label 2 = .ok (.isub, 1) := by decide +kernel
theorem dX12_label_3 : decode cX12_label 3 = .ok (.istore_n 3, 1) := by decide +kernel
theorem dX12_label_4 : decode cX12_label 4 = .ok (.iload_n 3, 1) := by decide +kernel
theorem dX12_label_5 : decode cX12_label 5 = .ok (.ifCond .lt 40, 3) := by decide +kernel
theorem dX12_label_8 : decode cX12_label 8 = .ok (.aload_n 0, 1) := by decide +kernel
theorem dX12_label_9 : decode cX12_label 9 = .ok (.getfield 42, 3) := by decide +kernel
theorem dX12_label_12 : decode cX12_label 12 = .ok (.iload_n 1, 1) := by decide +kernel
theorem dX12_label_13 : decode cX12_label 13 = .ok (.iload_n 3, 1) := by decide +kernel
theorem dX12_label_14 : decode cX12_label 14 = .ok (.invokestatic 151, 3) := by decide +kernel
theorem dX12_label_17 : decode cX12_label 17 = .ok (.laload, 1) := by decide +kernel
theorem dX12_label_18 : decode cX12_label 18 = .ok (.ldc2_w 183, 3) := by decide +kernel
theorem dX12_label_21 : decode cX12_label 21 = .ok (.lcmp, 1) := by decide +kernel
theorem dX12_label_22 : decode cX12_label 22 = .ok (.ifCond .ne 17, 3) := by decide +kernel
theorem dX12_label_25 : decode cX12_label 25 = .ok (.aload_n 0, 1) := by decide +kernel
theorem dX12_label_26 : decode cX12_label 26 = .ok (.getfield 36, 3) := by decide +kernel
theorem dX12_label_29 : decode cX12_label 29 = .ok (.iload_n 1, 1) := by decide +kernel
theorem dX12_label_30 : decode cX12_label 30 = .ok (.iload_n 3, 1) := by decide +kernel
theorem dX12_label_31 : decode cX12_label 31 = .ok (.invokestatic 151, 3) := by decide +kernel
theorem dX12_label_34 : decode cX12_label 34 = .ok (.iaload, 1) := by decide +kernel
theorem dX12_label_35 : decode cX12_label 35 = .ok (.iconst 1, 1) := by decide +kernel
theorem dX12_label_36 : decode cX12_label 36 = .ok (.if_icmp .ge 9, 3) := by decide +kernel
theorem dX12_label_39 : decode cX12_label 39 = .ok (.iinc 3 (-1), 3) := by decide +kernel
theorem dX12_label_42 : decode cX12_label 42 = .ok (.goto (-38), 3) := by decide +kernel
theorem dX12_label_45 : decode cX12_label 45 = .ok (.iload_n 3, 1) := by decide +kernel
theorem dX12_label_46 : decode cX12_label 46 = .ok (.ireturn, 1) := by decide +kernel
theorem dX12_part_0 : decode cX12_part 0 = .ok (.aload_n 0, 1) := by decide +kernel
theorem dX12_part_1 : decode cX12_part 1 = .ok (.iload_n 1, 1) := by decide +kernel
theorem dX12_part_2 : decode cX12_part 2 = .ok (.iload_n 2, 1) := by decide +kernel
theorem dX12_part_3 : decode cX12_part 3 = .ok (.invokevirtual 185, 3) := by decide +kernel
theorem dX12_part_6 : decode cX12_part 6 = .ok (.ifCond .ne 5, 3) := by decide +kernel
theorem dX12_part_9 : decode cX12_part 9 = .ok (.iconst (-1), 1) := by decide +kernel
theorem dX12_part_10 : decode cX12_part 10 = .ok (.ireturn, 1) := by decide +kernel
theorem dX12_part_11 : decode cX12_part 11 = .ok (.iload_n 1, 1) := by decide +kernel
theorem dX12_part_12 : decode cX12_part 12 = .ok (.iload_n 2, 1) := by decide +kernel
theorem dX12_part_13 : decode cX12_part 13 = .ok (.invokestatic 151, 3) := by decide +kernel
theorem dX12_part_16 : decode cX12_part 16 = .ok (.istore 4, 2) := by decide +kernel
theorem dX12_part_18 : decode cX12_part 18 = .ok (.iload_n 3, 1) := by decide +kernel
theorem dX12_part_19 : decode cX12_part 19 = .ok (.tableswitch 140 0 9 #[53, 61, 68, 75, 83, 90, 98, 114, 122, 130], 53) := by decide +kernel
theorem dX12_part_72 : decode cX12_part 72 = .ok (.aload_n 0, 1) := by decide +kernel
theorem dX12_part_73 : decode cX12_part 73 = .ok (.getfield 24, 3) := by decide +kernel
theorem dX12_part_76 : decode cX12_part 76 = .ok (.iload 4, 2) := by decide +kernel
theorem dX12_part_78 : decode cX12_part 78 = .ok (.iaload, 1) := by decide +kernel
theorem dX12_part_79 : decode cX12_part 79 = .ok (.ireturn, 1) := by decide +kernel
theorem dX12_part_80 : decode cX12_part 80 = .ok (.aload_n 0, 1) := by decide +kernel
theorem dX12_part_81 : decode cX12_part 81 = .ok (.iload_n 1, 1) := by decide +kernel
theorem dX12_part_82 : decode cX12_part 82 = .ok (.iload_n 2, 1) := by decide +kernel
theorem dX12_part_83 : decode cX12_part 83 = .ok (.invokevirtual 189, 3) := by decide +kernel
theorem dX12_part_86 : decode cX12_part 86 = .ok (.ireturn, 1) := by decide +kernel
theorem dX12_part_87 : decode cX12_part 87 = .ok (.aload_n 0, 1) := by decide +kernel
theorem dX12_part_88 : decode cX12_part 88 = .ok (.iload_n 1, 1) := by decide +kernel
theorem dX12_part_89 : decode cX12_part 89 = .ok (.iload_n 2, 1) := by decide +kernel
theorem dX12_part_90 : decode cX12_part 90 = .ok (.invokevirtual 192, 3) := by decide +kernel
theorem dX12_part_93 : decode cX12_part 93 = .ok (.ireturn, 1) := by decide +kernel
theorem dX12_part_94 : decode cX12_part 94 = .ok (.aload_n 0, 1) := by decide +kernel
theorem dX12_part_95 : decode cX12_part 95 = .ok (.getfield 30, 3) := by decide +kernel
theorem dX12_part_98 : decode cX12_part 98 = .ok (.iload 4, 2) := by decide +kernel
theorem dX12_part_100 : decode cX12_part 100 = .ok (.iaload, 1) := by decide +kernel
theorem dX12_part_101 : decode cX12_part 101 = .ok (.ireturn, 1) := by decide +kernel
theorem dX12_part_102 : decode cX12_part 102 = .ok (.aload_n 0, 1) := by decide +kernel
theorem dX12_part_103 : decode cX12_part 103 = .ok (.iload_n 1, 1) := by decide +kernel
theorem dX12_part_104 : decode cX12_part 104 = .ok (.iload_n 2, 1) := by decide +kernel
theorem dX12_part_105 : decode cX12_part 105 = .ok (.invokevirtual 195, 3) := by decide +kernel
theorem dX12_part_108 : decode cX12_part 108 = .ok (.ireturn, 1) := by decide +kernel
theorem dX12_part_109 : decode cX12_part 109 = .ok (.aload_n 0, 1) := by decide +kernel
theorem dX12_part_110 : decode cX12_part 110 = .ok (.getfield 33, 3) := by decide +kernel
theorem dX12_part_113 : decode cX12_part 113 = .ok (.iload 4, 2) := by decide +kernel
theorem dX12_part_115 : decode cX12_part 115 = .ok (.iaload, 1) := by decide +kernel
theorem dX12_part_116 : decode cX12_part 116 = .ok (.ireturn, 1) := by decide +kernel
theorem dX12_part_117 : decode cX12_part 117 = .ok (.aload_n 0, 1) := by decide +kernel
theorem dX12_part_118 : decode cX12_part 118 = .ok (.getfield 49, 3) := by decide +kernel
theorem dX12_part_121 : decode cX12_part 121 = .ok (.iload 4, 2) := by decide +kernel
theorem dX12_part_123 : decode cX12_part 123 = .ok (.baload, 1) := by decide +kernel
theorem dX12_part_124 : decode cX12_part 124 = .ok (.ifCond .eq 7, 3) := by decide +kernel
theorem dX12_part_127 : decode cX12_part 127 = .ok (.iconst 1, 1) := by decide +kernel
theorem dX12_part_128 : decode cX12_part 128 = .ok (.goto 4, 3) := by decide +kernel
theorem dX12_part_131 : decode cX12_part 131 = .ok (.iconst 0, 1) := by decide +kernel
theorem dX12_part_132 : decode cX12_part 132 = .ok (.ireturn, 1) := by decide +kernel
theorem dX12_part_133 : decode cX12_part 133 = .ok (.aload_n 0, 1) := by decide +kernel
theorem dX12_part_134 : decode cX12_part 134 = .ok (.getfield 36, 3) := by decide +kernel
theorem dX12_part_137 : decode cX12_part 137 = .ok (.iload 4, 2) := by decide +kernel
theorem dX12_part_139 : decode cX12_part 139 = .ok (.iaload, 1) := by decide +kernel
theorem dX12_part_140 : decode cX12_part 140 = .ok (.ireturn, 1) := by decide +kernel
theorem dX12_part_141 : decode cX12_part 141 = .ok (.aload_n 0, 1) := by decide +kernel
theorem dX12_part_142 : decode cX12_part 142 = .ok (.getfield 39, 3) := by decide +kernel
theorem dX12_part_145 : decode cX12_part 145 = .ok (.iload 4, 2) := by decide +kernel
theorem dX12_part_147 : decode cX12_part 147 = .ok (.iaload, 1) := by decide +kernel
theorem dX12_part_148 : decode cX12_part 148 = .ok (.ireturn, 1) := by decide +kernel
theorem dX12_part_149 : decode cX12_part 149 = .ok (.aload_n 0, 1) := by decide +kernel
theorem dX12_part_150 : decode cX12_part 150 = .ok (.getfield 27, 3) := by decide +kernel
theorem dX12_part_153 : decode cX12_part 153 = .ok (.iload 4, 2) := by decide +kernel
theorem dX12_part_155 : decode cX12_part 155 = .ok (.iaload, 1) := by decide +kernel
theorem dX12_part_156 : decode cX12_part 156 = .ok (.iconst 1, 1) := by decide +kernel
theorem dX12_part_157 : decode cX12_part 157 = .ok (.isub, 1) := by decide +kernel
theorem dX12_part_158 : decode cX12_part 158 = .ok (.ireturn, 1) := by decide +kernel
theorem dX12_part_159 : decode cX12_part 159 = .ok (.iconst (-1), 1) := by decide +kernel
theorem dX12_part_160 : decode cX12_part 160 = .ok (.ireturn, 1) := by decide +kernel
theorem dX12_sizeOf_0 : decode cX12_sizeOf 0 = .ok (.iconst 0, 1) := by decide +kernel
theorem dX12_sizeOf_1 : decode cX12_sizeOf 1 = .ok (.istore_n 2, 1) := by decide +kernel
theorem dX12_sizeOf_2 : decode cX12_sizeOf 2 = .ok (.iload_n 2, 1) := by decide +kernel
theorem dX12_sizeOf_3 : decode cX12_sizeOf 3 = .ok (.bipush 8, 2) := by decide +kernel
theorem dX12_sizeOf_5 : decode cX12_sizeOf 5 = .ok (.if_icmp .ge 20, 3) := by decide +kernel
theorem dX12_sizeOf_8 : decode cX12_sizeOf 8 = .ok (.lload_n 0, 1) := by decide +kernel
theorem dX12_sizeOf_9 : decode cX12_sizeOf 9 = .ok (.bipush 8, 2) := by decide +kernel
theorem dX12_sizeOf_11 : decode cX12_sizeOf 11 = .ok (.iload_n 2, 1) := by decide +kernel
theorem dX12_sizeOf_12 : decode cX12_sizeOf 12 = .ok (.imul, 1) := by decide +kernel
theorem dX12_sizeOf_13 : decode cX12_sizeOf 13 = .ok (.lushr, 1) := by decide +kernel
theorem dX12_sizeOf_14 : decode cX12_sizeOf 14 = .ok (.lconst 0, 1) := by decide +kernel
theorem dX12_sizeOf_15 : decode cX12_sizeOf 15 = .ok (.lcmp, 1) := by decide +kernel
theorem dX12_sizeOf_16 : decode cX12_sizeOf 16 = .ok (.ifCond .eq 9, 3) := by decide +kernel
theorem dX12_sizeOf_19 : decode cX12_sizeOf 19 = .ok (.iinc 2 1, 3) := by decide +kernel
theorem dX12_sizeOf_22 : decode cX12_sizeOf 22 = .ok (.goto (-20), 3) := by decide +kernel
theorem dX12_sizeOf_25 : decode cX12_sizeOf 25 = .ok (.iload_n 2, 1) := by decide +kernel
theorem dX12_sizeOf_26 : decode cX12_sizeOf 26 = .ok (.ireturn, 1) := by decide +kernel
theorem dX12_text_0 : decode cX12_text 0 = .ok (.aload_n 0, 1) := by decide +kernel
theorem dX12_text_1 : decode cX12_text 1 = .ok (.iload_n 1, 1) := by decide +kernel
theorem dX12_text_2 : decode cX12_text 2 = .ok (.iload_n 2, 1) := by decide +kernel
theorem dX12_text_3 : decode cX12_text 3 = .ok (.invokevirtual 185, 3) := by decide +kernel
theorem dX12_text_6 : decode cX12_text 6 = .ok (.ifCond .eq 17, 3) := by decide +kernel
theorem dX12_text_9 : decode cX12_text 9 = .ok (.iload_n 3, 1) := by decide +kernel
theorem dX12_text_10 : decode cX12_text 10 = .ok (.ifCond .lt 13, 3) := by decide +kernel
theorem dX12_text_13 : decode cX12_text 13 = .ok (.iload_n 3, 1) := by decide +kernel
theorem dX12_text_14 : decode cX12_text 14 = .ok (.iconst 2, 1) := by decide +kernel
theorem dX12_text_15 : decode cX12_text 15 = .ok (.if_icmp .gt 8, 3) := by decide +kernel
theorem dX12_text_18 : decode cX12_text 18 = .ok (.iload 4, 2) := by decide +kernel
theorem dX12_text_20 : decode cX12_text 20 = .ok (.ifCond .ge 5, 3) := by decide +kernel
theorem dX12_text_23 : decode cX12_text 23 = .ok (.iconst (-1), 1) := by decide +kernel
theorem dX12_text_24 : decode cX12_text 24 = .ok (.ireturn, 1) := by decide +kernel
theorem dX12_text_25 : decode cX12_text 25 = .ok (.iload_n 1, 1) := by decide +kernel
theorem dX12_text_26 : decode cX12_text 26 = .ok (.iload_n 2, 1) := by decide +kernel
theorem dX12_text_27 : decode cX12_text 27 = .ok (.invokestatic 151, 3) := by decide +kernel
theorem dX12_text_30 : decode cX12_text 30 = .ok (.istore 5, 2) := by decide +kernel
theorem dX12_text_32 : decode cX12_text 32 = .ok (.iload_n 3, 1) := by decide +kernel
theorem dX12_text_33 : decode cX12_text 33 = .ok (.iconst 2, 1) := by decide +kernel
theorem dX12_text_34 : decode cX12_text 34 = .ok (.if_icmp .ne 37, 3) := by decide +kernel
theorem dX12_text_37 : decode cX12_text 37 = .ok (.iload 4, 2) := by decide +kernel
theorem dX12_text_39 : decode cX12_text 39 = .ok (.aload_n 0, 1) := by decide +kernel
theorem dX12_text_40 : decode cX12_text 40 = .ok (.getfield 36, 3) := by decide +kernel
theorem dX12_text_43 : decode cX12_text 43 = .ok (.iload 5, 2) := by decide +kernel
theorem dX12_text_45 : decode cX12_text 45 = .ok (.iaload, 1) := by decide +kernel
theorem dX12_text_46 : decode cX12_text 46 = .ok (.if_icmp .ge 23, 3) := by decide +kernel
theorem dX12_text_49 : decode cX12_text 49 = .ok (.aload_n 0, 1) := by decide +kernel
theorem dX12_text_50 : decode cX12_text 50 = .ok (.getfield 53, 3) := by decide +kernel
theorem dX12_text_53 : decode cX12_text 53 = .ok (.bipush 16, 2) := by decide +kernel
theorem dX12_text_55 : decode cX12_text 55 = .ok (.iload 5, 2) := by decide +kernel
theorem dX12_text_57 : decode cX12_text 57 = .ok (.imul, 1) := by decide +kernel
theorem dX12_text_58 : decode cX12_text 58 = .ok (.iload 4, 2) := by decide +kernel
theorem dX12_text_60 : decode cX12_text 60 = .ok (.iadd, 1) := by decide +kernel
theorem dX12_text_61 : decode cX12_text 61 = .ok (.baload, 1) := by decide +kernel
theorem dX12_text_62 : decode cX12_text 62 = .ok (.sipush 255, 3) := by decide +kernel
theorem dX12_text_65 : decode cX12_text 65 = .ok (.iand, 1) := by decide +kernel
theorem dX12_text_66 : decode cX12_text 66 = .ok (.goto 4, 3) := by decide +kernel
theorem dX12_text_69 : decode cX12_text 69 = .ok (.iconst (-1), 1) := by decide +kernel
theorem dX12_text_70 : decode cX12_text 70 = .ok (.ireturn, 1) := by decide +kernel
theorem dX12_text_71 : decode cX12_text 71 = .ok (.iload_n 3, 1) := by decide +kernel
theorem dX12_text_72 : decode cX12_text 72 = .ok (.ifCond .ne 13, 3) := by decide +kernel
theorem dX12_text_75 : decode cX12_text 75 = .ok (.aload_n 0, 1) := by decide +kernel
theorem dX12_text_76 : decode cX12_text 76 = .ok (.getfield 42, 3) := by decide +kernel
theorem dX12_text_79 : decode cX12_text 79 = .ok (.iload 5, 2) := by decide +kernel
theorem dX12_text_81 : decode cX12_text 81 = .ok (.laload, 1) := by decide +kernel
theorem dX12_text_82 : decode cX12_text 82 = .ok (.goto 10, 3) := by decide +kernel
theorem dX12_text_85 : decode cX12_text 85 = .ok (.aload_n 0, 1) := by decide +kernel
theorem dX12_text_86 : decode cX12_text 86 = .ok (.getfield 46, 3) := by decide +kernel
theorem dX12_text_89 : decode cX12_text 89 = .ok (.iload 5, 2) := by decide +kernel
theorem dX12_text_91 : decode cX12_text 91 = .ok (.laload, 1) := by decide +kernel
theorem dX12_text_92 : decode cX12_text 92 = .ok (.lstore 6, 2) := by decide +kernel
theorem dX12_text_94 : decode cX12_text 94 = .ok (.lload 6, 2) := by decide +kernel
theorem dX12_text_96 : decode cX12_text 96 = .ok (.invokestatic 198, 3) := by decide +kernel
theorem dX12_text_99 : decode cX12_text 99 = .ok (.istore 8, 2) := by decide +kernel
theorem dX12_text_101 : decode cX12_text 101 = .ok (.iload 4, 2) := by decide +kernel
theorem dX12_text_103 : decode cX12_text 103 = .ok (.iload 8, 2) := by decide +kernel
theorem dX12_text_105 : decode cX12_text 105 = .ok (.if_icmp .ge 24, 3) := by decide +kernel
theorem dX12_text_108 : decode cX12_text 108 = .ok (.lload 6, 2) := by decide +kernel
theorem dX12_text_110 : decode cX12_text 110 = .ok (.bipush 8, 2) := by decide +kernel
theorem dX12_text_112 : decode cX12_text 112 = .ok (.iload 8, 2) := by decide +kernel
theorem dX12_text_114 : decode cX12_text 114 = .ok (.iconst 1, 1) := by decide +kernel
theorem dX12_text_115 : decode cX12_text 115 = .ok (.isub, 1) := by decide +kernel
theorem dX12_text_116 : decode cX12_text 116 = .ok (.iload 4, 2) := by decide +kernel
theorem dX12_text_118 : decode cX12_text 118 = .ok (.isub, 1) := by decide +kernel
theorem dX12_text_119 : decode cX12_text 119 = .ok (.imul, 1) := by decide +kernel
theorem dX12_text_120 : decode cX12_text 120 = .ok (.lshr, 1) := by decide +kernel
theorem dX12_text_121 : decode cX12_text 121 = .ok (.ldc2_w 202, 3) := by decide +kernel
theorem dX12_text_124 : decode cX12_text 124 = .ok (.land, 1) := by decide +kernel
theorem dX12_text_125 : decode cX12_text 125 = .ok (.l2i, 1) := by decide +kernel
theorem dX12_text_126 : decode cX12_text 126 = .ok (.goto 4, 3) := by decide +kernel
theorem dX12_text_129 : decode cX12_text 129 = .ok (.iconst (-1), 1) := by decide +kernel
theorem dX12_text_130 : decode cX12_text 130 = .ok (.ireturn, 1) := by decide +kernel
theorem dX12_areSameWords_0 : decode cX12_areSameWords 0 = .ok (.aload_n 0, 1) := by decide +kernel
theorem dX12_areSameWords_1 : decode cX12_areSameWords 1 = .ok (.getfield 36, 3) := by decide +kernel
theorem dX12_areSameWords_4 : decode cX12_areSameWords 4 = .ok (.iload_n 1, 1) := by decide +kernel
theorem dX12_areSameWords_5 : decode cX12_areSameWords 5 = .ok (.iaload, 1) := by decide +kernel
theorem dX12_areSameWords_6 : decode cX12_areSameWords 6 = .ok (.aload_n 0, 1) := by decide +kernel
theorem dX12_areSameWords_7 : decode cX12_areSameWords 7 = .ok (.getfield 36, 3) := by decide +kernel
theorem dX12_areSameWords_10 : decode cX12_areSameWords 10 = .ok (.iload_n 2, 1) := by decide +kernel
theorem dX12_areSameWords_11 : decode cX12_areSameWords 11 = .ok (.iaload, 1) := by decide +kernel
theorem dX12_areSameWords_12 : decode cX12_areSameWords 12 = .ok (.if_icmp .eq 5, 3) := by decide +kernel
theorem dX12_areSameWords_15 : decode cX12_areSameWords 15 = .ok (.iconst 0, 1) := by decide +kernel
theorem dX12_areSameWords_16 : decode cX12_areSameWords 16 = .ok (.ireturn, 1) := by decide +kernel
theorem dX12_areSameWords_17 : decode cX12_areSameWords 17 = .ok (.iconst 0, 1) := by decide +kernel
theorem dX12_areSameWords_18 : decode cX12_areSameWords 18 = .ok (.istore_n 3, 1) := by decide +kernel
theorem dX12_areSameWords_19 : decode cX12_areSameWords 19 = .ok (.iload_n 3, 1) := by decide +kernel
theorem dX12_areSameWords_20 : decode cX12_areSameWords 20 = .ok (.aload_n 0, 1) := by decide +kernel
theorem dX12_areSameWords_21 : decode cX12_areSameWords 21 = .ok (.getfield 36, 3) := by decide +kernel
theorem dX12_areSameWords_24 : decode cX12_areSameWords 24 = .ok (.iload_n 1, 1) := by decide +kernel
theorem dX12_areSameWords_25 : decode cX12_areSameWords 25 = .ok (.iaload, 1) := by decide +kernel
theorem dX12_areSameWords_26 : decode cX12_areSameWords 26 = .ok (.if_icmp .ge 36, 3) := by decide +kernel
theorem dX12_areSameWords_29 : decode cX12_areSameWords 29 = .ok (.aload_n 0, 1) := by decide +kernel
theorem dX12_areSameWords_30 : decode cX12_areSameWords 30 = .ok (.getfield 53, 3) := by decide +kernel
theorem dX12_areSameWords_33 : decode cX12_areSameWords 33 = .ok (.bipush 16, 2) := by decide +kernel
theorem dX12_areSameWords_35 : decode cX12_areSameWords 35 = .ok (.iload_n 1, 1) := by decide +kernel
theorem dX12_areSameWords_36 : decode cX12_areSameWords 36 = .ok (.imul, 1) := by decide +kernel
theorem dX12_areSameWords_37 : decode cX12_areSameWords 37 = .ok (.iload_n 3, 1) := by decide +kernel
theorem dX12_areSameWords_38 : decode cX12_areSameWords 38 = .ok (.iadd, 1) := by decide +kernel
theorem dX12_areSameWords_39 : decode cX12_areSameWords 39 = .ok (.baload, 1) := by decide +kernel
theorem dX12_areSameWords_40 : decode cX12_areSameWords 40 = .ok (.aload_n 0, 1) := by decide +kernel
theorem dX12_areSameWords_41 : decode cX12_areSameWords 41 = .ok (.getfield 53, 3) := by decide +kernel
theorem dX12_areSameWords_44 : decode cX12_areSameWords 44 = .ok (.bipush 16, 2) := by decide +kernel
theorem dX12_areSameWords_46 : decode cX12_areSameWords 46 = .ok (.iload_n 2, 1) := by decide +kernel
theorem dX12_areSameWords_47 : decode cX12_areSameWords 47 = .ok (.imul, 1) := by decide +kernel
theorem dX12_areSameWords_48 : decode cX12_areSameWords 48 = .ok (.iload_n 3, 1) := by decide +kernel
theorem dX12_areSameWords_49 : decode cX12_areSameWords 49 = .ok (.iadd, 1) := by decide +kernel
theorem dX12_areSameWords_50 : decode cX12_areSameWords 50 = .ok (.baload, 1) := by decide +kernel
theorem dX12_areSameWords_51 : decode cX12_areSameWords 51 = .ok (.if_icmp .eq 5, 3) := by decide +kernel
theorem dX12_areSameWords_54 : decode cX12_areSameWords 54 = .ok (.iconst 0, 1) := by decide +kernel
theorem dX12_areSameWords_55 : decode cX12_areSameWords 55 = .ok (.ireturn, 1) := by decide +kernel
theorem dX12_areSameWords_56 : decode cX12_areSameWords 56 = .ok (.iinc 3 1, 3) := by decide +kernel
theorem dX12_areSameWords_59 : decode cX12_areSameWords 59 = .ok (.goto (-40), 3) := by decide +kernel
theorem dX12_areSameWords_62 : decode cX12_areSameWords 62 = .ok (.iconst 1, 1) := by decide +kernel
theorem dX12_areSameWords_63 : decode cX12_areSameWords 63 = .ok (.ireturn, 1) := by decide +kernel
theorem dX12_change_0 : decode cX12_change 0 = .ok (.aload_n 0, 1) := by decide +kernel
theorem dX12_change_1 : decode cX12_change 1 = .ok (.getfield 42, 3) := by decide +kernel
theorem dX12_change_4 : decode cX12_change 4 = .ok (.iload_n 1, 1) := by decide +kernel
theorem dX12_change_5 : decode cX12_change 5 = .ok (.laload, 1) := by decide +kernel
theorem dX12_change_6 : decode cX12_change 6 = .ok (.aload_n 0, 1) := by decide +kernel
theorem dX12_change_7 : decode cX12_change 7 = .ok (.getfield 42, 3) := by decide +kernel
theorem dX12_change_10 : decode cX12_change 10 = .ok (.iload_n 2, 1) := by decide +kernel
theorem dX12_change_11 : decode cX12_change 11 = .ok (.laload, 1) := by decide +kernel
theorem dX12_change_12 : decode cX12_change 12 = .ok (.lcmp, 1) := by decide +kernel
theorem dX12_change_13 : decode cX12_change 13 = .ok (.ifCond .ne 7, 3) := by decide +kernel
theorem dX12_change_16 : decode cX12_change 16 = .ok (.iconst 0, 1) := by decide +kernel
theorem dX12_change_17 : decode cX12_change 17 = .ok (.goto 4, 3) := by decide +kernel
theorem dX12_change_20 : decode cX12_change 20 = .ok (.iconst 4, 1) := by decide +kernel
theorem dX12_change_21 : decode cX12_change 21 = .ok (.aload_n 0, 1) := by decide +kernel
theorem dX12_change_22 : decode cX12_change 22 = .ok (.getfield 46, 3) := by decide +kernel
theorem dX12_change_25 : decode cX12_change 25 = .ok (.iload_n 1, 1) := by decide +kernel
theorem dX12_change_26 : decode cX12_change 26 = .ok (.laload, 1) := by decide +kernel
theorem dX12_change_27 : decode cX12_change 27 = .ok (.aload_n 0, 1) := by decide +kernel
theorem dX12_change_28 : decode cX12_change 28 = .ok (.getfield 46, 3) := by decide +kernel
theorem dX12_change_31 : decode cX12_change 31 = .ok (.iload_n 2, 1) := by decide +kernel
theorem dX12_change_32 : decode cX12_change 32 = .ok (.laload, 1) := by decide +kernel
theorem dX12_change_33 : decode cX12_change 33 = .ok (.lcmp, 1) := by decide +kernel
theorem dX12_change_34 : decode cX12_change 34 = .ok (.ifCond .ne 7, 3) := by decide +kernel
theorem dX12_change_37 : decode cX12_change 37 = .ok (.iconst 0, 1) := by decide +kernel
theorem dX12_change_38 : decode cX12_change 38 = .ok (.goto 4, 3) := by decide +kernel
theorem dX12_change_41 : decode cX12_change 41 = .ok (.iconst 2, 1) := by decide +kernel
theorem dX12_change_42 : decode cX12_change 42 = .ok (.iadd, 1) := by decide +kernel
theorem dX12_change_43 : decode cX12_change 43 = .ok (.aload_n 0, 1) := by decide +kernel
theorem dX12_change_44 : decode cX12_change 44 = .ok (.iload_n 1, 1) := by decide +kernel
theorem dX12_change_45 : decode cX12_change 45 = .ok (.iload_n 2, 1) := by decide +kernel
theorem dX12_change_46 : decode cX12_change 46 = .ok (.invokevirtual 204, 3) := by decide +kernel
theorem dX12_change_49 : decode cX12_change 49 = .ok (.ifCond .eq 7, 3) := by decide +kernel
theorem dX12_change_52 : decode cX12_change 52 = .ok (.iconst 0, 1) := by decide +kernel
theorem dX12_change_53 : decode cX12_change 53 = .ok (.goto 4, 3) := by decide +kernel
theorem dX12_change_56 : decode cX12_change 56 = .ok (.iconst 1, 1) := by decide +kernel
theorem dX12_change_57 : decode cX12_change 57 = .ok (.iadd, 1) := by decide +kernel
theorem dX12_change_58 : decode cX12_change 58 = .ok (.ireturn, 1) := by decide +kernel
theorem dX12_measureAll_0 : decode cX12_measureAll 0 = .ok (.aload_n 0, 1) := by decide +kernel
theorem dX12_measureAll_1 : decode cX12_measureAll 1 = .ok (.getfield 20, 3) := by decide +kernel
theorem dX12_measureAll_4 : decode cX12_measureAll 4 = .ok (.iload_n 1, 1) := by decide +kernel
theorem dX12_measureAll_5 : decode cX12_measureAll 5 = .ok (.iaload, 1) := by decide +kernel
theorem dX12_measureAll_6 : decode cX12_measureAll 6 = .ok (.iconst 1, 1) := by decide +kernel
theorem dX12_measureAll_7 : decode cX12_measureAll 7 = .ok (.isub, 1) := by decide +kernel
theorem dX12_measureAll_8 : decode cX12_measureAll 8 = .ok (.istore_n 3, 1) := by decide +kernel
theorem dX12_measureAll_9 : decode cX12_measureAll 9 = .ok (.iload_n 3, 1) := by decide +kernel
theorem dX12_measureAll_10 : decode cX12_measureAll 10 = .ok (.ifCond .lt 51, 3) := by decide +kernel
theorem dX12_measureAll_13 : decode cX12_measureAll 13 = .ok (.aload_n 0, 1) := by decide +kernel
theorem dX12_measureAll_14 : decode cX12_measureAll 14 = .ok (.getfield 20, 3) := by decide +kernel
theorem dX12_measureAll_17 : decode cX12_measureAll 17 = .ok (.iload_n 2, 1) := by decide +kernel
theorem dX12_measureAll_18 : decode cX12_measureAll 18 = .ok (.iaload, 1) := by decide +kernel
theorem dX12_measureAll_19 : decode cX12_measureAll 19 = .ok (.iconst 1, 1) := by decide +kernel
theorem dX12_measureAll_20 : decode cX12_measureAll 20 = .ok (.isub, 1) := by decide +kernel
theorem dX12_measureAll_21 : decode cX12_measureAll 21 = .ok (.istore 4, 2) := by decide +kernel
theorem dX12_measureAll_23 : decode cX12_measureAll 23 = .ok (.iload 4, 2) := by decide +kernel
theorem dX12_measureAll_25 : decode cX12_measureAll 25 = .ok (.ifCond .lt 30, 3) := by decide +kernel
theorem dX12_measureAll_28 : decode cX12_measureAll 28 = .ok (.aload_n 0, 1) := by decide +kernel
theorem dX12_measureAll_29 : decode cX12_measureAll 29 = .ok (.getfield 59, 3) := by decide +kernel
theorem dX12_measureAll_32 : decode cX12_measureAll 32 = .ok (.bipush 60, 2) := by decide +kernel
theorem dX12_measureAll_34 : decode cX12_measureAll 34 = .ok (.iload_n 3, 1) := by decide +kernel
theorem dX12_measureAll_35 : decode cX12_measureAll 35 = .ok (.imul, 1) := by decide +kernel
theorem dX12_measureAll_36 : decode cX12_measureAll 36 = .ok (.iload 4, 2) := by decide +kernel
theorem dX12_measureAll_38 : decode cX12_measureAll 38 = .ok (.iadd, 1) := by decide +kernel
theorem dX12_measureAll_39 : decode cX12_measureAll 39 = .ok (.aload_n 0, 1) := by decide +kernel
theorem dX12_measureAll_40 : decode cX12_measureAll 40 = .ok (.iload_n 1, 1) := by decide +kernel
theorem dX12_measureAll_41 : decode cX12_measureAll 41 = .ok (.iload_n 2, 1) := by decide +kernel
theorem dX12_measureAll_42 : decode cX12_measureAll 42 = .ok (.iload_n 3, 1) := by decide +kernel
theorem dX12_measureAll_43 : decode cX12_measureAll 43 = .ok (.iload 4, 2) := by decide +kernel
theorem dX12_measureAll_45 : decode cX12_measureAll 45 = .ok (.invokevirtual 207, 3) := by decide +kernel
theorem dX12_measureAll_48 : decode cX12_measureAll 48 = .ok (.iastore, 1) := by decide +kernel
theorem dX12_measureAll_49 : decode cX12_measureAll 49 = .ok (.iinc 4 (-1), 3) := by decide +kernel
theorem dX12_measureAll_52 : decode cX12_measureAll 52 = .ok (.goto (-29), 3) := by decide +kernel
theorem dX12_measureAll_55 : decode cX12_measureAll 55 = .ok (.iinc 3 (-1), 3) := by decide +kernel
theorem dX12_measureAll_58 : decode cX12_measureAll 58 = .ok (.goto (-49), 3) := by decide +kernel
theorem dX12_measureAll_61 : decode cX12_measureAll 61 = .ok (.return_, 1) := by decide +kernel
theorem dX12_measureOne_0 : decode cX12_measureOne 0 = .ok (.iload_n 3, 1) := by decide +kernel
theorem dX12_measureOne_1 : decode cX12_measureOne 1 = .ok (.aload_n 0, 1) := by decide +kernel
theorem dX12_measureOne_2 : decode cX12_measureOne 2 = .ok (.getfield 27, 3) := by decide +kernel
theorem dX12_measureOne_5 : decode cX12_measureOne 5 = .ok (.iload_n 1, 1) := by decide +kernel
theorem dX12_measureOne_6 : decode cX12_measureOne 6 = .ok (.iload_n 3, 1) := by decide +kernel
theorem dX12_measureOne_7 : decode cX12_measureOne 7 = .ok (.invokestatic 151, 3) := by decide +kernel
theorem dX12_measureOne_10 : decode cX12_measureOne 10 = .ok (.iaload, 1) := by decide +kernel
theorem dX12_measureOne_11 : decode cX12_measureOne 11 = .ok (.iadd, 1) := by decide +kernel
theorem dX12_measureOne_12 : decode cX12_measureOne 12 = .ok (.istore 5, 2) := by decide +kernel
theorem dX12_measureOne_14 : decode cX12_measureOne 14 = .ok (.iload 4, 2) := by decide +kernel
theorem dX12_measureOne_16 : decode cX12_measureOne 16 = .ok (.aload_n 0, 1) := by decide +kernel
theorem dX12_measureOne_17 : decode cX12_measureOne 17 = .ok (.getfield 27, 3) := by decide +kernel
theorem dX12_measureOne_20 : decode cX12_measureOne 20 = .ok (.iload_n 2, 1) := by decide +kernel
theorem dX12_measureOne_21 : decode cX12_measureOne 21 = .ok (.iload 4, 2) := by decide +kernel
theorem dX12_measureOne_23 : decode cX12_measureOne 23 = .ok (.invokestatic 151, 3) := by decide +kernel
theorem dX12_measureOne_26 : decode cX12_measureOne 26 = .ok (.iaload, 1) := by decide +kernel
theorem dX12_measureOne_27 : decode cX12_measureOne 27 = .ok (.iadd, 1) := by decide +kernel
theorem dX12_measureOne_28 : decode cX12_measureOne 28 = .ok (.istore 6, 2) := by decide +kernel
theorem dX12_measureOne_30 : decode cX12_measureOne 30 = .ok (.iload 5, 2) := by decide +kernel
theorem dX12_measureOne_32 : decode cX12_measureOne 32 = .ok (.istore 7, 2) := by decide +kernel
theorem dX12_measureOne_34 : decode cX12_measureOne 34 = .ok (.iload 7, 2) := by decide +kernel
theorem dX12_measureOne_36 : decode cX12_measureOne 36 = .ok (.iload_n 3, 1) := by decide +kernel
theorem dX12_measureOne_37 : decode cX12_measureOne 37 = .ok (.if_icmp .lt 242, 3) := by decide +kernel
theorem dX12_measureOne_40 : decode cX12_measureOne 40 = .ok (.iload 6, 2) := by decide +kernel
theorem dX12_measureOne_42 : decode cX12_measureOne 42 = .ok (.istore 8, 2) := by decide +kernel
theorem dX12_measureOne_44 : decode cX12_measureOne 44 = .ok (.iload 8, 2) := by decide +kernel
theorem dX12_measureOne_46 : decode cX12_measureOne 46 = .ok (.iload 4, 2) := by decide +kernel
theorem dX12_measureOne_48 : decode cX12_measureOne 48 = .ok (.if_icmp .lt 225, 3) := by decide +kernel
theorem dX12_measureOne_51 : decode cX12_measureOne 51 = .ok (.iconst 3, 1) := by decide +kernel
theorem dX12_measureOne_52 : decode cX12_measureOne 52 = .ok (.iload 5, 2) := by decide +kernel
theorem dX12_measureOne_54 : decode cX12_measureOne 54 = .ok (.iload 7, 2) := by decide +kernel
theorem dX12_measureOne_56 : decode cX12_measureOne 56 = .ok (.isub, 1) := by decide +kernel
theorem dX12_measureOne_57 : decode cX12_measureOne 57 = .ok (.iload 6, 2) := by decide +kernel
theorem dX12_measureOne_59 : decode cX12_measureOne 59 = .ok (.iadd, 1) := by decide +kernel
theorem dX12_measureOne_60 : decode cX12_measureOne 60 = .ok (.iload 8, 2) := by decide +kernel
theorem dX12_measureOne_62 : decode cX12_measureOne 62 = .ok (.isub, 1) := by decide +kernel
theorem dX12_measureOne_63 : decode cX12_measureOne 63 = .ok (.imul, 1) := by decide +kernel
theorem dX12_measureOne_64 : decode cX12_measureOne 64 = .ok (.istore 9, 2) := by decide +kernel
theorem dX12_measureOne_66 : decode cX12_measureOne 66 = .ok (.iload 7, 2) := by decide +kernel
theorem dX12_measureOne_68 : decode cX12_measureOne 68 = .ok (.iload 5, 2) := by decide +kernel
theorem dX12_measureOne_70 : decode cX12_measureOne 70 = .ok (.if_icmp .ge 182, 3) := by decide +kernel
theorem dX12_measureOne_73 : decode cX12_measureOne 73 = .ok (.iload 8, 2) := by decide +kernel
theorem dX12_measureOne_75 : decode cX12_measureOne 75 = .ok (.iload 6, 2) := by decide +kernel
theorem dX12_measureOne_77 : decode cX12_measureOne 77 = .ok (.if_icmp .ge 175, 3) := by decide +kernel
theorem dX12_measureOne_80 : decode cX12_measureOne 80 = .ok (.aload_n 0, 1) := by decide +kernel
theorem dX12_measureOne_81 : decode cX12_measureOne 81 = .ok (.getfield 62, 3) := by decide +kernel
theorem dX12_measureOne_84 : decode cX12_measureOne 84 = .ok (.bipush 61, 2) := by decide +kernel
theorem dX12_measureOne_86 : decode cX12_measureOne 86 = .ok (.iload 7, 2) := by decide +kernel
theorem dX12_measureOne_88 : decode cX12_measureOne 88 = .ok (.iconst 1, 1) := by decide +kernel
theorem dX12_measureOne_89 : decode cX12_measureOne 89 = .ok (.iadd, 1) := by decide +kernel
theorem dX12_measureOne_90 : decode cX12_measureOne 90 = .ok (.imul, 1) := by decide +kernel
theorem dX12_measureOne_91 : decode cX12_measureOne 91 = .ok (.iload 8, 2) := by decide +kernel
theorem dX12_measureOne_93 : decode cX12_measureOne 93 = .ok (.iadd, 1) := by decide +kernel
theorem dX12_measureOne_94 : decode cX12_measureOne 94 = .ok (.iaload, 1) := by decide +kernel
theorem dX12_measureOne_95 : decode cX12_measureOne 95 = .ok (.iconst 3, 1) := by decide +kernel
theorem dX12_measureOne_96 : decode cX12_measureOne 96 = .ok (.iadd, 1) := by decide +kernel
theorem dX12_measureOne_97 : decode cX12_measureOne 97 = .ok (.istore 10, 2) := by decide +kernel
theorem dX12_measureOne_99 : decode cX12_measureOne 99 = .ok (.aload_n 0, 1) := by decide +kernel
theorem dX12_measureOne_100 : decode cX12_measureOne 100 = .ok (.getfield 62, 3) := by decide +kernel
theorem dX12_measureOne_103 : decode cX12_measureOne 103 = .ok (.bipush 61, 2) := by decide +kernel
theorem dX12_measureOne_105 : decode cX12_measureOne 105 = .ok (.iload 7, 2) := by decide +kernel
theorem dX12_measureOne_107 : decode cX12_measureOne 107 = .ok (.imul, 1) := by decide +kernel
theorem dX12_measureOne_108 : decode cX12_measureOne 108 = .ok (.iload 8, 2) := by decide +kernel
theorem dX12_measureOne_110 : decode cX12_measureOne 110 = .ok (.iadd, 1) := by decide +kernel
theorem dX12_measureOne_111 : decode cX12_measureOne 111 = .ok (.iconst 1, 1) := by decide +kernel
theorem dX12_measureOne_112 : decode cX12_measureOne 112 = .ok (.iadd, 1) := by decide +kernel
theorem dX12_measureOne_113 : decode cX12_measureOne 113 = .ok (.iaload, 1) := by decide +kernel
theorem dX12_measureOne_114 : decode cX12_measureOne 114 = .ok (.iconst 3, 1) := by decide +kernel
theorem dX12_measureOne_115 : decode cX12_measureOne 115 = .ok (.iadd, 1) := by decide +kernel
theorem dX12_measureOne_116 : decode cX12_measureOne 116 = .ok (.istore 11, 2) := by decide +kernel
theorem dX12_measureOne_118 : decode cX12_measureOne 118 = .ok (.iload 7, 2) := by decide +kernel
theorem dX12_measureOne_120 : decode cX12_measureOne 120 = .ok (.iload_n 3, 1) := by decide +kernel
theorem dX12_measureOne_121 : decode cX12_measureOne 121 = .ok (.if_icmp .ne 46, 3) := by decide +kernel
theorem dX12_measureOne_124 : decode cX12_measureOne 124 = .ok (.iload 8, 2) := by decide +kernel
theorem dX12_measureOne_126 : decode cX12_measureOne 126 = .ok (.iload 4, 2) := by decide +kernel
theorem dX12_measureOne_128 : decode cX12_measureOne 128 = .ok (.if_icmp .ne 39, 3) := by decide +kernel
theorem dX12_measureOne_131 : decode cX12_measureOne 131 = .ok (.aload_n 0, 1) := by decide +kernel
theorem dX12_measureOne_132 : decode cX12_measureOne 132 = .ok (.iload_n 1, 1) := by decide +kernel
theorem dX12_measureOne_133 : decode cX12_measureOne 133 = .ok (.iload_n 3, 1) := by decide +kernel
theorem dX12_measureOne_134 : decode cX12_measureOne 134 = .ok (.invokestatic 151, 3) := by decide +kernel
theorem dX12_measureOne_137 : decode cX12_measureOne 137 = .ok (.iload_n 2, 1) := by decide +kernel
theorem dX12_measureOne_138 : decode cX12_measureOne 138 = .ok (.iload 4, 2) := by decide +kernel
theorem dX12_measureOne_140 : decode cX12_measureOne 140 = .ok (.invokestatic 151, 3) := by decide +kernel
theorem dX12_measureOne_143 : decode cX12_measureOne 143 = .ok (.invokevirtual 211, 3) := by decide +kernel
theorem dX12_measureOne_146 : decode cX12_measureOne 146 = .ok (.aload_n 0, 1) := by decide +kernel
theorem dX12_measureOne_147 : decode cX12_measureOne 147 = .ok (.getfield 62, 3) := by decide +kernel
theorem dX12_measureOne_150 : decode cX12_measureOne 150 = .ok (.bipush 61, 2) := by decide +kernel
theorem dX12_measureOne_152 : decode cX12_measureOne 152 = .ok (.iload 7, 2) := by decide +kernel
theorem dX12_measureOne_154 : decode cX12_measureOne 154 = .ok (.iconst 1, 1) := by decide +kernel
theorem dX12_measureOne_155 : decode cX12_measureOne 155 = .ok (.iadd, 1) := by decide +kernel
theorem dX12_measureOne_156 : decode cX12_measureOne 156 = .ok (.imul, 1) := by decide +kernel
theorem dX12_measureOne_157 : decode cX12_measureOne 157 = .ok (.iload 8, 2) := by decide +kernel
theorem dX12_measureOne_159 : decode cX12_measureOne 159 = .ok (.iadd, 1) := by decide +kernel
theorem dX12_measureOne_160 : decode cX12_measureOne 160 = .ok (.iconst 1, 1) := by decide +kernel
theorem dX12_measureOne_161 : decode cX12_measureOne 161 = .ok (.iadd, 1) := by decide +kernel
theorem dX12_measureOne_162 : decode cX12_measureOne 162 = .ok (.iaload, 1) := by decide +kernel
theorem dX12_measureOne_163 : decode cX12_measureOne 163 = .ok (.iadd, 1) := by decide +kernel
theorem dX12_measureOne_164 : decode cX12_measureOne 164 = .ok (.goto 54, 3) := by decide +kernel
theorem dX12_measureOne_167 : decode cX12_measureOne 167 = .ok (.aload_n 0, 1) := by decide +kernel
theorem dX12_measureOne_168 : decode cX12_measureOne 168 = .ok (.getfield 59, 3) := by decide +kernel
theorem dX12_measureOne_171 : decode cX12_measureOne 171 = .ok (.bipush 60, 2) := by decide +kernel
theorem dX12_measureOne_173 : decode cX12_measureOne 173 = .ok (.iload 7, 2) := by decide +kernel
theorem dX12_measureOne_175 : decode cX12_measureOne 175 = .ok (.imul, 1) := by decide +kernel
theorem dX12_measureOne_176 : decode cX12_measureOne 176 = .ok (.iload 8, 2) := by decide +kernel
theorem dX12_measureOne_178 : decode cX12_measureOne 178 = .ok (.iadd, 1) := by decide +kernel
theorem dX12_measureOne_179 : decode cX12_measureOne 179 = .ok (.iaload, 1) := by decide +kernel
theorem dX12_measureOne_180 : decode cX12_measureOne 180 = .ok (.aload_n 0, 1) := by decide +kernel
theorem dX12_measureOne_181 : decode cX12_measureOne 181 = .ok (.getfield 62, 3) := by decide +kernel
theorem dX12_measureOne_184 : decode cX12_measureOne 184 = .ok (.bipush 61, 2) := by decide +kernel
theorem dX12_measureOne_186 : decode cX12_measureOne 186 = .ok (.iload 7, 2) := by decide +kernel
theorem dX12_measureOne_188 : decode cX12_measureOne 188 = .ok (.aload_n 0, 1) := by decide +kernel
theorem dX12_measureOne_189 : decode cX12_measureOne 189 = .ok (.getfield 27, 3) := by decide +kernel
theorem dX12_measureOne_192 : decode cX12_measureOne 192 = .ok (.iload_n 1, 1) := by decide +kernel
theorem dX12_measureOne_193 : decode cX12_measureOne 193 = .ok (.iload 7, 2) := by decide +kernel
theorem dX12_measureOne_195 : decode cX12_measureOne 195 = .ok (.invokestatic 151, 3) := by decide +kernel
theorem dX12_measureOne_198 : decode cX12_measureOne 198 = .ok (.iaload, 1) := by decide +kernel
theorem dX12_measureOne_199 : decode cX12_measureOne 199 = .ok (.iadd, 1) := by decide +kernel
theorem dX12_measureOne_200 : decode cX12_measureOne 200 = .ok (.imul, 1) := by decide +kernel
theorem dX12_measureOne_201 : decode cX12_measureOne 201 = .ok (.iload 8, 2) := by decide +kernel
theorem dX12_measureOne_203 : decode cX12_measureOne 203 = .ok (.iadd, 1) := by decide +kernel
theorem dX12_measureOne_204 : decode cX12_measureOne 204 = .ok (.aload_n 0, 1) := by decide +kernel
theorem dX12_measureOne_205 : decode cX12_measureOne 205 = .ok (.getfield 27, 3) := by decide +kernel
theorem dX12_measureOne_208 : decode cX12_measureOne 208 = .ok (.iload_n 2, 1) := by decide +kernel
theorem dX12_measureOne_209 : decode cX12_measureOne 209 = .ok (.iload 8, 2) := by decide +kernel
theorem dX12_measureOne_211 : decode cX12_measureOne 211 = .ok (.invokestatic 151, 3) := by decide +kernel
theorem dX12_measureOne_214 : decode cX12_measureOne 214 = .ok (.iaload, 1) := by decide +kernel
theorem dX12_measureOne_215 : decode cX12_measureOne 215 = .ok (.iadd, 1) := by decide +kernel
theorem dX12_measureOne_216 : decode cX12_measureOne 216 = .ok (.iaload, 1) := by decide +kernel
theorem dX12_measureOne_217 : decode cX12_measureOne 217 = .ok (.iadd, 1) := by decide +kernel
theorem dX12_measureOne_218 : decode cX12_measureOne 218 = .ok (.istore 12, 2) := by decide +kernel
theorem dX12_measureOne_220 : decode cX12_measureOne 220 = .ok (.iload 10, 2) := by decide +kernel
theorem dX12_measureOne_222 : decode cX12_measureOne 222 = .ok (.iload 11, 2) := by decide +kernel
theorem dX12_measureOne_224 : decode cX12_measureOne 224 = .ok (.if_icmp .ge 8, 3) := by decide +kernel
theorem dX12_measureOne_227 : decode cX12_measureOne 227 = .ok (.iload 10, 2) := by decide +kernel
theorem dX12_measureOne_229 : decode cX12_measureOne 229 = .ok (.goto 5, 3) := by decide +kernel
theorem dX12_measureOne_232 : decode cX12_measureOne 232 = .ok (.iload 11, 2) := by decide +kernel
theorem dX12_measureOne_234 : decode cX12_measureOne 234 = .ok (.istore 9, 2) := by decide +kernel
theorem dX12_measureOne_236 : decode cX12_measureOne 236 = .ok (.iload 12, 2) := by decide +kernel
theorem dX12_measureOne_238 : decode cX12_measureOne 238 = .ok (.iload 9, 2) := by decide +kernel
theorem dX12_measureOne_240 : decode cX12_measureOne 240 = .ok (.if_icmp .ge 8, 3) := by decide +kernel
theorem dX12_measureOne_243 : decode cX12_measureOne 243 = .ok (.iload 12, 2) := by decide +kernel
theorem dX12_measureOne_245 : decode cX12_measureOne 245 = .ok (.goto 5, 3) := by decide +kernel
theorem dX12_measureOne_248 : decode cX12_measureOne 248 = .ok (.iload 9, 2) := by decide +kernel
theorem dX12_measureOne_250 : decode cX12_measureOne 250 = .ok (.istore 9, 2) := by decide +kernel
theorem dX12_measureOne_252 : decode cX12_measureOne 252 = .ok (.aload_n 0, 1) := by decide +kernel
theorem dX12_measureOne_253 : decode cX12_measureOne 253 = .ok (.getfield 62, 3) := by decide +kernel
theorem dX12_measureOne_256 : decode cX12_measureOne 256 = .ok (.bipush 61, 2) := by decide +kernel
theorem dX12_measureOne_258 : decode cX12_measureOne 258 = .ok (.iload 7, 2) := by decide +kernel
theorem dX12_measureOne_260 : decode cX12_measureOne 260 = .ok (.imul, 1) := by decide +kernel
theorem dX12_measureOne_261 : decode cX12_measureOne 261 = .ok (.iload 8, 2) := by decide +kernel
theorem dX12_measureOne_263 : decode cX12_measureOne 263 = .ok (.iadd, 1) := by decide +kernel
theorem dX12_measureOne_264 : decode cX12_measureOne 264 = .ok (.iload 9, 2) := by decide +kernel
theorem dX12_measureOne_266 : decode cX12_measureOne 266 = .ok (.iastore, 1) := by decide +kernel
theorem dX12_measureOne_267 : decode cX12_measureOne 267 = .ok (.iinc 8 (-1), 3) := by decide +kernel
theorem dX12_measureOne_270 : decode cX12_measureOne 270 = .ok (.goto (-226), 3) := by decide +kernel
theorem dX12_measureOne_273 : decode cX12_measureOne 273 = .ok (.iinc 7 (-1), 3) := by decide +kernel
theorem dX12_measureOne_276 : decode cX12_measureOne 276 = .ok (.goto (-242), 3) := by decide +kernel
theorem dX12_measureOne_279 : decode cX12_measureOne 279 = .ok (.aload_n 0, 1) := by decide +kernel
theorem dX12_measureOne_280 : decode cX12_measureOne 280 = .ok (.getfield 62, 3) := by decide +kernel
theorem dX12_measureOne_283 : decode cX12_measureOne 283 = .ok (.bipush 61, 2) := by decide +kernel
theorem dX12_measureOne_285 : decode cX12_measureOne 285 = .ok (.iload_n 3, 1) := by decide +kernel
theorem dX12_measureOne_286 : decode cX12_measureOne 286 = .ok (.imul, 1) := by decide +kernel
theorem dX12_measureOne_287 : decode cX12_measureOne 287 = .ok (.iload 4, 2) := by decide +kernel
theorem dX12_measureOne_289 : decode cX12_measureOne 289 = .ok (.iadd, 1) := by decide +kernel
theorem dX12_measureOne_290 : decode cX12_measureOne 290 = .ok (.iaload, 1) := by decide +kernel
theorem dX12_measureOne_291 : decode cX12_measureOne 291 = .ok (.ireturn, 1) := by decide +kernel
theorem dX12_far_0 : decode cX12_far 0 = .ok (.aload_n 0, 1) := by decide +kernel
theorem dX12_far_1 : decode cX12_far 1 = .ok (.iload_n 1, 1) := by decide +kernel
theorem dX12_far_2 : decode cX12_far 2 = .ok (.iload_n 2, 1) := by decide +kernel
theorem dX12_far_3 : decode cX12_far 3 = .ok (.invokevirtual 185, 3) := by decide +kernel
theorem dX12_far_6 : decode cX12_far 6 = .ok (.ifCond .eq 13, 3) := by decide +kernel
theorem dX12_far_9 : decode cX12_far 9 = .ok (.aload_n 0, 1) := by decide +kernel
theorem dX12_far_10 : decode cX12_far 10 = .ok (.iload_n 3, 1) := by decide +kernel
theorem dX12_far_11 : decode cX12_far 11 = .ok (.iload 4, 2) := by decide +kernel
theorem dX12_far_13 : decode cX12_far 13 = .ok (.invokevirtual 185, 3) := by decide +kernel
theorem dX12_far_16 : decode cX12_far 16 = .ok (.ifCond .ne 5, 3) := by decide +kernel
theorem dX12_far_19 : decode cX12_far 19 = .ok (.iconst (-1), 1) := by decide +kernel
theorem dX12_far_20 : decode cX12_far 20 = .ok (.ireturn, 1) := by decide +kernel
theorem dX12_far_21 : decode cX12_far 21 = .ok (.aload_n 0, 1) := by decide +kernel
theorem dX12_far_22 : decode cX12_far 22 = .ok (.iload_n 1, 1) := by decide +kernel
theorem dX12_far_23 : decode cX12_far 23 = .ok (.iload_n 3, 1) := by decide +kernel
theorem dX12_far_24 : decode cX12_far 24 = .ok (.invokevirtual 214, 3) := by decide +kernel
theorem dX12_far_27 : decode cX12_far 27 = .ok (.aload_n 0, 1) := by decide +kernel
theorem dX12_far_28 : decode cX12_far 28 = .ok (.getfield 59, 3) := by decide +kernel
theorem dX12_far_31 : decode cX12_far 31 = .ok (.bipush 60, 2) := by decide +kernel
theorem dX12_far_33 : decode cX12_far 33 = .ok (.iload_n 2, 1) := by decide +kernel
theorem dX12_far_34 : decode cX12_far 34 = .ok (.imul, 1) := by decide +kernel
theorem dX12_far_35 : decode cX12_far 35 = .ok (.iload 4, 2) := by decide +kernel
theorem dX12_far_37 : decode cX12_far 37 = .ok (.iadd, 1) := by decide +kernel
theorem dX12_far_38 : decode cX12_far 38 = .ok (.iaload, 1) := by decide +kernel
theorem dX12_far_39 : decode cX12_far 39 = .ok (.ireturn, 1) := by decide +kernel
theorem dX12_beside_0 : decode cX12_beside 0 = .ok (.iload_n 2, 1) := by decide +kernel
theorem dX12_beside_1 : decode cX12_beside 1 = .ok (.ifCond .ge 12, 3) := by decide +kernel
theorem dX12_beside_4 : decode cX12_beside 4 = .ok (.iload 4, 2) := by decide +kernel
theorem dX12_beside_6 : decode cX12_beside 6 = .ok (.ifCond .ge 7, 3) := by decide +kernel
theorem dX12_beside_9 : decode cX12_beside 9 = .ok (.iconst 0, 1) := by decide +kernel
theorem dX12_beside_10 : decode cX12_beside 10 = .ok (.goto 31, 3) := by decide +kernel
theorem dX12_beside_13 : decode cX12_beside 13 = .ok (.iload_n 2, 1) := by decide +kernel
theorem dX12_beside_14 : decode cX12_beside 14 = .ok (.ifCond .lt 8, 3) := by decide +kernel
theorem dX12_beside_17 : decode cX12_beside 17 = .ok (.iload 4, 2) := by decide +kernel
theorem dX12_beside_19 : decode cX12_beside 19 = .ok (.ifCond .ge 7, 3) := by decide +kernel
theorem dX12_beside_22 : decode cX12_beside 22 = .ok (.iconst 3, 1) := by decide +kernel
theorem dX12_beside_23 : decode cX12_beside 23 = .ok (.goto 18, 3) := by decide +kernel
theorem dX12_beside_26 : decode cX12_beside 26 = .ok (.aload_n 0, 1) := by decide +kernel
theorem dX12_beside_27 : decode cX12_beside 27 = .ok (.iload_n 1, 1) := by decide +kernel
theorem dX12_beside_28 : decode cX12_beside 28 = .ok (.iload_n 2, 1) := by decide +kernel
theorem dX12_beside_29 : decode cX12_beside 29 = .ok (.invokestatic 151, 3) := by decide +kernel
theorem dX12_beside_32 : decode cX12_beside 32 = .ok (.iload_n 3, 1) := by decide +kernel
theorem dX12_beside_33 : decode cX12_beside 33 = .ok (.iload 4, 2) := by decide +kernel
theorem dX12_beside_35 : decode cX12_beside 35 = .ok (.invokestatic 151, 3) := by decide +kernel
theorem dX12_beside_38 : decode cX12_beside 38 = .ok (.invokevirtual 211, 3) := by decide +kernel
theorem dX12_beside_41 : decode cX12_beside 41 = .ok (.ireturn, 1) := by decide +kernel
theorem dX12_costOf_0 : decode cX12_costOf 0 = .ok (.iconst 3, 1) := by decide +kernel
theorem dX12_costOf_1 : decode cX12_costOf 1 = .ok (.aload_n 0, 1) := by decide +kernel
theorem dX12_costOf_2 : decode cX12_costOf 2 = .ok (.getfield 59, 3) := by decide +kernel
theorem dX12_costOf_5 : decode cX12_costOf 5 = .ok (.bipush 60, 2) := by decide +kernel
theorem dX12_costOf_7 : decode cX12_costOf 7 = .ok (.iload_n 2, 1) := by decide +kernel
theorem dX12_costOf_8 : decode cX12_costOf 8 = .ok (.imul, 1) := by decide +kernel
theorem dX12_costOf_9 : decode cX12_costOf 9 = .ok (.iload 4, 2) := by decide +kernel
theorem dX12_costOf_11 : decode cX12_costOf 11 = .ok (.iadd, 1) := by decide +kernel
theorem dX12_costOf_12 : decode cX12_costOf 12 = .ok (.iaload, 1) := by decide +kernel
theorem dX12_costOf_13 : decode cX12_costOf 13 = .ok (.imul, 1) := by decide +kernel
theorem dX12_costOf_14 : decode cX12_costOf 14 = .ok (.aload_n 0, 1) := by decide +kernel
theorem dX12_costOf_15 : decode cX12_costOf 15 = .ok (.iload_n 1, 1) := by decide +kernel
theorem dX12_costOf_16 : decode cX12_costOf 16 = .ok (.aload_n 0, 1) := by decide +kernel
theorem dX12_costOf_17 : decode cX12_costOf 17 = .ok (.getfield 24, 3) := by decide +kernel
theorem dX12_costOf_20 : decode cX12_costOf 20 = .ok (.iload_n 1, 1) := by decide +kernel
theorem dX12_costOf_21 : decode cX12_costOf 21 = .ok (.iload_n 2, 1) := by decide +kernel
theorem dX12_costOf_22 : decode cX12_costOf 22 = .ok (.invokestatic 151, 3) := by decide +kernel
theorem dX12_costOf_25 : decode cX12_costOf 25 = .ok (.iaload, 1) := by decide +kernel
theorem dX12_costOf_26 : decode cX12_costOf 26 = .ok (.iload_n 3, 1) := by decide +kernel
theorem dX12_costOf_27 : decode cX12_costOf 27 = .ok (.aload_n 0, 1) := by decide +kernel
theorem dX12_costOf_28 : decode cX12_costOf 28 = .ok (.getfield 24, 3) := by decide +kernel
theorem dX12_costOf_31 : decode cX12_costOf 31 = .ok (.iload_n 3, 1) := by decide +kernel
theorem dX12_costOf_32 : decode cX12_costOf 32 = .ok (.iload 4, 2) := by decide +kernel
theorem dX12_costOf_34 : decode cX12_costOf 34 = .ok (.invokestatic 151, 3) := by decide +kernel
theorem dX12_costOf_37 : decode cX12_costOf 37 = .ok (.iaload, 1) := by decide +kernel
theorem dX12_costOf_38 : decode cX12_costOf 38 = .ok (.invokevirtual 217, 3) := by decide +kernel
theorem dX12_costOf_41 : decode cX12_costOf 41 = .ok (.iadd, 1) := by decide +kernel
theorem dX12_costOf_42 : decode cX12_costOf 42 = .ok (.aload_n 0, 1) := by decide +kernel
theorem dX12_costOf_43 : decode cX12_costOf 43 = .ok (.iload_n 1, 1) := by decide +kernel
theorem dX12_costOf_44 : decode cX12_costOf 44 = .ok (.aload_n 0, 1) := by decide +kernel
theorem dX12_costOf_45 : decode cX12_costOf 45 = .ok (.iload_n 1, 1) := by decide +kernel
theorem dX12_costOf_46 : decode cX12_costOf 46 = .ok (.iload_n 2, 1) := by decide +kernel
theorem dX12_costOf_47 : decode cX12_costOf 47 = .ok (.invokevirtual 189, 3) := by decide +kernel
theorem dX12_costOf_50 : decode cX12_costOf 50 = .ok (.iload_n 3, 1) := by decide +kernel
theorem dX12_costOf_51 : decode cX12_costOf 51 = .ok (.aload_n 0, 1) := by decide +kernel
theorem dX12_costOf_52 : decode cX12_costOf 52 = .ok (.iload_n 3, 1) := by decide +kernel
theorem dX12_costOf_53 : decode cX12_costOf 53 = .ok (.iload 4, 2) := by decide +kernel
theorem dX12_costOf_55 : decode cX12_costOf 55 = .ok (.invokevirtual 189, 3) := by decide +kernel
theorem dX12_costOf_58 : decode cX12_costOf 58 = .ok (.invokevirtual 217, 3) := by decide +kernel
theorem dX12_costOf_61 : decode cX12_costOf 61 = .ok (.iadd, 1) := by decide +kernel
theorem dX12_costOf_62 : decode cX12_costOf 62 = .ok (.aload_n 0, 1) := by decide +kernel
theorem dX12_costOf_63 : decode cX12_costOf 63 = .ok (.iload_n 1, 1) := by decide +kernel
theorem dX12_costOf_64 : decode cX12_costOf 64 = .ok (.aload_n 0, 1) := by decide +kernel
theorem dX12_costOf_65 : decode cX12_costOf 65 = .ok (.iload_n 1, 1) := by decide +kernel
theorem dX12_costOf_66 : decode cX12_costOf 66 = .ok (.iload_n 2, 1) := by decide +kernel
theorem dX12_costOf_67 : decode cX12_costOf 67 = .ok (.invokevirtual 192, 3) := by decide +kernel
theorem dX12_costOf_70 : decode cX12_costOf 70 = .ok (.iload_n 3, 1) := by decide +kernel
theorem dX12_costOf_71 : decode cX12_costOf 71 = .ok (.aload_n 0, 1) := by decide +kernel
theorem dX12_costOf_72 : decode cX12_costOf 72 = .ok (.iload_n 3, 1) := by decide +kernel
theorem dX12_costOf_73 : decode cX12_costOf 73 = .ok (.iload 4, 2) := by decide +kernel
theorem dX12_costOf_75 : decode cX12_costOf 75 = .ok (.invokevirtual 192, 3) := by decide +kernel
theorem dX12_costOf_78 : decode cX12_costOf 78 = .ok (.invokevirtual 217, 3) := by decide +kernel
theorem dX12_costOf_81 : decode cX12_costOf 81 = .ok (.iadd, 1) := by decide +kernel
theorem dX12_costOf_82 : decode cX12_costOf 82 = .ok (.ireturn, 1) := by decide +kernel
theorem dX12_cost_0 : decode cX12_cost 0 = .ok (.aload_n 0, 1) := by decide +kernel
theorem dX12_cost_1 : decode cX12_cost 1 = .ok (.iload_n 1, 1) := by decide +kernel
theorem dX12_cost_2 : decode cX12_cost 2 = .ok (.iload_n 2, 1) := by decide +kernel
theorem dX12_cost_3 : decode cX12_cost 3 = .ok (.invokevirtual 185, 3) := by decide +kernel
theorem dX12_cost_6 : decode cX12_cost 6 = .ok (.ifCond .eq 13, 3) := by decide +kernel
theorem dX12_cost_9 : decode cX12_cost 9 = .ok (.aload_n 0, 1) := by decide +kernel
theorem dX12_cost_10 : decode cX12_cost 10 = .ok (.iload_n 3, 1) := by decide +kernel
theorem dX12_cost_11 : decode cX12_cost 11 = .ok (.iload 4, 2) := by decide +kernel
theorem dX12_cost_13 : decode cX12_cost 13 = .ok (.invokevirtual 185, 3) := by decide +kernel
theorem dX12_cost_16 : decode cX12_cost 16 = .ok (.ifCond .ne 5, 3) := by decide +kernel
theorem dX12_cost_19 : decode cX12_cost 19 = .ok (.iconst (-1), 1) := by decide +kernel
theorem dX12_cost_20 : decode cX12_cost 20 = .ok (.ireturn, 1) := by decide +kernel
theorem dX12_cost_21 : decode cX12_cost 21 = .ok (.aload_n 0, 1) := by decide +kernel
theorem dX12_cost_22 : decode cX12_cost 22 = .ok (.iload_n 1, 1) := by decide +kernel
theorem dX12_cost_23 : decode cX12_cost 23 = .ok (.iload_n 3, 1) := by decide +kernel
theorem dX12_cost_24 : decode cX12_cost 24 = .ok (.invokevirtual 214, 3) := by decide +kernel
theorem dX12_cost_27 : decode cX12_cost 27 = .ok (.aload_n 0, 1) := by decide +kernel
theorem dX12_cost_28 : decode cX12_cost 28 = .ok (.iload_n 1, 1) := by decide +kernel
theorem dX12_cost_29 : decode cX12_cost 29 = .ok (.iload_n 2, 1) := by decide +kernel
theorem dX12_cost_30 : decode cX12_cost 30 = .ok (.iload_n 3, 1) := by decide +kernel
theorem dX12_cost_31 : decode cX12_cost 31 = .ok (.iload 4, 2) := by decide +kernel
theorem dX12_cost_33 : decode cX12_cost 33 = .ok (.invokevirtual 220, 3) := by decide +kernel
theorem dX12_cost_36 : decode cX12_cost 36 = .ok (.ireturn, 1) := by decide +kernel
theorem dX12_gap_0 : decode cX12_gap 0 = .ok (.iload_n 1, 1) := by decide +kernel
theorem dX12_gap_1 : decode cX12_gap 1 = .ok (.ifCond .lt 9, 3) := by decide +kernel
theorem dX12_gap_4 : decode cX12_gap 4 = .ok (.iload_n 1, 1) := by decide +kernel
theorem dX12_gap_5 : decode cX12_gap 5 = .ok (.bipush 100, 2) := by decide +kernel
theorem dX12_gap_7 : decode cX12_gap 7 = .ok (.if_icmp .le 5, 3) := by decide +kernel
theorem dX12_gap_10 : decode cX12_gap 10 = .ok (.iconst 0, 1) := by decide +kernel
theorem dX12_gap_11 : decode cX12_gap 11 = .ok (.ireturn, 1) := by decide +kernel
theorem dX12_gap_12 : decode cX12_gap 12 = .ok (.aload_n 0, 1) := by decide +kernel
theorem dX12_gap_13 : decode cX12_gap 13 = .ok (.iload_n 1, 1) := by decide +kernel
theorem dX12_gap_14 : decode cX12_gap 14 = .ok (.putfield 65, 3) := by decide +kernel
theorem dX12_gap_17 : decode cX12_gap 17 = .ok (.iconst 1, 1) := by decide +kernel
theorem dX12_gap_18 : decode cX12_gap 18 = .ok (.ireturn, 1) := by decide +kernel
theorem dX12_seek_0 : decode cX12_seek 0 = .ok (.aload_n 0, 1) := by decide +kernel
theorem dX12_seek_1 : decode cX12_seek 1 = .ok (.iload_n 1, 1) := by decide +kernel
theorem dX12_seek_2 : decode cX12_seek 2 = .ok (.iload_n 3, 1) := by decide +kernel
theorem dX12_seek_3 : decode cX12_seek 3 = .ok (.invokevirtual 214, 3) := by decide +kernel
theorem dX12_seek_6 : decode cX12_seek 6 = .ok (.aload_n 0, 1) := by decide +kernel
theorem dX12_seek_7 : decode cX12_seek 7 = .ok (.iconst (-1), 1) := by decide +kernel
theorem dX12_seek_8 : decode cX12_seek 8 = .ok (.putfield 223, 3) := by decide +kernel
theorem dX12_seek_11 : decode cX12_seek 11 = .ok (.aload_n 0, 1) := by decide +kernel
theorem dX12_seek_12 : decode cX12_seek 12 = .ok (.iconst (-1), 1) := by decide +kernel
theorem dX12_seek_13 : decode cX12_seek 13 = .ok (.putfield 226, 3) := by decide +kernel
theorem dX12_seek_16 : decode cX12_seek 16 = .ok (.iconst 0, 1) := by decide +kernel
theorem dX12_seek_17 : decode cX12_seek 17 = .ok (.istore 4, 2) := by decide +kernel
theorem dX12_seek_19 : decode cX12_seek 19 = .ok (.iload 4, 2) := by decide +kernel
theorem dX12_seek_21 : decode cX12_seek 21 = .ok (.aload_n 0, 1) := by decide +kernel
theorem dX12_seek_22 : decode cX12_seek 22 = .ok (.getfield 20, 3) := by decide +kernel
theorem dX12_seek_25 : decode cX12_seek 25 = .ok (.iload_n 3, 1) := by decide +kernel
theorem dX12_seek_26 : decode cX12_seek 26 = .ok (.iaload, 1) := by decide +kernel
theorem dX12_seek_27 : decode cX12_seek 27 = .ok (.if_icmp .ge 123, 3) := by decide +kernel
theorem dX12_seek_30 : decode cX12_seek 30 = .ok (.aload_n 0, 1) := by decide +kernel
theorem dX12_seek_31 : decode cX12_seek 31 = .ok (.getfield 42, 3) := by decide +kernel
theorem dX12_seek_34 : decode cX12_seek 34 = .ok (.iload_n 3, 1) := by decide +kernel
theorem dX12_seek_35 : decode cX12_seek 35 = .ok (.iload 4, 2) := by decide +kernel
theorem dX12_seek_37 : decode cX12_seek 37 = .ok (.invokestatic 151, 3) := by decide +kernel
theorem dX12_seek_40 : decode cX12_seek 40 = .ok (.laload, 1) := by decide +kernel
theorem dX12_seek_41 : decode cX12_seek 41 = .ok (.aload_n 0, 1) := by decide +kernel
theorem dX12_seek_42 : decode cX12_seek 42 = .ok (.getfield 42, 3) := by decide +kernel
theorem dX12_seek_45 : decode cX12_seek 45 = .ok (.iload_n 1, 1) := by decide +kernel
theorem dX12_seek_46 : decode cX12_seek 46 = .ok (.iload_n 2, 1) := by decide +kernel
theorem dX12_seek_47 : decode cX12_seek 47 = .ok (.invokestatic 151, 3) := by decide +kernel
theorem dX12_seek_50 : decode cX12_seek 50 = .ok (.laload, 1) := by decide +kernel
theorem dX12_seek_51 : decode cX12_seek 51 = .ok (.lcmp, 1) := by decide +kernel
theorem dX12_seek_52 : decode cX12_seek 52 = .ok (.ifCond .eq 6, 3) := by decide +kernel
theorem dX12_seek_55 : decode cX12_seek 55 = .ok (.goto 89, 3) := by decide +kernel
theorem dX12_seek_58 : decode cX12_seek 58 = .ok (.aload_n 0, 1) := by decide +kernel
theorem dX12_seek_59 : decode cX12_seek 59 = .ok (.iload_n 1, 1) := by decide +kernel
theorem dX12_seek_60 : decode cX12_seek 60 = .ok (.iload_n 2, 1) := by decide +kernel
theorem dX12_seek_61 : decode cX12_seek 61 = .ok (.iload_n 3, 1) := by decide +kernel
theorem dX12_seek_62 : decode cX12_seek 62 = .ok (.iload 4, 2) := by decide +kernel
theorem dX12_seek_64 : decode cX12_seek 64 = .ok (.invokevirtual 220, 3) := by decide +kernel
theorem dX12_seek_67 : decode cX12_seek 67 = .ok (.istore 5, 2) := by decide +kernel
theorem dX12_seek_69 : decode cX12_seek 69 = .ok (.aload_n 0, 1) := by decide +kernel
theorem dX12_seek_70 : decode cX12_seek 70 = .ok (.getfield 223, 3) := by decide +kernel
theorem dX12_seek_73 : decode cX12_seek 73 = .ok (.ifCond .lt 12, 3) := by decide +kernel
theorem dX12_seek_76 : decode cX12_seek 76 = .ok (.iload 5, 2) := by decide +kernel
theorem dX12_seek_78 : decode cX12_seek 78 = .ok (.aload_n 0, 1) := by decide +kernel
theorem dX12_seek_79 : decode cX12_seek 79 = .ok (.getfield 229, 3) := by decide +kernel
theorem dX12_seek_82 : decode cX12_seek 82 = .ok (.if_icmp .ge 34, 3) := by decide +kernel
theorem dX12_seek_85 : decode cX12_seek 85 = .ok (.aload_n 0, 1) := by decide +kernel
theorem dX12_seek_86 : decode cX12_seek 86 = .ok (.aload_n 0, 1) := by decide +kernel
theorem dX12_seek_87 : decode cX12_seek 87 = .ok (.getfield 223, 3) := by decide +kernel
theorem dX12_seek_90 : decode cX12_seek 90 = .ok (.putfield 226, 3) := by decide +kernel
theorem dX12_seek_93 : decode cX12_seek 93 = .ok (.aload_n 0, 1) := by decide +kernel
theorem dX12_seek_94 : decode cX12_seek 94 = .ok (.aload_n 0, 1) := by decide +kernel
theorem dX12_seek_95 : decode cX12_seek 95 = .ok (.getfield 229, 3) := by decide +kernel
theorem dX12_seek_98 : decode cX12_seek 98 = .ok (.putfield 232, 3) := by decide +kernel
theorem dX12_seek_101 : decode cX12_seek 101 = .ok (.aload_n 0, 1) := by decide +kernel
theorem dX12_seek_102 : decode cX12_seek 102 = .ok (.iload 4, 2) := by decide +kernel
theorem dX12_seek_104 : decode cX12_seek 104 = .ok (.putfield 223, 3) := by decide +kernel
theorem dX12_seek_107 : decode cX12_seek 107 = .ok (.aload_n 0, 1) := by decide +kernel
theorem dX12_seek_108 : decode cX12_seek 108 = .ok (.iload 5, 2) := by decide +kernel
theorem dX12_seek_110 : decode cX12_seek 110 = .ok (.putfield 229, 3) := by decide +kernel
theorem dX12_seek_113 : decode cX12_seek 113 = .ok (.goto 31, 3) := by decide +kernel
theorem dX12_seek_116 : decode cX12_seek 116 = .ok (.aload_n 0, 1) := by decide +kernel
theorem dX12_seek_117 : decode cX12_seek 117 = .ok (.getfield 226, 3) := by decide +kernel
theorem dX12_seek_120 : decode cX12_seek 120 = .ok (.ifCond .lt 12, 3) := by decide +kernel
theorem dX12_seek_123 : decode cX12_seek 123 = .ok (.iload 5, 2) := by decide +kernel
theorem dX12_seek_125 : decode cX12_seek 125 = .ok (.aload_n 0, 1) := by decide +kernel
theorem dX12_seek_126 : decode cX12_seek 126 = .ok (.getfield 232, 3) := by decide +kernel
theorem dX12_seek_129 : decode cX12_seek 129 = .ok (.if_icmp .ge 15, 3) := by decide +kernel
theorem dX12_seek_132 : decode cX12_seek 132 = .ok (.aload_n 0, 1) := by decide +kernel
theorem dX12_seek_133 : decode cX12_seek 133 = .ok (.iload 4, 2) := by decide +kernel
theorem dX12_seek_135 : decode cX12_seek 135 = .ok (.putfield 226, 3) := by decide +kernel
theorem dX12_seek_138 : decode cX12_seek 138 = .ok (.aload_n 0, 1) := by decide +kernel
theorem dX12_seek_139 : decode cX12_seek 139 = .ok (.iload 5, 2) := by decide +kernel
theorem dX12_seek_141 : decode cX12_seek 141 = .ok (.putfield 232, 3) := by decide +kernel
theorem dX12_seek_144 : decode cX12_seek 144 = .ok (.iinc 4 1, 3) := by decide +kernel
theorem dX12_seek_147 : decode cX12_seek 147 = .ok (.goto (-128), 3) := by decide +kernel
theorem dX12_seek_150 : decode cX12_seek 150 = .ok (.aload_n 0, 1) := by decide +kernel
theorem dX12_seek_151 : decode cX12_seek 151 = .ok (.getfield 223, 3) := by decide +kernel
theorem dX12_seek_154 : decode cX12_seek 154 = .ok (.ifCond .ge 6, 3) := by decide +kernel
theorem dX12_seek_157 : decode cX12_seek 157 = .ok (.bipush (-2), 2) := by decide +kernel
theorem dX12_seek_159 : decode cX12_seek 159 = .ok (.ireturn, 1) := by decide +kernel
theorem dX12_seek_160 : decode cX12_seek 160 = .ok (.aload_n 0, 1) := by decide +kernel
theorem dX12_seek_161 : decode cX12_seek 161 = .ok (.getfield 226, 3) := by decide +kernel
theorem dX12_seek_164 : decode cX12_seek 164 = .ok (.ifCond .lt 19, 3) := by decide +kernel
theorem dX12_seek_167 : decode cX12_seek 167 = .ok (.aload_n 0, 1) := by decide +kernel
theorem dX12_seek_168 : decode cX12_seek 168 = .ok (.getfield 232, 3) := by decide +kernel
theorem dX12_seek_171 : decode cX12_seek 171 = .ok (.aload_n 0, 1) := by decide +kernel
theorem dX12_seek_172 : decode cX12_seek 172 = .ok (.getfield 229, 3) := by decide +kernel
theorem dX12_seek_175 : decode cX12_seek 175 = .ok (.isub, 1) := by decide +kernel
theorem dX12_seek_176 : decode cX12_seek 176 = .ok (.aload_n 0, 1) := by decide +kernel
theorem dX12_seek_177 : decode cX12_seek 177 = .ok (.getfield 65, 3) := by decide +kernel
theorem dX12_seek_180 : decode cX12_seek 180 = .ok (.if_icmp .lt 7, 3) := by decide +kernel
theorem dX12_seek_183 : decode cX12_seek 183 = .ok (.iconst 1, 1) := by decide +kernel
theorem dX12_seek_184 : decode cX12_seek 184 = .ok (.goto 4, 3) := by decide +kernel
theorem dX12_seek_187 : decode cX12_seek 187 = .ok (.iconst 0, 1) := by decide +kernel
theorem dX12_seek_188 : decode cX12_seek 188 = .ok (.ireturn, 1) := by decide +kernel
theorem dX12_find_0 : decode cX12_find 0 = .ok (.aload_n 0, 1) := by decide +kernel
theorem dX12_find_1 : decode cX12_find 1 = .ok (.iload_n 1, 1) := by decide +kernel
theorem dX12_find_2 : decode cX12_find 2 = .ok (.iload_n 2, 1) := by decide +kernel
theorem dX12_find_3 : decode cX12_find 3 = .ok (.invokevirtual 185, 3) := by decide +kernel
theorem dX12_find_6 : decode cX12_find 6 = .ok (.ifCond .eq 11, 3) := by decide +kernel
theorem dX12_find_9 : decode cX12_find 9 = .ok (.aload_n 0, 1) := by decide +kernel
theorem dX12_find_10 : decode cX12_find 10 = .ok (.iload_n 3, 1) := by decide +kernel
theorem dX12_find_11 : decode cX12_find 11 = .ok (.invokevirtual 235, 3) := by decide +kernel
theorem dX12_find_14 : decode cX12_find 14 = .ok (.ifCond .ne 5, 3) := by decide +kernel
theorem dX12_find_17 : decode cX12_find 17 = .ok (.iconst (-1), 1) := by decide +kernel
theorem dX12_find_18 : decode cX12_find 18 = .ok (.ireturn, 1) := by decide +kernel
theorem dX12_find_19 : decode cX12_find 19 = .ok (.aload_n 0, 1) := by decide +kernel
theorem dX12_find_20 : decode cX12_find 20 = .ok (.iload_n 1, 1) := by decide +kernel
theorem dX12_find_21 : decode cX12_find 21 = .ok (.iload_n 2, 1) := by decide +kernel
theorem dX12_find_22 : decode cX12_find 22 = .ok (.iload_n 3, 1) := by decide +kernel
theorem dX12_find_23 : decode cX12_find 23 = .ok (.invokevirtual 238, 3) := by decide +kernel
theorem dX12_find_26 : decode cX12_find 26 = .ok (.istore 4, 2) := by decide +kernel
theorem dX12_find_28 : decode cX12_find 28 = .ok (.iload 4, 2) := by decide +kernel
theorem dX12_find_30 : decode cX12_find 30 = .ok (.ifCond .ge 6, 3) := by decide +kernel
theorem dX12_find_33 : decode cX12_find 33 = .ok (.iload 4, 2) := by decide +kernel
theorem dX12_find_35 : decode cX12_find 35 = .ok (.ireturn, 1) := by decide +kernel
theorem dX12_find_36 : decode cX12_find 36 = .ok (.aload_n 0, 1) := by decide +kernel
theorem dX12_find_37 : decode cX12_find 37 = .ok (.iconst 1, 1) := by decide +kernel
theorem dX12_find_38 : decode cX12_find 38 = .ok (.putfield 242, 3) := by decide +kernel
theorem dX12_find_41 : decode cX12_find 41 = .ok (.aload_n 0, 1) := by decide +kernel
theorem dX12_find_42 : decode cX12_find 42 = .ok (.aload_n 0, 1) := by decide +kernel
theorem dX12_find_43 : decode cX12_find 43 = .ok (.getfield 223, 3) := by decide +kernel
theorem dX12_find_46 : decode cX12_find 46 = .ok (.putfield 246, 3) := by decide +kernel
theorem dX12_find_49 : decode cX12_find 49 = .ok (.aload_n 0, 1) := by decide +kernel
theorem dX12_find_50 : decode cX12_find 50 = .ok (.aload_n 0, 1) := by decide +kernel
theorem dX12_find_51 : decode cX12_find 51 = .ok (.getfield 226, 3) := by decide +kernel
theorem dX12_find_54 : decode cX12_find 54 = .ok (.putfield 249, 3) := by decide +kernel
theorem dX12_find_57 : decode cX12_find 57 = .ok (.aload_n 0, 1) := by decide +kernel
theorem dX12_find_58 : decode cX12_find 58 = .ok (.aload_n 0, 1) := by decide +kernel
theorem dX12_find_59 : decode cX12_find 59 = .ok (.getfield 229, 3) := by decide +kernel
theorem dX12_find_62 : decode cX12_find 62 = .ok (.putfield 252, 3) := by decide +kernel
theorem dX12_find_65 : decode cX12_find 65 = .ok (.aload_n 0, 1) := by decide +kernel
theorem dX12_find_66 : decode cX12_find 66 = .ok (.aload_n 0, 1) := by decide +kernel
theorem dX12_find_67 : decode cX12_find 67 = .ok (.getfield 226, 3) := by decide +kernel
theorem dX12_find_70 : decode cX12_find 70 = .ok (.ifCond .ge 7, 3) := by decide +kernel
theorem dX12_find_73 : decode cX12_find 73 = .ok (.iconst (-1), 1) := by decide +kernel
theorem dX12_find_74 : decode cX12_find 74 = .ok (.goto 7, 3) := by decide +kernel
theorem dX12_find_77 : decode cX12_find 77 = .ok (.aload_n 0, 1) := by decide +kernel
theorem dX12_find_78 : decode cX12_find 78 = .ok (.getfield 232, 3) := by decide +kernel
theorem dX12_find_81 : decode cX12_find 81 = .ok (.putfield 255, 3) := by decide +kernel
theorem dX12_find_84 : decode cX12_find 84 = .ok (.iload 4, 2) := by decide +kernel
theorem dX12_find_86 : decode cX12_find 86 = .ok (.ireturn, 1) := by decide +kernel
theorem dX12_found_0 : decode cX12_found 0 = .ok (.aload_n 0, 1) := by decide +kernel
theorem dX12_found_1 : decode cX12_found 1 = .ok (.getfield 242, 3) := by decide +kernel
theorem dX12_found_4 : decode cX12_found 4 = .ok (.ifCond .ne 7, 3) := by decide +kernel
theorem dX12_found_7 : decode cX12_found 7 = .ok (.iconst (-1), 1) := by decide +kernel
theorem dX12_found_8 : decode cX12_found 8 = .ok (.goto 51, 3) := by decide +kernel
theorem dX12_found_11 : decode cX12_found 11 = .ok (.iload_n 1, 1) := by decide +kernel
theorem dX12_found_12 : decode cX12_found 12 = .ok (.ifCond .ne 10, 3) := by decide +kernel
theorem dX12_found_15 : decode cX12_found 15 = .ok (.aload_n 0, 1) := by decide +kernel
theorem dX12_found_16 : decode cX12_found 16 = .ok (.getfield 246, 3) := by decide +kernel
theorem dX12_found_19 : decode cX12_found 19 = .ok (.goto 40, 3) := by decide +kernel
theorem dX12_found_22 : decode cX12_found 22 = .ok (.iload_n 1, 1) := by decide +kernel
theorem dX12_found_23 : decode cX12_found 23 = .ok (.iconst 1, 1) := by decide +kernel
theorem dX12_found_24 : decode cX12_found 24 = .ok (.if_icmp .ne 10, 3) := by decide +kernel
theorem dX12_found_27 : decode cX12_found 27 = .ok (.aload_n 0, 1) := by decide +kernel
theorem dX12_found_28 : decode cX12_found 28 = .ok (.getfield 249, 3) := by decide +kernel
theorem dX12_found_31 : decode cX12_found 31 = .ok (.goto 28, 3) := by decide +kernel
theorem dX12_found_34 : decode cX12_found 34 = .ok (.iload_n 1, 1) := by decide +kernel
theorem dX12_found_35 : decode cX12_found 35 = .ok (.iconst 2, 1) := by decide +kernel
theorem dX12_found_36 : decode cX12_found 36 = .ok (.if_icmp .ne 10, 3) := by decide +kernel
theorem dX12_found_39 : decode cX12_found 39 = .ok (.aload_n 0, 1) := by decide +kernel
theorem dX12_found_40 : decode cX12_found 40 = .ok (.getfield 252, 3) := by decide +kernel
theorem dX12_found_43 : decode cX12_found 43 = .ok (.goto 16, 3) := by decide +kernel
theorem dX12_found_46 : decode cX12_found 46 = .ok (.iload_n 1, 1) := by decide +kernel
theorem dX12_found_47 : decode cX12_found 47 = .ok (.iconst 3, 1) := by decide +kernel
theorem dX12_found_48 : decode cX12_found 48 = .ok (.if_icmp .ne 10, 3) := by decide +kernel
theorem dX12_found_51 : decode cX12_found 51 = .ok (.aload_n 0, 1) := by decide +kernel
theorem dX12_found_52 : decode cX12_found 52 = .ok (.getfield 255, 3) := by decide +kernel
theorem dX12_found_55 : decode cX12_found 55 = .ok (.goto 4, 3) := by decide +kernel
theorem dX12_found_58 : decode cX12_found 58 = .ok (.iconst (-1), 1) := by decide +kernel
theorem dX12_found_59 : decode cX12_found 59 = .ok (.ireturn, 1) := by decide +kernel
theorem dX12_arePaths_0 : decode cX12_arePaths 0 = .ok (.iload_n 2, 1) := by decide +kernel
theorem dX12_arePaths_1 : decode cX12_arePaths 1 = .ok (.istore 5, 2) := by decide +kernel
theorem dX12_arePaths_3 : decode cX12_arePaths 3 = .ok (.iload 4, 2) := by decide +kernel
theorem dX12_arePaths_5 : decode cX12_arePaths 5 = .ok (.istore 6, 2) := by decide +kernel
theorem dX12_arePaths_7 : decode cX12_arePaths 7 = .ok (.iload 5, 2) := by decide +kernel
theorem dX12_arePaths_9 : decode cX12_arePaths 9 = .ok (.ifCond .lt 90, 3) := by decide +kernel
theorem dX12_arePaths_12 : decode cX12_arePaths 12 = .ok (.iload 6, 2) := by decide +kernel
theorem dX12_arePaths_14 : decode cX12_arePaths 14 = .ok (.ifCond .lt 85, 3) := by decide +kernel
theorem dX12_arePaths_17 : decode cX12_arePaths 17 = .ok (.aload_n 0, 1) := by decide +kernel
theorem dX12_arePaths_18 : decode cX12_arePaths 18 = .ok (.getfield 42, 3) := by decide +kernel
theorem dX12_arePaths_21 : decode cX12_arePaths 21 = .ok (.iload_n 1, 1) := by decide +kernel
theorem dX12_arePaths_22 : decode cX12_arePaths 22 = .ok (.iload 5, 2) := by decide +kernel
theorem dX12_arePaths_24 : decode cX12_arePaths 24 = .ok (.invokestatic 151, 3) := by decide +kernel
theorem dX12_arePaths_27 : decode cX12_arePaths 27 = .ok (.laload, 1) := by decide +kernel
theorem dX12_arePaths_28 : decode cX12_arePaths 28 = .ok (.aload_n 0, 1) := by decide +kernel
theorem dX12_arePaths_29 : decode cX12_arePaths 29 = .ok (.getfield 42, 3) := by decide +kernel
theorem dX12_arePaths_32 : decode cX12_arePaths 32 = .ok (.iload_n 3, 1) := by decide +kernel
theorem dX12_arePaths_33 : decode cX12_arePaths 33 = .ok (.iload 6, 2) := by decide +kernel
theorem dX12_arePaths_35 : decode cX12_arePaths 35 = .ok (.invokestatic 151, 3) := by decide +kernel
theorem dX12_arePaths_38 : decode cX12_arePaths 38 = .ok (.laload, 1) := by decide +kernel
theorem dX12_arePaths_39 : decode cX12_arePaths 39 = .ok (.lcmp, 1) := by decide +kernel
theorem dX12_arePaths_40 : decode cX12_arePaths 40 = .ok (.ifCond .ne 28, 3) := by decide +kernel
theorem dX12_arePaths_43 : decode cX12_arePaths 43 = .ok (.aload_n 0, 1) := by decide +kernel
theorem dX12_arePaths_44 : decode cX12_arePaths 44 = .ok (.getfield 30, 3) := by decide +kernel
theorem dX12_arePaths_47 : decode cX12_arePaths 47 = .ok (.iload_n 1, 1) := by decide +kernel
theorem dX12_arePaths_48 : decode cX12_arePaths 48 = .ok (.iload 5, 2) := by decide +kernel
theorem dX12_arePaths_50 : decode cX12_arePaths 50 = .ok (.invokestatic 151, 3) := by decide +kernel
theorem dX12_arePaths_53 : decode cX12_arePaths 53 = .ok (.iaload, 1) := by decide +kernel
theorem dX12_arePaths_54 : decode cX12_arePaths 54 = .ok (.aload_n 0, 1) := by decide +kernel
theorem dX12_arePaths_55 : decode cX12_arePaths 55 = .ok (.getfield 30, 3) := by decide +kernel
theorem dX12_arePaths_58 : decode cX12_arePaths 58 = .ok (.iload_n 3, 1) := by decide +kernel
theorem dX12_arePaths_59 : decode cX12_arePaths 59 = .ok (.iload 6, 2) := by decide +kernel
theorem dX12_arePaths_61 : decode cX12_arePaths 61 = .ok (.invokestatic 151, 3) := by decide +kernel
theorem dX12_arePaths_64 : decode cX12_arePaths 64 = .ok (.iaload, 1) := by decide +kernel
theorem dX12_arePaths_65 : decode cX12_arePaths 65 = .ok (.if_icmp .eq 5, 3) := by decide +kernel
theorem dX12_arePaths_68 : decode cX12_arePaths 68 = .ok (.iconst 0, 1) := by decide +kernel
theorem dX12_arePaths_69 : decode cX12_arePaths 69 = .ok (.ireturn, 1) := by decide +kernel
theorem dX12_arePaths_70 : decode cX12_arePaths 70 = .ok (.aload_n 0, 1) := by decide +kernel
theorem dX12_arePaths_71 : decode cX12_arePaths 71 = .ok (.getfield 24, 3) := by decide +kernel
theorem dX12_arePaths_74 : decode cX12_arePaths 74 = .ok (.iload_n 1, 1) := by decide +kernel
theorem dX12_arePaths_75 : decode cX12_arePaths 75 = .ok (.iload 5, 2) := by decide +kernel
theorem dX12_arePaths_77 : decode cX12_arePaths 77 = .ok (.invokestatic 151, 3) := by decide +kernel
theorem dX12_arePaths_80 : decode cX12_arePaths 80 = .ok (.iaload, 1) := by decide +kernel
theorem dX12_arePaths_81 : decode cX12_arePaths 81 = .ok (.istore 5, 2) := by decide +kernel
theorem dX12_arePaths_83 : decode cX12_arePaths 83 = .ok (.aload_n 0, 1) := by decide +kernel
theorem dX12_arePaths_84 : decode cX12_arePaths 84 = .ok (.getfield 24, 3) := by decide +kernel
theorem dX12_arePaths_87 : decode cX12_arePaths 87 = .ok (.iload_n 3, 1) := by decide +kernel
theorem dX12_arePaths_88 : decode cX12_arePaths 88 = .ok (.iload 6, 2) := by decide +kernel
theorem dX12_arePaths_90 : decode cX12_arePaths 90 = .ok (.invokestatic 151, 3) := by decide +kernel
theorem dX12_arePaths_93 : decode cX12_arePaths 93 = .ok (.iaload, 1) := by decide +kernel
theorem dX12_arePaths_94 : decode cX12_arePaths 94 = .ok (.istore 6, 2) := by decide +kernel
theorem dX12_arePaths_96 : decode cX12_arePaths 96 = .ok (.goto (-89), 3) := by decide +kernel
theorem dX12_arePaths_99 : decode cX12_arePaths 99 = .ok (.iload 5, 2) := by decide +kernel
theorem dX12_arePaths_101 : decode cX12_arePaths 101 = .ok (.ifCond .ge 12, 3) := by decide +kernel
theorem dX12_arePaths_104 : decode cX12_arePaths 104 = .ok (.iload 6, 2) := by decide +kernel
theorem dX12_arePaths_106 : decode cX12_arePaths 106 = .ok (.ifCond .ge 7, 3) := by decide +kernel
theorem dX12_arePaths_109 : decode cX12_arePaths 109 = .ok (.iconst 1, 1) := by decide +kernel
theorem dX12_arePaths_110 : decode cX12_arePaths 110 = .ok (.goto 4, 3) := by decide +kernel
theorem dX12_arePaths_113 : decode cX12_arePaths 113 = .ok (.iconst 0, 1) := by decide +kernel
theorem dX12_arePaths_114 : decode cX12_arePaths 114 = .ok (.ireturn, 1) := by decide +kernel
theorem dX12_areLabels_0 : decode cX12_areLabels 0 = .ok (.aload_n 0, 1) := by decide +kernel
theorem dX12_areLabels_1 : decode cX12_areLabels 1 = .ok (.iload_n 1, 1) := by decide +kernel
theorem dX12_areLabels_2 : decode cX12_areLabels 2 = .ok (.iload_n 2, 1) := by decide +kernel
theorem dX12_areLabels_3 : decode cX12_areLabels 3 = .ok (.invokevirtual 195, 3) := by decide +kernel
theorem dX12_areLabels_6 : decode cX12_areLabels 6 = .ok (.istore 5, 2) := by decide +kernel
theorem dX12_areLabels_8 : decode cX12_areLabels 8 = .ok (.aload_n 0, 1) := by decide +kernel
theorem dX12_areLabels_9 : decode cX12_areLabels 9 = .ok (.iload_n 3, 1) := by decide +kernel
theorem dX12_areLabels_10 : decode cX12_areLabels 10 = .ok (.iload 4, 2) := by decide +kernel
theorem dX12_areLabels_12 : decode cX12_areLabels 12 = .ok (.invokevirtual 195, 3) := by decide +kernel
theorem dX12_areLabels_15 : decode cX12_areLabels 15 = .ok (.istore 6, 2) := by decide +kernel
theorem dX12_areLabels_17 : decode cX12_areLabels 17 = .ok (.iload 5, 2) := by decide +kernel
theorem dX12_areLabels_19 : decode cX12_areLabels 19 = .ok (.ifCond .lt 8, 3) := by decide +kernel
theorem dX12_areLabels_22 : decode cX12_areLabels 22 = .ok (.iload 6, 2) := by decide +kernel
theorem dX12_areLabels_24 : decode cX12_areLabels 24 = .ok (.ifCond .ge 21, 3) := by decide +kernel
theorem dX12_areLabels_27 : decode cX12_areLabels 27 = .ok (.iload 5, 2) := by decide +kernel
theorem dX12_areLabels_29 : decode cX12_areLabels 29 = .ok (.ifCond .ge 12, 3) := by decide +kernel
theorem dX12_areLabels_32 : decode cX12_areLabels 32 = .ok (.iload 6, 2) := by decide +kernel
theorem dX12_areLabels_34 : decode cX12_areLabels 34 = .ok (.ifCond .ge 7, 3) := by decide +kernel
theorem dX12_areLabels_37 : decode cX12_areLabels 37 = .ok (.iconst 1, 1) := by decide +kernel
theorem dX12_areLabels_38 : decode cX12_areLabels 38 = .ok (.goto 23, 3) := by decide +kernel
theorem dX12_areLabels_41 : decode cX12_areLabels 41 = .ok (.iconst 0, 1) := by decide +kernel
theorem dX12_areLabels_42 : decode cX12_areLabels 42 = .ok (.goto 19, 3) := by decide +kernel
theorem dX12_areLabels_45 : decode cX12_areLabels 45 = .ok (.aload_n 0, 1) := by decide +kernel
theorem dX12_areLabels_46 : decode cX12_areLabels 46 = .ok (.iload_n 1, 1) := by decide +kernel
theorem dX12_areLabels_47 : decode cX12_areLabels 47 = .ok (.iload 5, 2) := by decide +kernel
theorem dX12_areLabels_49 : decode cX12_areLabels 49 = .ok (.invokestatic 151, 3) := by decide +kernel
theorem dX12_areLabels_52 : decode cX12_areLabels 52 = .ok (.iload_n 3, 1) := by decide +kernel
theorem dX12_areLabels_53 : decode cX12_areLabels 53 = .ok (.iload 6, 2) := by decide +kernel
theorem dX12_areLabels_55 : decode cX12_areLabels 55 = .ok (.invokestatic 151, 3) := by decide +kernel
theorem dX12_areLabels_58 : decode cX12_areLabels 58 = .ok (.invokevirtual 204, 3) := by decide +kernel
theorem dX12_areLabels_61 : decode cX12_areLabels 61 = .ok (.ireturn, 1) := by decide +kernel
theorem dX12_kindAbove_0 : decode cX12_kindAbove 0 = .ok (.aload_n 0, 1) := by decide +kernel
theorem dX12_kindAbove_1 : decode cX12_kindAbove 1 = .ok (.getfield 24, 3) := by decide +kernel
theorem dX12_kindAbove_4 : decode cX12_kindAbove 4 = .ok (.iload_n 1, 1) := by decide +kernel
theorem dX12_kindAbove_5 : decode cX12_kindAbove 5 = .ok (.iload_n 2, 1) := by decide +kernel
theorem dX12_kindAbove_6 : decode cX12_kindAbove 6 = .ok (.invokestatic 151, 3) := by decide +kernel
theorem dX12_kindAbove_9 : decode cX12_kindAbove 9 = .ok (.iaload, 1) := by decide +kernel
theorem dX12_kindAbove_10 : decode cX12_kindAbove 10 = .ok (.ifCond .ge 7, 3) := by decide +kernel
theorem dX12_kindAbove_13 : decode cX12_kindAbove 13 = .ok (.lconst 0, 1) := by decide +kernel
theorem dX12_kindAbove_14 : decode cX12_kindAbove 14 = .ok (.goto 22, 3) := by decide +kernel
theorem dX12_kindAbove_17 : decode cX12_kindAbove 17 = .ok (.aload_n 0, 1) := by decide +kernel
theorem dX12_kindAbove_18 : decode cX12_kindAbove 18 = .ok (.getfield 42, 3) := by decide +kernel
theorem dX12_kindAbove_21 : decode cX12_kindAbove 21 = .ok (.iload_n 1, 1) := by decide +kernel
theorem dX12_kindAbove_22 : decode cX12_kindAbove 22 = .ok (.aload_n 0, 1) := by decide +kernel
theorem dX12_kindAbove_23 : decode cX12_kindAbove 23 = .ok (.getfield 24, 3) := by decide +kernel
theorem dX12_kindAbove_26 : decode cX12_kindAbove 26 = .ok (.iload_n 1, 1) := by decide +kernel
theorem dX12_kindAbove_27 : decode cX12_kindAbove 27 = .ok (.iload_n 2, 1) := by decide +kernel
theorem dX12_kindAbove_28 : decode cX12_kindAbove 28 = .ok (.invokestatic 151, 3) := by decide +kernel
theorem dX12_kindAbove_31 : decode cX12_kindAbove 31 = .ok (.iaload, 1) := by decide +kernel
theorem dX12_kindAbove_32 : decode cX12_kindAbove 32 = .ok (.invokestatic 151, 3) := by decide +kernel
theorem dX12_kindAbove_35 : decode cX12_kindAbove 35 = .ok (.laload, 1) := by decide +kernel
theorem dX12_kindAbove_36 : decode cX12_kindAbove 36 = .ok (.lreturn, 1) := by decide +kernel
theorem dX12_titleAbove_0 : decode cX12_titleAbove 0 = .ok (.aload_n 0, 1) := by decide +kernel
theorem dX12_titleAbove_1 : decode cX12_titleAbove 1 = .ok (.getfield 24, 3) := by decide +kernel
theorem dX12_titleAbove_4 : decode cX12_titleAbove 4 = .ok (.iload_n 1, 1) := by decide +kernel
theorem dX12_titleAbove_5 : decode cX12_titleAbove 5 = .ok (.iload_n 2, 1) := by decide +kernel
theorem dX12_titleAbove_6 : decode cX12_titleAbove 6 = .ok (.invokestatic 151, 3) := by decide +kernel
theorem dX12_titleAbove_9 : decode cX12_titleAbove 9 = .ok (.iaload, 1) := by decide +kernel
theorem dX12_titleAbove_10 : decode cX12_titleAbove 10 = .ok (.ifCond .ge 7, 3) := by decide +kernel
theorem dX12_titleAbove_13 : decode cX12_titleAbove 13 = .ok (.lconst 0, 1) := by decide +kernel
theorem dX12_titleAbove_14 : decode cX12_titleAbove 14 = .ok (.goto 22, 3) := by decide +kernel
theorem dX12_titleAbove_17 : decode cX12_titleAbove 17 = .ok (.aload_n 0, 1) := by decide +kernel
theorem dX12_titleAbove_18 : decode cX12_titleAbove 18 = .ok (.getfield 46, 3) := by decide +kernel
theorem dX12_titleAbove_21 : decode cX12_titleAbove 21 = .ok (.iload_n 1, 1) := by decide +kernel
theorem dX12_titleAbove_22 : decode cX12_titleAbove 22 = .ok (.aload_n 0, 1) := by decide +kernel
theorem dX12_titleAbove_23 : decode cX12_titleAbove 23 = .ok (.getfield 24, 3) := by decide +kernel
theorem dX12_titleAbove_26 : decode cX12_titleAbove 26 = .ok (.iload_n 1, 1) := by decide +kernel
theorem dX12_titleAbove_27 : decode cX12_titleAbove 27 = .ok (.iload_n 2, 1) := by decide +kernel
theorem dX12_titleAbove_28 : decode cX12_titleAbove 28 = .ok (.invokestatic 151, 3) := by decide +kernel
theorem dX12_titleAbove_31 : decode cX12_titleAbove 31 = .ok (.iaload, 1) := by decide +kernel
theorem dX12_titleAbove_32 : decode cX12_titleAbove 32 = .ok (.invokestatic 151, 3) := by decide +kernel
theorem dX12_titleAbove_35 : decode cX12_titleAbove 35 = .ok (.laload, 1) := by decide +kernel
theorem dX12_titleAbove_36 : decode cX12_titleAbove 36 = .ok (.lreturn, 1) := by decide +kernel
theorem dX12_alike_0 : decode cX12_alike 0 = .ok (.iload_n 1, 1) := by decide +kernel
theorem dX12_alike_1 : decode cX12_alike 1 = .ok (.iload_n 2, 1) := by decide +kernel
theorem dX12_alike_2 : decode cX12_alike 2 = .ok (.invokestatic 151, 3) := by decide +kernel
theorem dX12_alike_5 : decode cX12_alike 5 = .ok (.istore 5, 2) := by decide +kernel
theorem dX12_alike_7 : decode cX12_alike 7 = .ok (.iload_n 3, 1) := by decide +kernel
theorem dX12_alike_8 : decode cX12_alike 8 = .ok (.iload 4, 2) := by decide +kernel
theorem dX12_alike_10 : decode cX12_alike 10 = .ok (.invokestatic 151, 3) := by decide +kernel
theorem dX12_alike_13 : decode cX12_alike 13 = .ok (.istore 6, 2) := by decide +kernel
theorem dX12_alike_15 : decode cX12_alike 15 = .ok (.aload_n 0, 1) := by decide +kernel
theorem dX12_alike_16 : decode cX12_alike 16 = .ok (.getfield 46, 3) := by decide +kernel
theorem dX12_alike_19 : decode cX12_alike 19 = .ok (.iload 5, 2) := by decide +kernel
theorem dX12_alike_21 : decode cX12_alike 21 = .ok (.laload, 1) := by decide +kernel
theorem dX12_alike_22 : decode cX12_alike 22 = .ok (.aload_n 0, 1) := by decide +kernel
theorem dX12_alike_23 : decode cX12_alike 23 = .ok (.getfield 46, 3) := by decide +kernel
theorem dX12_alike_26 : decode cX12_alike 26 = .ok (.iload 6, 2) := by decide +kernel
theorem dX12_alike_28 : decode cX12_alike 28 = .ok (.laload, 1) := by decide +kernel
theorem dX12_alike_29 : decode cX12_alike 29 = .ok (.lcmp, 1) := by decide +kernel
theorem dX12_alike_30 : decode cX12_alike 30 = .ok (.ifCond .ne 7, 3) := by decide +kernel
theorem dX12_alike_33 : decode cX12_alike 33 = .ok (.iconst 1, 1) := by decide +kernel
theorem dX12_alike_34 : decode cX12_alike 34 = .ok (.goto 4, 3) := by decide +kernel
theorem dX12_alike_37 : decode cX12_alike 37 = .ok (.iconst 0, 1) := by decide +kernel
theorem dX12_alike_38 : decode cX12_alike 38 = .ok (.istore 7, 2) := by decide +kernel
theorem dX12_alike_40 : decode cX12_alike 40 = .ok (.iload 7, 2) := by decide +kernel
theorem dX12_alike_42 : decode cX12_alike 42 = .ok (.aload_n 0, 1) := by decide +kernel
theorem dX12_alike_43 : decode cX12_alike 43 = .ok (.iload 5, 2) := by decide +kernel
theorem dX12_alike_45 : decode cX12_alike 45 = .ok (.iload 6, 2) := by decide +kernel
theorem dX12_alike_47 : decode cX12_alike 47 = .ok (.invokevirtual 204, 3) := by decide +kernel
theorem dX12_alike_50 : decode cX12_alike 50 = .ok (.ifCond .eq 7, 3) := by decide +kernel
theorem dX12_alike_53 : decode cX12_alike 53 = .ok (.iconst 2, 1) := by decide +kernel
theorem dX12_alike_54 : decode cX12_alike 54 = .ok (.goto 4, 3) := by decide +kernel
theorem dX12_alike_57 : decode cX12_alike 57 = .ok (.iconst 0, 1) := by decide +kernel
theorem dX12_alike_58 : decode cX12_alike 58 = .ok (.ior, 1) := by decide +kernel
theorem dX12_alike_59 : decode cX12_alike 59 = .ok (.istore 7, 2) := by decide +kernel
theorem dX12_alike_61 : decode cX12_alike 61 = .ok (.iload 7, 2) := by decide +kernel
theorem dX12_alike_63 : decode cX12_alike 63 = .ok (.aload_n 0, 1) := by decide +kernel
theorem dX12_alike_64 : decode cX12_alike 64 = .ok (.getfield 42, 3) := by decide +kernel
theorem dX12_alike_67 : decode cX12_alike 67 = .ok (.iload 5, 2) := by decide +kernel
theorem dX12_alike_69 : decode cX12_alike 69 = .ok (.laload, 1) := by decide +kernel
theorem dX12_alike_70 : decode cX12_alike 70 = .ok (.aload_n 0, 1) := by decide +kernel
theorem dX12_alike_71 : decode cX12_alike 71 = .ok (.getfield 42, 3) := by decide +kernel
theorem dX12_alike_74 : decode cX12_alike 74 = .ok (.iload 6, 2) := by decide +kernel
theorem dX12_alike_76 : decode cX12_alike 76 = .ok (.laload, 1) := by decide +kernel
theorem dX12_alike_77 : decode cX12_alike 77 = .ok (.lcmp, 1) := by decide +kernel
theorem dX12_alike_78 : decode cX12_alike 78 = .ok (.ifCond .ne 7, 3) := by decide +kernel
theorem dX12_alike_81 : decode cX12_alike 81 = .ok (.iconst 4, 1) := by decide +kernel
theorem dX12_alike_82 : decode cX12_alike 82 = .ok (.goto 4, 3) := by decide +kernel
theorem dX12_alike_85 : decode cX12_alike 85 = .ok (.iconst 0, 1) := by decide +kernel
theorem dX12_alike_86 : decode cX12_alike 86 = .ok (.ior, 1) := by decide +kernel
theorem dX12_alike_87 : decode cX12_alike 87 = .ok (.istore 7, 2) := by decide +kernel
theorem dX12_alike_89 : decode cX12_alike 89 = .ok (.iload 7, 2) := by decide +kernel
theorem dX12_alike_91 : decode cX12_alike 91 = .ok (.aload_n 0, 1) := by decide +kernel
theorem dX12_alike_92 : decode cX12_alike 92 = .ok (.getfield 30, 3) := by decide +kernel
theorem dX12_alike_95 : decode cX12_alike 95 = .ok (.iload 5, 2) := by decide +kernel
theorem dX12_alike_97 : decode cX12_alike 97 = .ok (.iaload, 1) := by decide +kernel
theorem dX12_alike_98 : decode cX12_alike 98 = .ok (.aload_n 0, 1) := by decide +kernel
theorem dX12_alike_99 : decode cX12_alike 99 = .ok (.getfield 30, 3) := by decide +kernel
theorem dX12_alike_102 : decode cX12_alike 102 = .ok (.iload 6, 2) := by decide +kernel
theorem dX12_alike_104 : decode cX12_alike 104 = .ok (.iaload, 1) := by decide +kernel
theorem dX12_alike_105 : decode cX12_alike 105 = .ok (.if_icmp .ne 8, 3) := by decide +kernel
theorem dX12_alike_108 : decode cX12_alike 108 = .ok (.bipush 8, 2) := by decide +kernel
theorem dX12_alike_110 : decode cX12_alike 110 = .ok (.goto 4, 3) := by decide +kernel
theorem dX12_alike_113 : decode cX12_alike 113 = .ok (.iconst 0, 1) := by decide +kernel
theorem dX12_alike_114 : decode cX12_alike 114 = .ok (.ior, 1) := by decide +kernel
theorem dX12_alike_115 : decode cX12_alike 115 = .ok (.istore 7, 2) := by decide +kernel
theorem dX12_alike_117 : decode cX12_alike 117 = .ok (.iload 7, 2) := by decide +kernel
theorem dX12_alike_119 : decode cX12_alike 119 = .ok (.aload_n 0, 1) := by decide +kernel
theorem dX12_alike_120 : decode cX12_alike 120 = .ok (.iload_n 1, 1) := by decide +kernel
theorem dX12_alike_121 : decode cX12_alike 121 = .ok (.iload_n 2, 1) := by decide +kernel
theorem dX12_alike_122 : decode cX12_alike 122 = .ok (.invokevirtual 258, 3) := by decide +kernel
theorem dX12_alike_125 : decode cX12_alike 125 = .ok (.aload_n 0, 1) := by decide +kernel
theorem dX12_alike_126 : decode cX12_alike 126 = .ok (.iload_n 3, 1) := by decide +kernel
theorem dX12_alike_127 : decode cX12_alike 127 = .ok (.iload 4, 2) := by decide +kernel
theorem dX12_alike_129 : decode cX12_alike 129 = .ok (.invokevirtual 258, 3) := by decide +kernel
theorem dX12_alike_132 : decode cX12_alike 132 = .ok (.lcmp, 1) := by decide +kernel
theorem dX12_alike_133 : decode cX12_alike 133 = .ok (.ifCond .ne 8, 3) := by decide +kernel
theorem dX12_alike_136 : decode cX12_alike 136 = .ok (.bipush 16, 2) := by decide +kernel
theorem dX12_alike_138 : decode cX12_alike 138 = .ok (.goto 4, 3) := by decide +kernel
theorem dX12_alike_141 : decode cX12_alike 141 = .ok (.iconst 0, 1) := by decide +kernel
theorem dX12_alike_142 : decode cX12_alike 142 = .ok (.ior, 1) := by decide +kernel
theorem dX12_alike_143 : decode cX12_alike 143 = .ok (.istore 7, 2) := by decide +kernel
theorem dX12_alike_145 : decode cX12_alike 145 = .ok (.iload 7, 2) := by decide +kernel
theorem dX12_alike_147 : decode cX12_alike 147 = .ok (.aload_n 0, 1) := by decide +kernel
theorem dX12_alike_148 : decode cX12_alike 148 = .ok (.iload_n 1, 1) := by decide +kernel
theorem dX12_alike_149 : decode cX12_alike 149 = .ok (.iload_n 2, 1) := by decide +kernel
theorem dX12_alike_150 : decode cX12_alike 150 = .ok (.invokevirtual 262, 3) := by decide +kernel
theorem dX12_alike_153 : decode cX12_alike 153 = .ok (.aload_n 0, 1) := by decide +kernel
theorem dX12_alike_154 : decode cX12_alike 154 = .ok (.iload_n 3, 1) := by decide +kernel
theorem dX12_alike_155 : decode cX12_alike 155 = .ok (.iload 4, 2) := by decide +kernel
theorem dX12_alike_157 : decode cX12_alike 157 = .ok (.invokevirtual 262, 3) := by decide +kernel
theorem dX12_alike_160 : decode cX12_alike 160 = .ok (.lcmp, 1) := by decide +kernel
theorem dX12_alike_161 : decode cX12_alike 161 = .ok (.ifCond .ne 8, 3) := by decide +kernel
theorem dX12_alike_164 : decode cX12_alike 164 = .ok (.bipush 32, 2) := by decide +kernel
theorem dX12_alike_166 : decode cX12_alike 166 = .ok (.goto 4, 3) := by decide +kernel
theorem dX12_alike_169 : decode cX12_alike 169 = .ok (.iconst 0, 1) := by decide +kernel
theorem dX12_alike_170 : decode cX12_alike 170 = .ok (.ior, 1) := by decide +kernel
theorem dX12_alike_171 : decode cX12_alike 171 = .ok (.istore 7, 2) := by decide +kernel
theorem dX12_alike_173 : decode cX12_alike 173 = .ok (.iload 7, 2) := by decide +kernel
theorem dX12_alike_175 : decode cX12_alike 175 = .ok (.aload_n 0, 1) := by decide +kernel
theorem dX12_alike_176 : decode cX12_alike 176 = .ok (.iload_n 1, 1) := by decide +kernel
theorem dX12_alike_177 : decode cX12_alike 177 = .ok (.iload_n 2, 1) := by decide +kernel
theorem dX12_alike_178 : decode cX12_alike 178 = .ok (.iload_n 3, 1) := by decide +kernel
theorem dX12_alike_179 : decode cX12_alike 179 = .ok (.iload 4, 2) := by decide +kernel
theorem dX12_alike_181 : decode cX12_alike 181 = .ok (.invokevirtual 265, 3) := by decide +kernel
theorem dX12_alike_184 : decode cX12_alike 184 = .ok (.ifCond .eq 8, 3) := by decide +kernel
theorem dX12_alike_187 : decode cX12_alike 187 = .ok (.bipush 64, 2) := by decide +kernel
theorem dX12_alike_189 : decode cX12_alike 189 = .ok (.goto 4, 3) := by decide +kernel
theorem dX12_alike_192 : decode cX12_alike 192 = .ok (.iconst 0, 1) := by decide +kernel
theorem dX12_alike_193 : decode cX12_alike 193 = .ok (.ior, 1) := by decide +kernel
theorem dX12_alike_194 : decode cX12_alike 194 = .ok (.istore 7, 2) := by decide +kernel
theorem dX12_alike_196 : decode cX12_alike 196 = .ok (.iload 7, 2) := by decide +kernel
theorem dX12_alike_198 : decode cX12_alike 198 = .ok (.aload_n 0, 1) := by decide +kernel
theorem dX12_alike_199 : decode cX12_alike 199 = .ok (.iload_n 1, 1) := by decide +kernel
theorem dX12_alike_200 : decode cX12_alike 200 = .ok (.iload_n 2, 1) := by decide +kernel
theorem dX12_alike_201 : decode cX12_alike 201 = .ok (.iload_n 3, 1) := by decide +kernel
theorem dX12_alike_202 : decode cX12_alike 202 = .ok (.iload 4, 2) := by decide +kernel
theorem dX12_alike_204 : decode cX12_alike 204 = .ok (.invokevirtual 269, 3) := by decide +kernel
theorem dX12_alike_207 : decode cX12_alike 207 = .ok (.ifCond .eq 9, 3) := by decide +kernel
theorem dX12_alike_210 : decode cX12_alike 210 = .ok (.sipush 128, 3) := by decide +kernel
theorem dX12_alike_213 : decode cX12_alike 213 = .ok (.goto 4, 3) := by decide +kernel
theorem dX12_alike_216 : decode cX12_alike 216 = .ok (.iconst 0, 1) := by decide +kernel
theorem dX12_alike_217 : decode cX12_alike 217 = .ok (.ior, 1) := by decide +kernel
theorem dX12_alike_218 : decode cX12_alike 218 = .ok (.ireturn, 1) := by decide +kernel
theorem dX12_fits_0 : decode cX12_fits 0 = .ok (.aload_n 0, 1) := by decide +kernel
theorem dX12_fits_1 : decode cX12_fits 1 = .ok (.iload_n 1, 1) := by decide +kernel
theorem dX12_fits_2 : decode cX12_fits 2 = .ok (.iload_n 2, 1) := by decide +kernel
theorem dX12_fits_3 : decode cX12_fits 3 = .ok (.invokevirtual 185, 3) := by decide +kernel
theorem dX12_fits_6 : decode cX12_fits 6 = .ok (.ifCond .eq 24, 3) := by decide +kernel
theorem dX12_fits_9 : decode cX12_fits 9 = .ok (.iload_n 3, 1) := by decide +kernel
theorem dX12_fits_10 : decode cX12_fits 10 = .ok (.iconst 1, 1) := by decide +kernel
theorem dX12_fits_11 : decode cX12_fits 11 = .ok (.if_icmp .lt 19, 3) := by decide +kernel
theorem dX12_fits_14 : decode cX12_fits 14 = .ok (.iload_n 3, 1) := by decide +kernel
theorem dX12_fits_15 : decode cX12_fits 15 = .ok (.sipush 255, 3) := by decide +kernel
theorem dX12_fits_18 : decode cX12_fits 18 = .ok (.if_icmp .gt 12, 3) := by decide +kernel
theorem dX12_fits_21 : decode cX12_fits 21 = .ok (.aload_n 0, 1) := by decide +kernel
theorem dX12_fits_22 : decode cX12_fits 22 = .ok (.iload 4, 2) := by decide +kernel
theorem dX12_fits_24 : decode cX12_fits 24 = .ok (.invokevirtual 235, 3) := by decide +kernel
theorem dX12_fits_27 : decode cX12_fits 27 = .ok (.ifCond .ne 5, 3) := by decide +kernel
theorem dX12_fits_30 : decode cX12_fits 30 = .ok (.iconst (-1), 1) := by decide +kernel
theorem dX12_fits_31 : decode cX12_fits 31 = .ok (.ireturn, 1) := by decide +kernel
theorem dX12_fits_32 : decode cX12_fits 32 = .ok (.iconst 0, 1) := by decide +kernel
theorem dX12_fits_33 : decode cX12_fits 33 = .ok (.istore 5, 2) := by decide +kernel
theorem dX12_fits_35 : decode cX12_fits 35 = .ok (.iconst 0, 1) := by decide +kernel
theorem dX12_fits_36 : decode cX12_fits 36 = .ok (.istore 6, 2) := by decide +kernel
theorem dX12_fits_38 : decode cX12_fits 38 = .ok (.iload 6, 2) := by decide +kernel
theorem dX12_fits_40 : decode cX12_fits 40 = .ok (.aload_n 0, 1) := by decide +kernel
theorem dX12_fits_41 : decode cX12_fits 41 = .ok (.getfield 20, 3) := by decide +kernel
theorem dX12_fits_44 : decode cX12_fits 44 = .ok (.iload 4, 2) := by decide +kernel
theorem dX12_fits_46 : decode cX12_fits 46 = .ok (.iaload, 1) := by decide +kernel
theorem dX12_fits_47 : decode cX12_fits 47 = .ok (.if_icmp .ge 35, 3) := by decide +kernel
theorem dX12_fits_50 : decode cX12_fits 50 = .ok (.iload 5, 2) := by decide +kernel
theorem dX12_fits_52 : decode cX12_fits 52 = .ok (.aload_n 0, 1) := by decide +kernel
theorem dX12_fits_53 : decode cX12_fits 53 = .ok (.iload_n 1, 1) := by decide +kernel
theorem dX12_fits_54 : decode cX12_fits 54 = .ok (.iload_n 2, 1) := by decide +kernel
theorem dX12_fits_55 : decode cX12_fits 55 = .ok (.iload 4, 2) := by decide +kernel
theorem dX12_fits_57 : decode cX12_fits 57 = .ok (.iload 6, 2) := by decide +kernel
theorem dX12_fits_59 : decode cX12_fits 59 = .ok (.invokevirtual 272, 3) := by decide +kernel
theorem dX12_fits_62 : decode cX12_fits 62 = .ok (.iload_n 3, 1) := by decide +kernel
theorem dX12_fits_63 : decode cX12_fits 63 = .ok (.iand, 1) := by decide +kernel
theorem dX12_fits_64 : decode cX12_fits 64 = .ok (.iload_n 3, 1) := by decide +kernel
theorem dX12_fits_65 : decode cX12_fits 65 = .ok (.if_icmp .ne 7, 3) := by decide +kernel
theorem dX12_fits_68 : decode cX12_fits 68 = .ok (.iconst 1, 1) := by decide +kernel
theorem dX12_fits_69 : decode cX12_fits 69 = .ok (.goto 4, 3) := by decide +kernel
theorem dX12_fits_72 : decode cX12_fits 72 = .ok (.iconst 0, 1) := by decide +kernel
theorem dX12_fits_73 : decode cX12_fits 73 = .ok (.iadd, 1) := by decide +kernel
theorem dX12_fits_74 : decode cX12_fits 74 = .ok (.istore 5, 2) := by decide +kernel
theorem dX12_fits_76 : decode cX12_fits 76 = .ok (.iinc 6 1, 3) := by decide +kernel
theorem dX12_fits_79 : decode cX12_fits 79 = .ok (.goto (-41), 3) := by decide +kernel
theorem dX12_fits_82 : decode cX12_fits 82 = .ok (.iload 5, 2) := by decide +kernel
theorem dX12_fits_84 : decode cX12_fits 84 = .ok (.ireturn, 1) := by decide +kernel
theorem dX12_fit_0 : decode cX12_fit 0 = .ok (.aload_n 0, 1) := by decide +kernel
theorem dX12_fit_1 : decode cX12_fit 1 = .ok (.iload_n 1, 1) := by decide +kernel
theorem dX12_fit_2 : decode cX12_fit 2 = .ok (.iload_n 2, 1) := by decide +kernel
theorem dX12_fit_3 : decode cX12_fit 3 = .ok (.invokevirtual 185, 3) := by decide +kernel
theorem dX12_fit_6 : decode cX12_fit 6 = .ok (.ifCond .eq 24, 3) := by decide +kernel
theorem dX12_fit_9 : decode cX12_fit 9 = .ok (.iload_n 3, 1) := by decide +kernel
theorem dX12_fit_10 : decode cX12_fit 10 = .ok (.iconst 1, 1) := by decide +kernel
theorem dX12_fit_11 : decode cX12_fit 11 = .ok (.if_icmp .lt 19, 3) := by decide +kernel
theorem dX12_fit_14 : decode cX12_fit 14 = .ok (.iload_n 3, 1) := by decide +kernel
theorem dX12_fit_15 : decode cX12_fit 15 = .ok (.sipush 255, 3) := by decide +kernel
theorem dX12_fit_18 : decode cX12_fit 18 = .ok (.if_icmp .gt 12, 3) := by decide +kernel
theorem dX12_fit_21 : decode cX12_fit 21 = .ok (.aload_n 0, 1) := by decide +kernel
theorem dX12_fit_22 : decode cX12_fit 22 = .ok (.iload 4, 2) := by decide +kernel
theorem dX12_fit_24 : decode cX12_fit 24 = .ok (.invokevirtual 235, 3) := by decide +kernel
theorem dX12_fit_27 : decode cX12_fit 27 = .ok (.ifCond .ne 5, 3) := by decide +kernel
theorem dX12_fit_30 : decode cX12_fit 30 = .ok (.iconst (-1), 1) := by decide +kernel
theorem dX12_fit_31 : decode cX12_fit 31 = .ok (.ireturn, 1) := by decide +kernel
theorem dX12_fit_32 : decode cX12_fit 32 = .ok (.iload 5, 2) := by decide +kernel
theorem dX12_fit_34 : decode cX12_fit 34 = .ok (.istore 6, 2) := by decide +kernel
theorem dX12_fit_36 : decode cX12_fit 36 = .ok (.iconst 0, 1) := by decide +kernel
theorem dX12_fit_37 : decode cX12_fit 37 = .ok (.istore 7, 2) := by decide +kernel
theorem dX12_fit_39 : decode cX12_fit 39 = .ok (.iload 7, 2) := by decide +kernel
theorem dX12_fit_41 : decode cX12_fit 41 = .ok (.aload_n 0, 1) := by decide +kernel
theorem dX12_fit_42 : decode cX12_fit 42 = .ok (.getfield 20, 3) := by decide +kernel
theorem dX12_fit_45 : decode cX12_fit 45 = .ok (.iload 4, 2) := by decide +kernel
theorem dX12_fit_47 : decode cX12_fit 47 = .ok (.iaload, 1) := by decide +kernel
theorem dX12_fit_48 : decode cX12_fit 48 = .ok (.if_icmp .ge 39, 3) := by decide +kernel
theorem dX12_fit_51 : decode cX12_fit 51 = .ok (.aload_n 0, 1) := by decide +kernel
theorem dX12_fit_52 : decode cX12_fit 52 = .ok (.iload_n 1, 1) := by decide +kernel
theorem dX12_fit_53 : decode cX12_fit 53 = .ok (.iload_n 2, 1) := by decide +kernel
theorem dX12_fit_54 : decode cX12_fit 54 = .ok (.iload 4, 2) := by decide +kernel
theorem dX12_fit_56 : decode cX12_fit 56 = .ok (.iload 7, 2) := by decide +kernel
theorem dX12_fit_58 : decode cX12_fit 58 = .ok (.invokevirtual 272, 3) := by decide +kernel
theorem dX12_fit_61 : decode cX12_fit 61 = .ok (.iload_n 3, 1) := by decide +kernel
theorem dX12_fit_62 : decode cX12_fit 62 = .ok (.iand, 1) := by decide +kernel
theorem dX12_fit_63 : decode cX12_fit 63 = .ok (.iload_n 3, 1) := by decide +kernel
theorem dX12_fit_64 : decode cX12_fit 64 = .ok (.if_icmp .eq 6, 3) := by decide +kernel
theorem dX12_fit_67 : decode cX12_fit 67 = .ok (.goto 14, 3) := by decide +kernel
theorem dX12_fit_70 : decode cX12_fit 70 = .ok (.iload 6, 2) := by decide +kernel
theorem dX12_fit_72 : decode cX12_fit 72 = .ok (.ifCond .ne 6, 3) := by decide +kernel
theorem dX12_fit_75 : decode cX12_fit 75 = .ok (.iload 7, 2) := by decide +kernel
theorem dX12_fit_77 : decode cX12_fit 77 = .ok (.ireturn, 1) := by decide +kernel
theorem dX12_fit_78 : decode cX12_fit 78 = .ok (.iinc 6 (-1), 3) := by decide +kernel
theorem dX12_fit_81 : decode cX12_fit 81 = .ok (.iinc 7 1, 3) := by decide +kernel
theorem dX12_fit_84 : decode cX12_fit 84 = .ok (.goto (-45), 3) := by decide +kernel
theorem dX12_fit_87 : decode cX12_fit 87 = .ok (.iconst (-1), 1) := by decide +kernel
theorem dX12_fit_88 : decode cX12_fit 88 = .ok (.ireturn, 1) := by decide +kernel
theorem dX12_sample_0 : decode cX12_sample 0 = .ok (.aload_n 0, 1) := by decide +kernel
theorem dX12_sample_1 : decode cX12_sample 1 = .ok (.iload_n 1, 1) := by decide +kernel
theorem dX12_sample_2 : decode cX12_sample 2 = .ok (.iload_n 2, 1) := by decide +kernel
theorem dX12_sample_3 : decode cX12_sample 3 = .ok (.invokevirtual 185, 3) := by decide +kernel
theorem dX12_sample_6 : decode cX12_sample 6 = .ok (.ifCond .eq 12, 3) := by decide +kernel
theorem dX12_sample_9 : decode cX12_sample 9 = .ok (.aload_n 0, 1) := by decide +kernel
theorem dX12_sample_10 : decode cX12_sample 10 = .ok (.getfield 275, 3) := by decide +kernel
theorem dX12_sample_13 : decode cX12_sample 13 = .ok (.bipush 6, 2) := by decide +kernel
theorem dX12_sample_15 : decode cX12_sample 15 = .ok (.if_icmp .ne 5, 3) := by decide +kernel
theorem dX12_sample_18 : decode cX12_sample 18 = .ok (.iconst (-1), 1) := by decide +kernel
theorem dX12_sample_19 : decode cX12_sample 19 = .ok (.ireturn, 1) := by decide +kernel
theorem dX12_sample_20 : decode cX12_sample 20 = .ok (.aload_n 0, 1) := by decide +kernel
theorem dX12_sample_21 : decode cX12_sample 21 = .ok (.iload_n 1, 1) := by decide +kernel
theorem dX12_sample_22 : decode cX12_sample 22 = .ok (.iconst 4, 1) := by decide +kernel
theorem dX12_sample_23 : decode cX12_sample 23 = .ok (.aload_n 0, 1) := by decide +kernel
theorem dX12_sample_24 : decode cX12_sample 24 = .ok (.getfield 275, 3) := by decide +kernel
theorem dX12_sample_27 : decode cX12_sample 27 = .ok (.iadd, 1) := by decide +kernel
theorem dX12_sample_28 : decode cX12_sample 28 = .ok (.invokevirtual 180, 3) := by decide +kernel
theorem dX12_sample_31 : decode cX12_sample 31 = .ok (.aload_n 0, 1) := by decide +kernel
theorem dX12_sample_32 : decode cX12_sample 32 = .ok (.getfield 68, 3) := by decide +kernel
theorem dX12_sample_35 : decode cX12_sample 35 = .ok (.aload_n 0, 1) := by decide +kernel
theorem dX12_sample_36 : decode cX12_sample 36 = .ok (.getfield 275, 3) := by decide +kernel
theorem dX12_sample_39 : decode cX12_sample 39 = .ok (.iload_n 2, 1) := by decide +kernel
theorem dX12_sample_40 : decode cX12_sample 40 = .ok (.iastore, 1) := by decide +kernel
theorem dX12_sample_41 : decode cX12_sample 41 = .ok (.aload_n 0, 1) := by decide +kernel
theorem dX12_sample_42 : decode cX12_sample 42 = .ok (.dup, 1) := by decide +kernel
theorem dX12_sample_43 : decode cX12_sample 43 = .ok (.getfield 275, 3) := by decide +kernel
theorem dX12_sample_46 : decode cX12_sample 46 = .ok (.iconst 1, 1) := by decide +kernel
theorem dX12_sample_47 : decode cX12_sample 47 = .ok (.iadd, 1) := by decide +kernel
theorem dX12_sample_48 : decode cX12_sample 48 = .ok (.putfield 275, 3) := by decide +kernel
theorem dX12_sample_51 : decode cX12_sample 51 = .ok (.aload_n 0, 1) := by decide +kernel
theorem dX12_sample_52 : decode cX12_sample 52 = .ok (.getfield 275, 3) := by decide +kernel
theorem dX12_sample_55 : decode cX12_sample 55 = .ok (.ireturn, 1) := by decide +kernel
theorem dX12_forget_0 : decode cX12_forget 0 = .ok (.aload_n 0, 1) := by decide +kernel
theorem dX12_forget_1 : decode cX12_forget 1 = .ok (.getfield 275, 3) := by decide +kernel
theorem dX12_forget_4 : decode cX12_forget 4 = .ok (.istore_n 1, 1) := by decide +kernel
theorem dX12_forget_5 : decode cX12_forget 5 = .ok (.aload_n 0, 1) := by decide +kernel
theorem dX12_forget_6 : decode cX12_forget 6 = .ok (.iconst 0, 1) := by decide +kernel
theorem dX12_forget_7 : decode cX12_forget 7 = .ok (.putfield 275, 3) := by decide +kernel
theorem dX12_forget_10 : decode cX12_forget 10 = .ok (.iload_n 1, 1) := by decide +kernel
theorem dX12_forget_11 : decode cX12_forget 11 = .ok (.ireturn, 1) := by decide +kernel
theorem dX12_stays_0 : decode cX12_stays 0 = .ok (.aload_n 0, 1) := by decide +kernel
theorem dX12_stays_1 : decode cX12_stays 1 = .ok (.getfield 275, 3) := by decide +kernel
theorem dX12_stays_4 : decode cX12_stays 4 = .ok (.ifCond .ne 7, 3) := by decide +kernel
theorem dX12_stays_7 : decode cX12_stays 7 = .ok (.iconst 0, 1) := by decide +kernel
theorem dX12_stays_8 : decode cX12_stays 8 = .ok (.goto 6, 3) := by decide +kernel
theorem dX12_stays_11 : decode cX12_stays 11 = .ok (.sipush 255, 3) := by decide +kernel
theorem dX12_stays_14 : decode cX12_stays 14 = .ok (.istore_n 1, 1) := by decide +kernel
theorem dX12_stays_15 : decode cX12_stays 15 = .ok (.iconst 1, 1) := by decide +kernel
theorem dX12_stays_16 : decode cX12_stays 16 = .ok (.istore_n 2, 1) := by decide +kernel
theorem dX12_stays_17 : decode cX12_stays 17 = .ok (.iload_n 2, 1) := by decide +kernel
theorem dX12_stays_18 : decode cX12_stays 18 = .ok (.aload_n 0, 1) := by decide +kernel
theorem dX12_stays_19 : decode cX12_stays 19 = .ok (.getfield 275, 3) := by decide +kernel
theorem dX12_stays_22 : decode cX12_stays 22 = .ok (.if_icmp .ge 32, 3) := by decide +kernel
theorem dX12_stays_25 : decode cX12_stays 25 = .ok (.iload_n 1, 1) := by decide +kernel
theorem dX12_stays_26 : decode cX12_stays 26 = .ok (.aload_n 0, 1) := by decide +kernel
theorem dX12_stays_27 : decode cX12_stays 27 = .ok (.iconst 4, 1) := by decide +kernel
theorem dX12_stays_28 : decode cX12_stays 28 = .ok (.aload_n 0, 1) := by decide +kernel
theorem dX12_stays_29 : decode cX12_stays 29 = .ok (.getfield 68, 3) := by decide +kernel
theorem dX12_stays_32 : decode cX12_stays 32 = .ok (.iconst 0, 1) := by decide +kernel
theorem dX12_stays_33 : decode cX12_stays 33 = .ok (.iaload, 1) := by decide +kernel
theorem dX12_stays_34 : decode cX12_stays 34 = .ok (.iconst 4, 1) := by decide +kernel
theorem dX12_stays_35 : decode cX12_stays 35 = .ok (.iload_n 2, 1) := by decide +kernel
theorem dX12_stays_36 : decode cX12_stays 36 = .ok (.iadd, 1) := by decide +kernel
theorem dX12_stays_37 : decode cX12_stays 37 = .ok (.aload_n 0, 1) := by decide +kernel
theorem dX12_stays_38 : decode cX12_stays 38 = .ok (.getfield 68, 3) := by decide +kernel
theorem dX12_stays_41 : decode cX12_stays 41 = .ok (.iload_n 2, 1) := by decide +kernel
theorem dX12_stays_42 : decode cX12_stays 42 = .ok (.iaload, 1) := by decide +kernel
theorem dX12_stays_43 : decode cX12_stays 43 = .ok (.invokevirtual 272, 3) := by decide +kernel
theorem dX12_stays_46 : decode cX12_stays 46 = .ok (.iand, 1) := by decide +kernel
theorem dX12_stays_47 : decode cX12_stays 47 = .ok (.istore_n 1, 1) := by decide +kernel
theorem dX12_stays_48 : decode cX12_stays 48 = .ok (.iinc 2 1, 3) := by decide +kernel
theorem dX12_stays_51 : decode cX12_stays 51 = .ok (.goto (-34), 3) := by decide +kernel
theorem dX12_stays_54 : decode cX12_stays 54 = .ok (.iload_n 1, 1) := by decide +kernel
theorem dX12_stays_55 : decode cX12_stays 55 = .ok (.ireturn, 1) := by decide +kernel
theorem dX12_bitsOf_0 : decode cX12_bitsOf 0 = .ok (.iconst 0, 1) := by decide +kernel
theorem dX12_bitsOf_1 : decode cX12_bitsOf 1 = .ok (.istore_n 1, 1) := by decide +kernel
theorem dX12_bitsOf_2 : decode cX12_bitsOf 2 = .ok (.iconst 0, 1) := by decide +kernel
theorem dX12_bitsOf_3 : decode cX12_bitsOf 3 = .ok (.istore_n 2, 1) := by decide +kernel
theorem dX12_bitsOf_4 : decode cX12_bitsOf 4 = .ok (.iload_n 2, 1) := by decide +kernel
theorem dX12_bitsOf_5 : decode cX12_bitsOf 5 = .ok (.bipush 8, 2) := by decide +kernel
theorem dX12_bitsOf_7 : decode cX12_bitsOf 7 = .ok (.if_icmp .ge 17, 3) := by decide +kernel
theorem dX12_bitsOf_10 : decode cX12_bitsOf 10 = .ok (.iload_n 1, 1) := by decide +kernel
theorem dX12_bitsOf_11 : decode cX12_bitsOf 11 = .ok (.iload_n 0, 1) := by decide +kernel
theorem dX12_bitsOf_12 : decode cX12_bitsOf 12 = .ok (.iload_n 2, 1) := by decide +kernel
theorem dX12_bitsOf_13 : decode cX12_bitsOf 13 = .ok (.ishr, 1) := by decide +kernel
theorem dX12_bitsOf_14 : decode cX12_bitsOf 14 = .ok (.iconst 1, 1) := by decide +kernel
theorem dX12_bitsOf_15 : decode cX12_bitsOf 15 = .ok (.iand, 1) := by decide +kernel
theorem dX12_bitsOf_16 : decode cX12_bitsOf 16 = .ok (.iadd, 1) := by decide +kernel
theorem dX12_bitsOf_17 : decode cX12_bitsOf 17 = .ok (.istore_n 1, 1) := by decide +kernel
theorem dX12_bitsOf_18 : decode cX12_bitsOf 18 = .ok (.iinc 2 1, 3) := by decide +kernel
theorem dX12_bitsOf_21 : decode cX12_bitsOf 21 = .ok (.goto (-17), 3) := by decide +kernel
theorem dX12_bitsOf_24 : decode cX12_bitsOf 24 = .ok (.iload_n 1, 1) := by decide +kernel
theorem dX12_bitsOf_25 : decode cX12_bitsOf 25 = .ok (.ireturn, 1) := by decide +kernel
theorem dX12_lookAtSamples_0 : decode cX12_lookAtSamples 0 = .ok (.aload_n 0, 1) := by decide +kernel
theorem dX12_lookAtSamples_1 : decode cX12_lookAtSamples 1 = .ok (.iconst 0, 1) := by decide +kernel
theorem dX12_lookAtSamples_2 : decode cX12_lookAtSamples 2 = .ok (.putfield 278, 3) := by decide +kernel
theorem dX12_lookAtSamples_5 : decode cX12_lookAtSamples 5 = .ok (.iconst 0, 1) := by decide +kernel
theorem dX12_lookAtSamples_6 : decode cX12_lookAtSamples 6 = .ok (.istore_n 1, 1) := by decide +kernel
theorem dX12_lookAtSamples_7 : decode cX12_lookAtSamples 7 = .ok (.iload_n 1, 1) := by decide +kernel
theorem dX12_lookAtSamples_8 : decode cX12_lookAtSamples 8 = .ok (.aload_n 0, 1) := by decide +kernel
theorem dX12_lookAtSamples_9 : decode cX12_lookAtSamples 9 = .ok (.getfield 275, 3) := by decide +kernel
theorem dX12_lookAtSamples_12 : decode cX12_lookAtSamples 12 = .ok (.if_icmp .ge 78, 3) := by decide +kernel
theorem dX12_lookAtSamples_15 : decode cX12_lookAtSamples 15 = .ok (.iconst 0, 1) := by decide +kernel
theorem dX12_lookAtSamples_16 : decode cX12_lookAtSamples 16 = .ok (.istore_n 2, 1) := by decide +kernel
theorem dX12_lookAtSamples_17 : decode cX12_lookAtSamples 17 = .ok (.iload_n 2, 1) := by decide +kernel
theorem dX12_lookAtSamples_18 : decode cX12_lookAtSamples 18 = .ok (.aload_n 0, 1) := by decide +kernel
theorem dX12_lookAtSamples_19 : decode cX12_lookAtSamples 19 = .ok (.getfield 20, 3) := by decide +kernel
theorem dX12_lookAtSamples_22 : decode cX12_lookAtSamples 22 = .ok (.iconst 4, 1) := by decide +kernel
theorem dX12_lookAtSamples_23 : decode cX12_lookAtSamples 23 = .ok (.iload_n 1, 1) := by decide +kernel
theorem dX12_lookAtSamples_24 : decode cX12_lookAtSamples 24 = .ok (.iadd, 1) := by decide +kernel
theorem dX12_lookAtSamples_25 : decode cX12_lookAtSamples 25 = .ok (.iaload, 1) := by decide +kernel
theorem dX12_lookAtSamples_26 : decode cX12_lookAtSamples 26 = .ok (.if_icmp .ge 58, 3) := by decide +kernel
theorem dX12_lookAtSamples_29 : decode cX12_lookAtSamples 29 = .ok (.iload_n 2, 1) := by decide +kernel
theorem dX12_lookAtSamples_30 : decode cX12_lookAtSamples 30 = .ok (.aload_n 0, 1) := by decide +kernel
theorem dX12_lookAtSamples_31 : decode cX12_lookAtSamples 31 = .ok (.getfield 68, 3) := by decide +kernel
theorem dX12_lookAtSamples_34 : decode cX12_lookAtSamples 34 = .ok (.iload_n 1, 1) := by decide +kernel
theorem dX12_lookAtSamples_35 : decode cX12_lookAtSamples 35 = .ok (.iaload, 1) := by decide +kernel
theorem dX12_lookAtSamples_36 : decode cX12_lookAtSamples 36 = .ok (.if_icmp .ne 6, 3) := by decide +kernel
theorem dX12_lookAtSamples_39 : decode cX12_lookAtSamples 39 = .ok (.goto 39, 3) := by decide +kernel
theorem dX12_lookAtSamples_42 : decode cX12_lookAtSamples 42 = .ok (.aload_n 0, 1) := by decide +kernel
theorem dX12_lookAtSamples_43 : decode cX12_lookAtSamples 43 = .ok (.getfield 71, 3) := by decide +kernel
theorem dX12_lookAtSamples_46 : decode cX12_lookAtSamples 46 = .ok (.aload_n 0, 1) := by decide +kernel
theorem dX12_lookAtSamples_47 : decode cX12_lookAtSamples 47 = .ok (.getfield 278, 3) := by decide +kernel
theorem dX12_lookAtSamples_50 : decode cX12_lookAtSamples 50 = .ok (.aload_n 0, 1) := by decide +kernel
theorem dX12_lookAtSamples_51 : decode cX12_lookAtSamples 51 = .ok (.iconst 4, 1) := by decide +kernel
theorem dX12_lookAtSamples_52 : decode cX12_lookAtSamples 52 = .ok (.iload_n 1, 1) := by decide +kernel
theorem dX12_lookAtSamples_53 : decode cX12_lookAtSamples 53 = .ok (.iadd, 1) := by decide +kernel
theorem dX12_lookAtSamples_54 : decode cX12_lookAtSamples 54 = .ok (.aload_n 0, 1) := by decide +kernel
theorem dX12_lookAtSamples_55 : decode cX12_lookAtSamples 55 = .ok (.getfield 68, 3) := by decide +kernel
theorem dX12_lookAtSamples_58 : decode cX12_lookAtSamples 58 = .ok (.iload_n 1, 1) := by decide +kernel
theorem dX12_lookAtSamples_59 : decode cX12_lookAtSamples 59 = .ok (.iaload, 1) := by decide +kernel
theorem dX12_lookAtSamples_60 : decode cX12_lookAtSamples 60 = .ok (.iconst 4, 1) := by decide +kernel
theorem dX12_lookAtSamples_61 : decode cX12_lookAtSamples 61 = .ok (.iload_n 1, 1) := by decide +kernel
theorem dX12_lookAtSamples_62 : decode cX12_lookAtSamples 62 = .ok (.iadd, 1) := by decide +kernel
theorem dX12_lookAtSamples_63 : decode cX12_lookAtSamples 63 = .ok (.iload_n 2, 1) := by decide +kernel
theorem dX12_lookAtSamples_64 : decode cX12_lookAtSamples 64 = .ok (.invokevirtual 272, 3) := by decide +kernel
theorem dX12_lookAtSamples_67 : decode cX12_lookAtSamples 67 = .ok (.iastore, 1) := by decide +kernel
theorem dX12_lookAtSamples_68 : decode cX12_lookAtSamples 68 = .ok (.aload_n 0, 1) := by decide +kernel
theorem dX12_lookAtSamples_69 : decode cX12_lookAtSamples 69 = .ok (.dup, 1) := by decide +kernel
theorem dX12_lookAtSamples_70 : decode cX12_lookAtSamples 70 = .ok (.getfield 278, 3) := by decide +kernel
theorem dX12_lookAtSamples_73 : decode cX12_lookAtSamples 73 = .ok (.iconst 1, 1) := by decide +kernel
theorem dX12_lookAtSamples_74 : decode cX12_lookAtSamples 74 = .ok (.iadd, 1) := by decide +kernel
theorem dX12_lookAtSamples_75 : decode cX12_lookAtSamples 75 = .ok (.putfield 278, 3) := by decide +kernel
theorem dX12_lookAtSamples_78 : decode cX12_lookAtSamples 78 = .ok (.iinc 2 1, 3) := by decide +kernel
theorem dX12_lookAtSamples_81 : decode cX12_lookAtSamples 81 = .ok (.goto (-64), 3) := by decide +kernel
theorem dX12_lookAtSamples_84 : decode cX12_lookAtSamples 84 = .ok (.iinc 1 1, 3) := by decide +kernel
theorem dX12_lookAtSamples_87 : decode cX12_lookAtSamples 87 = .ok (.goto (-80), 3) := by decide +kernel
theorem dX12_lookAtSamples_90 : decode cX12_lookAtSamples 90 = .ok (.return_, 1) := by decide +kernel
theorem dX12_tells_0 : decode cX12_tells 0 = .ok (.iconst 0, 1) := by decide +kernel
theorem dX12_tells_1 : decode cX12_tells 1 = .ok (.istore_n 2, 1) := by decide +kernel
theorem dX12_tells_2 : decode cX12_tells 2 = .ok (.iload_n 2, 1) := by decide +kernel
theorem dX12_tells_3 : decode cX12_tells 3 = .ok (.aload_n 0, 1) := by decide +kernel
theorem dX12_tells_4 : decode cX12_tells 4 = .ok (.getfield 278, 3) := by decide +kernel
theorem dX12_tells_7 : decode cX12_tells 7 = .ok (.if_icmp .ge 23, 3) := by decide +kernel
theorem dX12_tells_10 : decode cX12_tells 10 = .ok (.aload_n 0, 1) := by decide +kernel
theorem dX12_tells_11 : decode cX12_tells 11 = .ok (.getfield 71, 3) := by decide +kernel
theorem dX12_tells_14 : decode cX12_tells 14 = .ok (.iload_n 2, 1) := by decide +kernel
theorem dX12_tells_15 : decode cX12_tells 15 = .ok (.iaload, 1) := by decide +kernel
theorem dX12_tells_16 : decode cX12_tells 16 = .ok (.iload_n 1, 1) := by decide +kernel
theorem dX12_tells_17 : decode cX12_tells 17 = .ok (.iand, 1) := by decide +kernel
theorem dX12_tells_18 : decode cX12_tells 18 = .ok (.iload_n 1, 1) := by decide +kernel
theorem dX12_tells_19 : decode cX12_tells 19 = .ok (.if_icmp .ne 5, 3) := by decide +kernel
theorem dX12_tells_22 : decode cX12_tells 22 = .ok (.iconst 0, 1) := by decide +kernel
theorem dX12_tells_23 : decode cX12_tells 23 = .ok (.ireturn, 1) := by decide +kernel
theorem dX12_tells_24 : decode cX12_tells 24 = .ok (.iinc 2 1, 3) := by decide +kernel
theorem dX12_tells_27 : decode cX12_tells 27 = .ok (.goto (-25), 3) := by decide +kernel
theorem dX12_tells_30 : decode cX12_tells 30 = .ok (.iconst 1, 1) := by decide +kernel
theorem dX12_tells_31 : decode cX12_tells 31 = .ok (.ireturn, 1) := by decide +kernel
theorem dX12_learnt_0 : decode cX12_learnt 0 = .ok (.aload_n 0, 1) := by decide +kernel
theorem dX12_learnt_1 : decode cX12_learnt 1 = .ok (.invokevirtual 281, 3) := by decide +kernel
theorem dX12_learnt_4 : decode cX12_learnt 4 = .ok (.istore_n 1, 1) := by decide +kernel
theorem dX12_learnt_5 : decode cX12_learnt 5 = .ok (.aload_n 0, 1) := by decide +kernel
theorem dX12_learnt_6 : decode cX12_learnt 6 = .ok (.invokevirtual 285, 3) := by decide +kernel
theorem dX12_learnt_9 : decode cX12_learnt 9 = .ok (.iconst 1, 1) := by decide +kernel
theorem dX12_learnt_10 : decode cX12_learnt 10 = .ok (.istore_n 2, 1) := by decide +kernel
theorem dX12_learnt_11 : decode cX12_learnt 11 = .ok (.iload_n 2, 1) := by decide +kernel
theorem dX12_learnt_12 : decode cX12_learnt 12 = .ok (.bipush 8, 2) := by decide +kernel
theorem dX12_learnt_14 : decode cX12_learnt 14 = .ok (.if_icmp .gt 49, 3) := by decide +kernel
theorem dX12_learnt_17 : decode cX12_learnt 17 = .ok (.iconst 1, 1) := by decide +kernel
theorem dX12_learnt_18 : decode cX12_learnt 18 = .ok (.istore_n 3, 1) := by decide +kernel
theorem dX12_learnt_19 : decode cX12_learnt 19 = .ok (.iload_n 3, 1) := by decide +kernel
theorem dX12_learnt_20 : decode cX12_learnt 20 = .ok (.sipush 256, 3) := by decide +kernel
theorem dX12_learnt_23 : decode cX12_learnt 23 = .ok (.if_icmp .ge 34, 3) := by decide +kernel
theorem dX12_learnt_26 : decode cX12_learnt 26 = .ok (.iload_n 3, 1) := by decide +kernel
theorem dX12_learnt_27 : decode cX12_learnt 27 = .ok (.invokestatic 288, 3) := by decide +kernel
theorem dX12_learnt_30 : decode cX12_learnt 30 = .ok (.iload_n 2, 1) := by decide +kernel
theorem dX12_learnt_31 : decode cX12_learnt 31 = .ok (.if_icmp .ne 20, 3) := by decide +kernel
theorem dX12_learnt_34 : decode cX12_learnt 34 = .ok (.iload_n 3, 1) := by decide +kernel
theorem dX12_learnt_35 : decode cX12_learnt 35 = .ok (.iload_n 1, 1) := by decide +kernel
theorem dX12_learnt_36 : decode cX12_learnt 36 = .ok (.iand, 1) := by decide +kernel
theorem dX12_learnt_37 : decode cX12_learnt 37 = .ok (.iload_n 3, 1) := by decide +kernel
theorem dX12_learnt_38 : decode cX12_learnt 38 = .ok (.if_icmp .ne 13, 3) := by decide +kernel
theorem dX12_learnt_41 : decode cX12_learnt 41 = .ok (.aload_n 0, 1) := by decide +kernel
theorem dX12_learnt_42 : decode cX12_learnt 42 = .ok (.iload_n 3, 1) := by decide +kernel
theorem dX12_learnt_43 : decode cX12_learnt 43 = .ok (.invokevirtual 291, 3) := by decide +kernel
theorem dX12_learnt_46 : decode cX12_learnt 46 = .ok (.ifCond .eq 5, 3) := by decide +kernel
theorem dX12_learnt_49 : decode cX12_learnt 49 = .ok (.iload_n 3, 1) := by decide +kernel
theorem dX12_learnt_50 : decode cX12_learnt 50 = .ok (.ireturn, 1) := by decide +kernel
theorem dX12_learnt_51 : decode cX12_learnt 51 = .ok (.iinc 3 1, 3) := by decide +kernel
theorem dX12_learnt_54 : decode cX12_learnt 54 = .ok (.goto (-35), 3) := by decide +kernel
theorem dX12_learnt_57 : decode cX12_learnt 57 = .ok (.iinc 2 1, 3) := by decide +kernel
theorem dX12_learnt_60 : decode cX12_learnt 60 = .ok (.goto (-49), 3) := by decide +kernel
theorem dX12_learnt_63 : decode cX12_learnt 63 = .ok (.iconst (-1), 1) := by decide +kernel
theorem dX12_learnt_64 : decode cX12_learnt 64 = .ok (.ireturn, 1) := by decide +kernel
theorem dX12_seen_0 : decode cX12_seen 0 = .ok (.aload_n 0, 1) := by decide +kernel
theorem dX12_seen_1 : decode cX12_seen 1 = .ok (.invokevirtual 294, 3) := by decide +kernel
theorem dX12_seen_4 : decode cX12_seen 4 = .ok (.istore_n 2, 1) := by decide +kernel
theorem dX12_seen_5 : decode cX12_seen 5 = .ok (.iload_n 2, 1) := by decide +kernel
theorem dX12_seen_6 : decode cX12_seen 6 = .ok (.ifCond .lt 11, 3) := by decide +kernel
theorem dX12_seen_9 : decode cX12_seen 9 = .ok (.aload_n 0, 1) := by decide +kernel
theorem dX12_seen_10 : decode cX12_seen 10 = .ok (.iload_n 1, 1) := by decide +kernel
theorem dX12_seen_11 : decode cX12_seen 11 = .ok (.invokevirtual 235, 3) := by decide +kernel
theorem dX12_seen_14 : decode cX12_seen 14 = .ok (.ifCond .ne 5, 3) := by decide +kernel
theorem dX12_seen_17 : decode cX12_seen 17 = .ok (.iconst (-1), 1) := by decide +kernel
theorem dX12_seen_18 : decode cX12_seen 18 = .ok (.ireturn, 1) := by decide +kernel
theorem dX12_seen_19 : decode cX12_seen 19 = .ok (.bipush (-3), 2) := by decide +kernel
theorem dX12_seen_21 : decode cX12_seen 21 = .ok (.istore_n 3, 1) := by decide +kernel
theorem dX12_seen_22 : decode cX12_seen 22 = .ok (.iconst 0, 1) := by decide +kernel
theorem dX12_seen_23 : decode cX12_seen 23 = .ok (.istore 4, 2) := by decide +kernel
theorem dX12_seen_25 : decode cX12_seen 25 = .ok (.iload 4, 2) := by decide +kernel
theorem dX12_seen_27 : decode cX12_seen 27 = .ok (.aload_n 0, 1) := by decide +kernel
theorem dX12_seen_28 : decode cX12_seen 28 = .ok (.getfield 20, 3) := by decide +kernel
theorem dX12_seen_31 : decode cX12_seen 31 = .ok (.iload_n 1, 1) := by decide +kernel
theorem dX12_seen_32 : decode cX12_seen 32 = .ok (.iaload, 1) := by decide +kernel
theorem dX12_seen_33 : decode cX12_seen 33 = .ok (.if_icmp .ge 43, 3) := by decide +kernel
theorem dX12_seen_36 : decode cX12_seen 36 = .ok (.aload_n 0, 1) := by decide +kernel
theorem dX12_seen_37 : decode cX12_seen 37 = .ok (.iconst 4, 1) := by decide +kernel
theorem dX12_seen_38 : decode cX12_seen 38 = .ok (.aload_n 0, 1) := by decide +kernel
theorem dX12_seen_39 : decode cX12_seen 39 = .ok (.getfield 68, 3) := by decide +kernel
theorem dX12_seen_42 : decode cX12_seen 42 = .ok (.iconst 0, 1) := by decide +kernel
theorem dX12_seen_43 : decode cX12_seen 43 = .ok (.iaload, 1) := by decide +kernel
theorem dX12_seen_44 : decode cX12_seen 44 = .ok (.iload_n 1, 1) := by decide +kernel
theorem dX12_seen_45 : decode cX12_seen 45 = .ok (.iload 4, 2) := by decide +kernel
theorem dX12_seen_47 : decode cX12_seen 47 = .ok (.invokevirtual 272, 3) := by decide +kernel
theorem dX12_seen_50 : decode cX12_seen 50 = .ok (.iload_n 2, 1) := by decide +kernel
theorem dX12_seen_51 : decode cX12_seen 51 = .ok (.iand, 1) := by decide +kernel
theorem dX12_seen_52 : decode cX12_seen 52 = .ok (.iload_n 2, 1) := by decide +kernel
theorem dX12_seen_53 : decode cX12_seen 53 = .ok (.if_icmp .ne 17, 3) := by decide +kernel
theorem dX12_seen_56 : decode cX12_seen 56 = .ok (.iload_n 3, 1) := by decide +kernel
theorem dX12_seen_57 : decode cX12_seen 57 = .ok (.bipush (-3), 2) := by decide +kernel
theorem dX12_seen_59 : decode cX12_seen 59 = .ok (.if_icmp .ne 8, 3) := by decide +kernel
theorem dX12_seen_62 : decode cX12_seen 62 = .ok (.iload 4, 2) := by decide +kernel
theorem dX12_seen_64 : decode cX12_seen 64 = .ok (.goto 5, 3) := by decide +kernel
theorem dX12_seen_67 : decode cX12_seen 67 = .ok (.bipush (-2), 2) := by decide +kernel
theorem dX12_seen_69 : decode cX12_seen 69 = .ok (.istore_n 3, 1) := by decide +kernel
theorem dX12_seen_70 : decode cX12_seen 70 = .ok (.iinc 4 1, 3) := by decide +kernel
theorem dX12_seen_73 : decode cX12_seen 73 = .ok (.goto (-48), 3) := by decide +kernel
theorem dX12_seen_76 : decode cX12_seen 76 = .ok (.iload_n 3, 1) := by decide +kernel
theorem dX12_seen_77 : decode cX12_seen 77 = .ok (.ireturn, 1) := by decide +kernel
theorem dX12_lay_0 : decode cX12_lay 0 = .ok (.aload_n 0, 1) := by decide +kernel
theorem dX12_lay_1 : decode cX12_lay 1 = .ok (.getfield 33, 3) := by decide +kernel
theorem dX12_lay_4 : decode cX12_lay 4 = .ok (.iload_n 2, 1) := by decide +kernel
theorem dX12_lay_5 : decode cX12_lay 5 = .ok (.iload_n 3, 1) := by decide +kernel
theorem dX12_lay_6 : decode cX12_lay 6 = .ok (.invokestatic 151, 3) := by decide +kernel
theorem dX12_lay_9 : decode cX12_lay 9 = .ok (.iaload, 1) := by decide +kernel
theorem dX12_lay_10 : decode cX12_lay 10 = .ok (.iconst 1, 1) := by decide +kernel
theorem dX12_lay_11 : decode cX12_lay 11 = .ok (.iadd, 1) := by decide +kernel
theorem dX12_lay_12 : decode cX12_lay 12 = .ok (.istore 5, 2) := by decide +kernel
theorem dX12_lay_14 : decode cX12_lay 14 = .ok (.aload_n 0, 1) := by decide +kernel
theorem dX12_lay_15 : decode cX12_lay 15 = .ok (.getfield 33, 3) := by decide +kernel
theorem dX12_lay_18 : decode cX12_lay 18 = .ok (.iload_n 2, 1) := by decide +kernel
theorem dX12_lay_19 : decode cX12_lay 19 = .ok (.iload 4, 2) := by decide +kernel
theorem dX12_lay_21 : decode cX12_lay 21 = .ok (.invokestatic 151, 3) := by decide +kernel
theorem dX12_lay_24 : decode cX12_lay 24 = .ok (.iaload, 1) := by decide +kernel
theorem dX12_lay_25 : decode cX12_lay 25 = .ok (.iconst 1, 1) := by decide +kernel
theorem dX12_lay_26 : decode cX12_lay 26 = .ok (.iadd, 1) := by decide +kernel
theorem dX12_lay_27 : decode cX12_lay 27 = .ok (.iload 5, 2) := by decide +kernel
theorem dX12_lay_29 : decode cX12_lay 29 = .ok (.if_icmp .ne 9, 3) := by decide +kernel
theorem dX12_lay_32 : decode cX12_lay 32 = .ok (.iload_n 3, 1) := by decide +kernel
theorem dX12_lay_33 : decode cX12_lay 33 = .ok (.iload 4, 2) := by decide +kernel
theorem dX12_lay_35 : decode cX12_lay 35 = .ok (.if_icmp .ne 5, 3) := by decide +kernel
theorem dX12_lay_38 : decode cX12_lay 38 = .ok (.iconst 0, 1) := by decide +kernel
theorem dX12_lay_39 : decode cX12_lay 39 = .ok (.ireturn, 1) := by decide +kernel
theorem dX12_lay_40 : decode cX12_lay 40 = .ok (.iload_n 3, 1) := by decide +kernel
theorem dX12_lay_41 : decode cX12_lay 41 = .ok (.istore 6, 2) := by decide +kernel
theorem dX12_lay_43 : decode cX12_lay 43 = .ok (.iload 4, 2) := by decide +kernel
theorem dX12_lay_45 : decode cX12_lay 45 = .ok (.istore 7, 2) := by decide +kernel
theorem dX12_lay_47 : decode cX12_lay 47 = .ok (.iconst 0, 1) := by decide +kernel
theorem dX12_lay_48 : decode cX12_lay 48 = .ok (.istore 8, 2) := by decide +kernel
theorem dX12_lay_50 : decode cX12_lay 50 = .ok (.iload 5, 2) := by decide +kernel
theorem dX12_lay_52 : decode cX12_lay 52 = .ok (.iconst 1, 1) := by decide +kernel
theorem dX12_lay_53 : decode cX12_lay 53 = .ok (.isub, 1) := by decide +kernel
theorem dX12_lay_54 : decode cX12_lay 54 = .ok (.istore 9, 2) := by decide +kernel
theorem dX12_lay_56 : decode cX12_lay 56 = .ok (.iload 9, 2) := by decide +kernel
theorem dX12_lay_58 : decode cX12_lay 58 = .ok (.ifCond .lt 225, 3) := by decide +kernel
theorem dX12_lay_61 : decode cX12_lay 61 = .ok (.iload_n 2, 1) := by decide +kernel
theorem dX12_lay_62 : decode cX12_lay 62 = .ok (.iload 6, 2) := by decide +kernel
theorem dX12_lay_64 : decode cX12_lay 64 = .ok (.invokestatic 151, 3) := by decide +kernel
theorem dX12_lay_67 : decode cX12_lay 67 = .ok (.istore 10, 2) := by decide +kernel
theorem dX12_lay_69 : decode cX12_lay 69 = .ok (.iload_n 2, 1) := by decide +kernel
theorem dX12_lay_70 : decode cX12_lay 70 = .ok (.iload 7, 2) := by decide +kernel
theorem dX12_lay_72 : decode cX12_lay 72 = .ok (.invokestatic 151, 3) := by decide +kernel
theorem dX12_lay_75 : decode cX12_lay 75 = .ok (.istore 11, 2) := by decide +kernel
theorem dX12_lay_77 : decode cX12_lay 77 = .ok (.aload_n 0, 1) := by decide +kernel
theorem dX12_lay_78 : decode cX12_lay 78 = .ok (.getfield 42, 3) := by decide +kernel
theorem dX12_lay_81 : decode cX12_lay 81 = .ok (.iload 10, 2) := by decide +kernel
theorem dX12_lay_83 : decode cX12_lay 83 = .ok (.laload, 1) := by decide +kernel
theorem dX12_lay_84 : decode cX12_lay 84 = .ok (.aload_n 0, 1) := by decide +kernel
theorem dX12_lay_85 : decode cX12_lay 85 = .ok (.getfield 42, 3) := by decide +kernel
theorem dX12_lay_88 : decode cX12_lay 88 = .ok (.iload 11, 2) := by decide +kernel
theorem dX12_lay_90 : decode cX12_lay 90 = .ok (.laload, 1) := by decide +kernel
theorem dX12_lay_91 : decode cX12_lay 91 = .ok (.lcmp, 1) := by decide +kernel
theorem dX12_lay_92 : decode cX12_lay 92 = .ok (.ifCond .eq 5, 3) := by decide +kernel
theorem dX12_lay_95 : decode cX12_lay 95 = .ok (.iconst 0, 1) := by decide +kernel
theorem dX12_lay_96 : decode cX12_lay 96 = .ok (.ireturn, 1) := by decide +kernel
theorem dX12_lay_97 : decode cX12_lay 97 = .ok (.aload_n 0, 1) := by decide +kernel
theorem dX12_lay_98 : decode cX12_lay 98 = .ok (.getfield 74, 3) := by decide +kernel
theorem dX12_lay_101 : decode cX12_lay 101 = .ok (.bipush 12, 2) := by decide +kernel
theorem dX12_lay_103 : decode cX12_lay 103 = .ok (.iload_n 1, 1) := by decide +kernel
theorem dX12_lay_104 : decode cX12_lay 104 = .ok (.imul, 1) := by decide +kernel
theorem dX12_lay_105 : decode cX12_lay 105 = .ok (.iload 9, 2) := by decide +kernel
theorem dX12_lay_107 : decode cX12_lay 107 = .ok (.iadd, 1) := by decide +kernel
theorem dX12_lay_108 : decode cX12_lay 108 = .ok (.aload_n 0, 1) := by decide +kernel
theorem dX12_lay_109 : decode cX12_lay 109 = .ok (.getfield 42, 3) := by decide +kernel
theorem dX12_lay_112 : decode cX12_lay 112 = .ok (.iload 10, 2) := by decide +kernel
theorem dX12_lay_114 : decode cX12_lay 114 = .ok (.laload, 1) := by decide +kernel
theorem dX12_lay_115 : decode cX12_lay 115 = .ok (.lastore, 1) := by decide +kernel
theorem dX12_lay_116 : decode cX12_lay 116 = .ok (.aload_n 0, 1) := by decide +kernel
theorem dX12_lay_117 : decode cX12_lay 117 = .ok (.getfield 77, 3) := by decide +kernel
theorem dX12_lay_120 : decode cX12_lay 120 = .ok (.bipush 12, 2) := by decide +kernel
theorem dX12_lay_122 : decode cX12_lay 122 = .ok (.iload_n 1, 1) := by decide +kernel
theorem dX12_lay_123 : decode cX12_lay 123 = .ok (.imul, 1) := by decide +kernel
theorem dX12_lay_124 : decode cX12_lay 124 = .ok (.iload 9, 2) := by decide +kernel
theorem dX12_lay_126 : decode cX12_lay 126 = .ok (.iadd, 1) := by decide +kernel
theorem dX12_lay_127 : decode cX12_lay 127 = .ok (.aload_n 0, 1) := by decide +kernel
theorem dX12_lay_128 : decode cX12_lay 128 = .ok (.getfield 30, 3) := by decide +kernel
theorem dX12_lay_131 : decode cX12_lay 131 = .ok (.iload 10, 2) := by decide +kernel
theorem dX12_lay_133 : decode cX12_lay 133 = .ok (.iaload, 1) := by decide +kernel
theorem dX12_lay_134 : decode cX12_lay 134 = .ok (.iastore, 1) := by decide +kernel
theorem dX12_lay_135 : decode cX12_lay 135 = .ok (.aload_n 0, 1) := by decide +kernel
theorem dX12_lay_136 : decode cX12_lay 136 = .ok (.getfield 30, 3) := by decide +kernel
theorem dX12_lay_139 : decode cX12_lay 139 = .ok (.iload 10, 2) := by decide +kernel
theorem dX12_lay_141 : decode cX12_lay 141 = .ok (.iaload, 1) := by decide +kernel
theorem dX12_lay_142 : decode cX12_lay 142 = .ok (.aload_n 0, 1) := by decide +kernel
theorem dX12_lay_143 : decode cX12_lay 143 = .ok (.getfield 30, 3) := by decide +kernel
theorem dX12_lay_146 : decode cX12_lay 146 = .ok (.iload 11, 2) := by decide +kernel
theorem dX12_lay_148 : decode cX12_lay 148 = .ok (.iaload, 1) := by decide +kernel
theorem dX12_lay_149 : decode cX12_lay 149 = .ok (.if_icmp .eq 110, 3) := by decide +kernel
theorem dX12_lay_152 : decode cX12_lay 152 = .ok (.iinc 8 1, 3) := by decide +kernel
theorem dX12_lay_155 : decode cX12_lay 155 = .ok (.aload_n 0, 1) := by decide +kernel
theorem dX12_lay_156 : decode cX12_lay 156 = .ok (.getfield 83, 3) := by decide +kernel
theorem dX12_lay_159 : decode cX12_lay 159 = .ok (.iload_n 1, 1) := by decide +kernel
theorem dX12_lay_160 : decode cX12_lay 160 = .ok (.iload 9, 2) := by decide +kernel
theorem dX12_lay_162 : decode cX12_lay 162 = .ok (.iastore, 1) := by decide +kernel
theorem dX12_lay_163 : decode cX12_lay 163 = .ok (.aload_n 0, 1) := by decide +kernel
theorem dX12_lay_164 : decode cX12_lay 164 = .ok (.getfield 86, 3) := by decide +kernel
theorem dX12_lay_167 : decode cX12_lay 167 = .ok (.iload_n 1, 1) := by decide +kernel
theorem dX12_lay_168 : decode cX12_lay 168 = .ok (.aload_n 0, 1) := by decide +kernel
theorem dX12_lay_169 : decode cX12_lay 169 = .ok (.getfield 30, 3) := by decide +kernel
theorem dX12_lay_172 : decode cX12_lay 172 = .ok (.iload 10, 2) := by decide +kernel
theorem dX12_lay_174 : decode cX12_lay 174 = .ok (.iaload, 1) := by decide +kernel
theorem dX12_lay_175 : decode cX12_lay 175 = .ok (.aload_n 0, 1) := by decide +kernel
theorem dX12_lay_176 : decode cX12_lay 176 = .ok (.getfield 30, 3) := by decide +kernel
theorem dX12_lay_179 : decode cX12_lay 179 = .ok (.iload 11, 2) := by decide +kernel
theorem dX12_lay_181 : decode cX12_lay 181 = .ok (.iaload, 1) := by decide +kernel
theorem dX12_lay_182 : decode cX12_lay 182 = .ok (.if_icmp .ge 13, 3) := by decide +kernel
theorem dX12_lay_185 : decode cX12_lay 185 = .ok (.aload_n 0, 1) := by decide +kernel
theorem dX12_lay_186 : decode cX12_lay 186 = .ok (.getfield 30, 3) := by decide +kernel
theorem dX12_lay_189 : decode cX12_lay 189 = .ok (.iload 10, 2) := by decide +kernel
theorem dX12_lay_191 : decode cX12_lay 191 = .ok (.iaload, 1) := by decide +kernel
theorem dX12_lay_192 : decode cX12_lay 192 = .ok (.goto 10, 3) := by decide +kernel
theorem dX12_lay_195 : decode cX12_lay 195 = .ok (.aload_n 0, 1) := by decide +kernel
theorem dX12_lay_196 : decode cX12_lay 196 = .ok (.getfield 30, 3) := by decide +kernel
theorem dX12_lay_199 : decode cX12_lay 199 = .ok (.iload 11, 2) := by decide +kernel
theorem dX12_lay_201 : decode cX12_lay 201 = .ok (.iaload, 1) := by decide +kernel
theorem dX12_lay_202 : decode cX12_lay 202 = .ok (.iastore, 1) := by decide +kernel
theorem dX12_lay_203 : decode cX12_lay 203 = .ok (.aload_n 0, 1) := by decide +kernel
theorem dX12_lay_204 : decode cX12_lay 204 = .ok (.getfield 89, 3) := by decide +kernel
theorem dX12_lay_207 : decode cX12_lay 207 = .ok (.iload_n 1, 1) := by decide +kernel
theorem dX12_lay_208 : decode cX12_lay 208 = .ok (.aload_n 0, 1) := by decide +kernel
theorem dX12_lay_209 : decode cX12_lay 209 = .ok (.getfield 30, 3) := by decide +kernel
theorem dX12_lay_212 : decode cX12_lay 212 = .ok (.iload 10, 2) := by decide +kernel
theorem dX12_lay_214 : decode cX12_lay 214 = .ok (.iaload, 1) := by decide +kernel
theorem dX12_lay_215 : decode cX12_lay 215 = .ok (.aload_n 0, 1) := by decide +kernel
theorem dX12_lay_216 : decode cX12_lay 216 = .ok (.getfield 30, 3) := by decide +kernel
theorem dX12_lay_219 : decode cX12_lay 219 = .ok (.iload 11, 2) := by decide +kernel
theorem dX12_lay_221 : decode cX12_lay 221 = .ok (.iaload, 1) := by decide +kernel
theorem dX12_lay_222 : decode cX12_lay 222 = .ok (.if_icmp .ge 21, 3) := by decide +kernel
theorem dX12_lay_225 : decode cX12_lay 225 = .ok (.aload_n 0, 1) := by decide +kernel
theorem dX12_lay_226 : decode cX12_lay 226 = .ok (.getfield 30, 3) := by decide +kernel
theorem dX12_lay_229 : decode cX12_lay 229 = .ok (.iload 11, 2) := by decide +kernel
theorem dX12_lay_231 : decode cX12_lay 231 = .ok (.iaload, 1) := by decide +kernel
theorem dX12_lay_232 : decode cX12_lay 232 = .ok (.aload_n 0, 1) := by decide +kernel
theorem dX12_lay_233 : decode cX12_lay 233 = .ok (.getfield 30, 3) := by decide +kernel
theorem dX12_lay_236 : decode cX12_lay 236 = .ok (.iload 10, 2) := by decide +kernel
theorem dX12_lay_238 : decode cX12_lay 238 = .ok (.iaload, 1) := by decide +kernel
theorem dX12_lay_239 : decode cX12_lay 239 = .ok (.isub, 1) := by decide +kernel
theorem dX12_lay_240 : decode cX12_lay 240 = .ok (.goto 18, 3) := by decide +kernel
theorem dX12_lay_243 : decode cX12_lay 243 = .ok (.aload_n 0, 1) := by decide +kernel
theorem dX12_lay_244 : decode cX12_lay 244 = .ok (.getfield 30, 3) := by decide +kernel
theorem dX12_lay_247 : decode cX12_lay 247 = .ok (.iload 10, 2) := by decide +kernel
theorem dX12_lay_249 : decode cX12_lay 249 = .ok (.iaload, 1) := by decide +kernel
theorem dX12_lay_250 : decode cX12_lay 250 = .ok (.aload_n 0, 1) := by decide +kernel
theorem dX12_lay_251 : decode cX12_lay 251 = .ok (.getfield 30, 3) := by decide +kernel
theorem dX12_lay_254 : decode cX12_lay 254 = .ok (.iload 11, 2) := by decide +kernel
theorem dX12_lay_256 : decode cX12_lay 256 = .ok (.iaload, 1) := by decide +kernel
theorem dX12_lay_257 : decode cX12_lay 257 = .ok (.isub, 1) := by decide +kernel
theorem dX12_lay_258 : decode cX12_lay 258 = .ok (.iastore, 1) := by decide +kernel
theorem dX12_lay_259 : decode cX12_lay 259 = .ok (.aload_n 0, 1) := by decide +kernel
theorem dX12_lay_260 : decode cX12_lay 260 = .ok (.getfield 24, 3) := by decide +kernel
theorem dX12_lay_263 : decode cX12_lay 263 = .ok (.iload 10, 2) := by decide +kernel
theorem dX12_lay_265 : decode cX12_lay 265 = .ok (.iaload, 1) := by decide +kernel
theorem dX12_lay_266 : decode cX12_lay 266 = .ok (.istore 6, 2) := by decide +kernel
theorem dX12_lay_268 : decode cX12_lay 268 = .ok (.aload_n 0, 1) := by decide +kernel
theorem dX12_lay_269 : decode cX12_lay 269 = .ok (.getfield 24, 3) := by decide +kernel
theorem dX12_lay_272 : decode cX12_lay 272 = .ok (.iload 11, 2) := by decide +kernel
theorem dX12_lay_274 : decode cX12_lay 274 = .ok (.iaload, 1) := by decide +kernel
theorem dX12_lay_275 : decode cX12_lay 275 = .ok (.istore 7, 2) := by decide +kernel
theorem dX12_lay_277 : decode cX12_lay 277 = .ok (.iinc 9 (-1), 3) := by decide +kernel
theorem dX12_lay_280 : decode cX12_lay 280 = .ok (.goto (-224), 3) := by decide +kernel
theorem dX12_lay_283 : decode cX12_lay 283 = .ok (.aload_n 0, 1) := by decide +kernel
theorem dX12_lay_284 : decode cX12_lay 284 = .ok (.getfield 80, 3) := by decide +kernel
theorem dX12_lay_287 : decode cX12_lay 287 = .ok (.iload_n 1, 1) := by decide +kernel
theorem dX12_lay_288 : decode cX12_lay 288 = .ok (.iload 5, 2) := by decide +kernel
theorem dX12_lay_290 : decode cX12_lay 290 = .ok (.iastore, 1) := by decide +kernel
theorem dX12_lay_291 : decode cX12_lay 291 = .ok (.iload 8, 2) := by decide +kernel
theorem dX12_lay_293 : decode cX12_lay 293 = .ok (.iconst 1, 1) := by decide +kernel
theorem dX12_lay_294 : decode cX12_lay 294 = .ok (.if_icmp .ne 7, 3) := by decide +kernel
theorem dX12_lay_297 : decode cX12_lay 297 = .ok (.iconst 1, 1) := by decide +kernel
theorem dX12_lay_298 : decode cX12_lay 298 = .ok (.goto 4, 3) := by decide +kernel
theorem dX12_lay_301 : decode cX12_lay 301 = .ok (.iconst 0, 1) := by decide +kernel
theorem dX12_lay_302 : decode cX12_lay 302 = .ok (.ireturn, 1) := by decide +kernel
theorem dX12_rowOf_0 : decode cX12_rowOf 0 = .ok (.iconst 0, 1) := by decide +kernel
theorem dX12_rowOf_1 : decode cX12_rowOf 1 = .ok (.istore 4, 2) := by decide +kernel
theorem dX12_rowOf_3 : decode cX12_rowOf 3 = .ok (.aload_n 0, 1) := by decide +kernel
theorem dX12_rowOf_4 : decode cX12_rowOf 4 = .ok (.getfield 80, 3) := by decide +kernel
theorem dX12_rowOf_7 : decode cX12_rowOf 7 = .ok (.iload_n 1, 1) := by decide +kernel
theorem dX12_rowOf_8 : decode cX12_rowOf 8 = .ok (.iaload, 1) := by decide +kernel
theorem dX12_rowOf_9 : decode cX12_rowOf 9 = .ok (.istore 5, 2) := by decide +kernel
theorem dX12_rowOf_11 : decode cX12_rowOf 11 = .ok (.aload_n 0, 1) := by decide +kernel
theorem dX12_rowOf_12 : decode cX12_rowOf 12 = .ok (.getfield 20, 3) := by decide +kernel
theorem dX12_rowOf_15 : decode cX12_rowOf 15 = .ok (.iload_n 2, 1) := by decide +kernel
theorem dX12_rowOf_16 : decode cX12_rowOf 16 = .ok (.iaload, 1) := by decide +kernel
theorem dX12_rowOf_17 : decode cX12_rowOf 17 = .ok (.ifCond .eq 38, 3) := by decide +kernel
theorem dX12_rowOf_20 : decode cX12_rowOf 20 = .ok (.aload_n 0, 1) := by decide +kernel
theorem dX12_rowOf_21 : decode cX12_rowOf 21 = .ok (.getfield 42, 3) := by decide +kernel
theorem dX12_rowOf_24 : decode cX12_rowOf 24 = .ok (.iload_n 2, 1) := by decide +kernel
theorem dX12_rowOf_25 : decode cX12_rowOf 25 = .ok (.iconst 0, 1) := by decide +kernel
theorem dX12_rowOf_26 : decode cX12_rowOf 26 = .ok (.invokestatic 151, 3) := by decide +kernel
theorem dX12_rowOf_29 : decode cX12_rowOf 29 = .ok (.laload, 1) := by decide +kernel
theorem dX12_rowOf_30 : decode cX12_rowOf 30 = .ok (.aload_n 0, 1) := by decide +kernel
theorem dX12_rowOf_31 : decode cX12_rowOf 31 = .ok (.getfield 74, 3) := by decide +kernel
theorem dX12_rowOf_34 : decode cX12_rowOf 34 = .ok (.bipush 12, 2) := by decide +kernel
theorem dX12_rowOf_36 : decode cX12_rowOf 36 = .ok (.iload_n 1, 1) := by decide +kernel
theorem dX12_rowOf_37 : decode cX12_rowOf 37 = .ok (.imul, 1) := by decide +kernel
theorem dX12_rowOf_38 : decode cX12_rowOf 38 = .ok (.laload, 1) := by decide +kernel
theorem dX12_rowOf_39 : decode cX12_rowOf 39 = .ok (.lcmp, 1) := by decide +kernel
theorem dX12_rowOf_40 : decode cX12_rowOf 40 = .ok (.ifCond .ne 15, 3) := by decide +kernel
theorem dX12_rowOf_43 : decode cX12_rowOf 43 = .ok (.aload_n 0, 1) := by decide +kernel
theorem dX12_rowOf_44 : decode cX12_rowOf 44 = .ok (.getfield 77, 3) := by decide +kernel
theorem dX12_rowOf_47 : decode cX12_rowOf 47 = .ok (.bipush 12, 2) := by decide +kernel
theorem dX12_rowOf_49 : decode cX12_rowOf 49 = .ok (.iload_n 1, 1) := by decide +kernel
theorem dX12_rowOf_50 : decode cX12_rowOf 50 = .ok (.imul, 1) := by decide +kernel
theorem dX12_rowOf_51 : decode cX12_rowOf 51 = .ok (.iaload, 1) := by decide +kernel
theorem dX12_rowOf_52 : decode cX12_rowOf 52 = .ok (.ifCond .eq 5, 3) := by decide +kernel
theorem dX12_rowOf_55 : decode cX12_rowOf 55 = .ok (.iconst (-1), 1) := by decide +kernel
theorem dX12_rowOf_56 : decode cX12_rowOf 56 = .ok (.ireturn, 1) := by decide +kernel
theorem dX12_rowOf_57 : decode cX12_rowOf 57 = .ok (.aload_n 0, 1) := by decide +kernel
theorem dX12_rowOf_58 : decode cX12_rowOf 58 = .ok (.getfield 83, 3) := by decide +kernel
theorem dX12_rowOf_61 : decode cX12_rowOf 61 = .ok (.iload_n 1, 1) := by decide +kernel
theorem dX12_rowOf_62 : decode cX12_rowOf 62 = .ok (.iaload, 1) := by decide +kernel
theorem dX12_rowOf_63 : decode cX12_rowOf 63 = .ok (.ifCond .ne 5, 3) := by decide +kernel
theorem dX12_rowOf_66 : decode cX12_rowOf 66 = .ok (.iconst (-1), 1) := by decide +kernel
theorem dX12_rowOf_67 : decode cX12_rowOf 67 = .ok (.ireturn, 1) := by decide +kernel
theorem dX12_rowOf_68 : decode cX12_rowOf 68 = .ok (.iconst 1, 1) := by decide +kernel
theorem dX12_rowOf_69 : decode cX12_rowOf 69 = .ok (.istore 6, 2) := by decide +kernel
theorem dX12_rowOf_71 : decode cX12_rowOf 71 = .ok (.iload 6, 2) := by decide +kernel
theorem dX12_rowOf_73 : decode cX12_rowOf 73 = .ok (.iload 5, 2) := by decide +kernel
theorem dX12_rowOf_75 : decode cX12_rowOf 75 = .ok (.if_icmp .ge 80, 3) := by decide +kernel
theorem dX12_rowOf_78 : decode cX12_rowOf 78 = .ok (.iload 4, 2) := by decide +kernel
theorem dX12_rowOf_80 : decode cX12_rowOf 80 = .ok (.ifCond .lt 75, 3) := by decide +kernel
theorem dX12_rowOf_83 : decode cX12_rowOf 83 = .ok (.iload 6, 2) := by decide +kernel
theorem dX12_rowOf_85 : decode cX12_rowOf 85 = .ok (.aload_n 0, 1) := by decide +kernel
theorem dX12_rowOf_86 : decode cX12_rowOf 86 = .ok (.getfield 83, 3) := by decide +kernel
theorem dX12_rowOf_89 : decode cX12_rowOf 89 = .ok (.iload_n 1, 1) := by decide +kernel
theorem dX12_rowOf_90 : decode cX12_rowOf 90 = .ok (.iaload, 1) := by decide +kernel
theorem dX12_rowOf_91 : decode cX12_rowOf 91 = .ok (.if_icmp .ne 21, 3) := by decide +kernel
theorem dX12_rowOf_94 : decode cX12_rowOf 94 = .ok (.aload_n 0, 1) := by decide +kernel
theorem dX12_rowOf_95 : decode cX12_rowOf 95 = .ok (.getfield 86, 3) := by decide +kernel
theorem dX12_rowOf_98 : decode cX12_rowOf 98 = .ok (.iload_n 1, 1) := by decide +kernel
theorem dX12_rowOf_99 : decode cX12_rowOf 99 = .ok (.iaload, 1) := by decide +kernel
theorem dX12_rowOf_100 : decode cX12_rowOf 100 = .ok (.iload_n 3, 1) := by decide +kernel
theorem dX12_rowOf_101 : decode cX12_rowOf 101 = .ok (.aload_n 0, 1) := by decide +kernel
theorem dX12_rowOf_102 : decode cX12_rowOf 102 = .ok (.getfield 89, 3) := by decide +kernel
theorem dX12_rowOf_105 : decode cX12_rowOf 105 = .ok (.iload_n 1, 1) := by decide +kernel
theorem dX12_rowOf_106 : decode cX12_rowOf 106 = .ok (.iaload, 1) := by decide +kernel
theorem dX12_rowOf_107 : decode cX12_rowOf 107 = .ok (.imul, 1) := by decide +kernel
theorem dX12_rowOf_108 : decode cX12_rowOf 108 = .ok (.iadd, 1) := by decide +kernel
theorem dX12_rowOf_109 : decode cX12_rowOf 109 = .ok (.goto 15, 3) := by decide +kernel
theorem dX12_rowOf_112 : decode cX12_rowOf 112 = .ok (.aload_n 0, 1) := by decide +kernel
theorem dX12_rowOf_113 : decode cX12_rowOf 113 = .ok (.getfield 77, 3) := by decide +kernel
theorem dX12_rowOf_116 : decode cX12_rowOf 116 = .ok (.bipush 12, 2) := by decide +kernel
theorem dX12_rowOf_118 : decode cX12_rowOf 118 = .ok (.iload_n 1, 1) := by decide +kernel
theorem dX12_rowOf_119 : decode cX12_rowOf 119 = .ok (.imul, 1) := by decide +kernel
theorem dX12_rowOf_120 : decode cX12_rowOf 120 = .ok (.iload 6, 2) := by decide +kernel
theorem dX12_rowOf_122 : decode cX12_rowOf 122 = .ok (.iadd, 1) := by decide +kernel
theorem dX12_rowOf_123 : decode cX12_rowOf 123 = .ok (.iaload, 1) := by decide +kernel
theorem dX12_rowOf_124 : decode cX12_rowOf 124 = .ok (.istore 7, 2) := by decide +kernel
theorem dX12_rowOf_126 : decode cX12_rowOf 126 = .ok (.aload_n 0, 1) := by decide +kernel
theorem dX12_rowOf_127 : decode cX12_rowOf 127 = .ok (.iload_n 2, 1) := by decide +kernel
theorem dX12_rowOf_128 : decode cX12_rowOf 128 = .ok (.iload 4, 2) := by decide +kernel
theorem dX12_rowOf_130 : decode cX12_rowOf 130 = .ok (.aload_n 0, 1) := by decide +kernel
theorem dX12_rowOf_131 : decode cX12_rowOf 131 = .ok (.getfield 74, 3) := by decide +kernel
theorem dX12_rowOf_134 : decode cX12_rowOf 134 = .ok (.bipush 12, 2) := by decide +kernel
theorem dX12_rowOf_136 : decode cX12_rowOf 136 = .ok (.iload_n 1, 1) := by decide +kernel
theorem dX12_rowOf_137 : decode cX12_rowOf 137 = .ok (.imul, 1) := by decide +kernel
theorem dX12_rowOf_138 : decode cX12_rowOf 138 = .ok (.iload 6, 2) := by decide +kernel
theorem dX12_rowOf_140 : decode cX12_rowOf 140 = .ok (.iadd, 1) := by decide +kernel
theorem dX12_rowOf_141 : decode cX12_rowOf 141 = .ok (.laload, 1) := by decide +kernel
theorem dX12_rowOf_142 : decode cX12_rowOf 142 = .ok (.iload 7, 2) := by decide +kernel
theorem dX12_rowOf_144 : decode cX12_rowOf 144 = .ok (.invokevirtual 297, 3) := by decide +kernel
theorem dX12_rowOf_147 : decode cX12_rowOf 147 = .ok (.istore 4, 2) := by decide +kernel
theorem dX12_rowOf_149 : decode cX12_rowOf 149 = .ok (.iinc 6 1, 3) := by decide +kernel
theorem dX12_rowOf_152 : decode cX12_rowOf 152 = .ok (.goto (-81), 3) := by decide +kernel
theorem dX12_rowOf_155 : decode cX12_rowOf 155 = .ok (.iload 4, 2) := by decide +kernel
theorem dX12_rowOf_157 : decode cX12_rowOf 157 = .ok (.ireturn, 1) := by decide +kernel
theorem dX12_child_0 : decode cX12_child 0 = .ok (.iload_n 2, 1) := by decide +kernel
theorem dX12_child_1 : decode cX12_child 1 = .ok (.iconst 1, 1) := by decide +kernel
theorem dX12_child_2 : decode cX12_child 2 = .ok (.iadd, 1) := by decide +kernel
theorem dX12_child_3 : decode cX12_child 3 = .ok (.istore 6, 2) := by decide +kernel
theorem dX12_child_5 : decode cX12_child 5 = .ok (.iload 6, 2) := by decide +kernel
theorem dX12_child_7 : decode cX12_child 7 = .ok (.iload_n 2, 1) := by decide +kernel
theorem dX12_child_8 : decode cX12_child 8 = .ok (.aload_n 0, 1) := by decide +kernel
theorem dX12_child_9 : decode cX12_child 9 = .ok (.getfield 27, 3) := by decide +kernel
theorem dX12_child_12 : decode cX12_child 12 = .ok (.iload_n 1, 1) := by decide +kernel
theorem dX12_child_13 : decode cX12_child 13 = .ok (.iload_n 2, 1) := by decide +kernel
theorem dX12_child_14 : decode cX12_child 14 = .ok (.invokestatic 151, 3) := by decide +kernel
theorem dX12_child_17 : decode cX12_child 17 = .ok (.iaload, 1) := by decide +kernel
theorem dX12_child_18 : decode cX12_child 18 = .ok (.iadd, 1) := by decide +kernel
theorem dX12_child_19 : decode cX12_child 19 = .ok (.if_icmp .ge 59, 3) := by decide +kernel
theorem dX12_child_22 : decode cX12_child 22 = .ok (.aload_n 0, 1) := by decide +kernel
theorem dX12_child_23 : decode cX12_child 23 = .ok (.getfield 24, 3) := by decide +kernel
theorem dX12_child_26 : decode cX12_child 26 = .ok (.iload_n 1, 1) := by decide +kernel
theorem dX12_child_27 : decode cX12_child 27 = .ok (.iload 6, 2) := by decide +kernel
theorem dX12_child_29 : decode cX12_child 29 = .ok (.invokestatic 151, 3) := by decide +kernel
theorem dX12_child_32 : decode cX12_child 32 = .ok (.iaload, 1) := by decide +kernel
theorem dX12_child_33 : decode cX12_child 33 = .ok (.iload_n 2, 1) := by decide +kernel
theorem dX12_child_34 : decode cX12_child 34 = .ok (.if_icmp .ne 38, 3) := by decide +kernel
theorem dX12_child_37 : decode cX12_child 37 = .ok (.aload_n 0, 1) := by decide +kernel
theorem dX12_child_38 : decode cX12_child 38 = .ok (.getfield 42, 3) := by decide +kernel
theorem dX12_child_41 : decode cX12_child 41 = .ok (.iload_n 1, 1) := by decide +kernel
theorem dX12_child_42 : decode cX12_child 42 = .ok (.iload 6, 2) := by decide +kernel
theorem dX12_child_44 : decode cX12_child 44 = .ok (.invokestatic 151, 3) := by decide +kernel
theorem dX12_child_47 : decode cX12_child 47 = .ok (.laload, 1) := by decide +kernel
theorem dX12_child_48 : decode cX12_child 48 = .ok (.lload_n 3, 1) := by decide +kernel
theorem dX12_child_49 : decode cX12_child 49 = .ok (.lcmp, 1) := by decide +kernel
theorem dX12_child_50 : decode cX12_child 50 = .ok (.ifCond .ne 22, 3) := by decide +kernel
theorem dX12_child_53 : decode cX12_child 53 = .ok (.aload_n 0, 1) := by decide +kernel
theorem dX12_child_54 : decode cX12_child 54 = .ok (.getfield 30, 3) := by decide +kernel
theorem dX12_child_57 : decode cX12_child 57 = .ok (.iload_n 1, 1) := by decide +kernel
theorem dX12_child_58 : decode cX12_child 58 = .ok (.iload 6, 2) := by decide +kernel
theorem dX12_child_60 : decode cX12_child 60 = .ok (.invokestatic 151, 3) := by decide +kernel
theorem dX12_child_63 : decode cX12_child 63 = .ok (.iaload, 1) := by decide +kernel
theorem dX12_child_64 : decode cX12_child 64 = .ok (.iload 5, 2) := by decide +kernel
theorem dX12_child_66 : decode cX12_child 66 = .ok (.if_icmp .ne 6, 3) := by decide +kernel
theorem dX12_child_69 : decode cX12_child 69 = .ok (.iload 6, 2) := by decide +kernel
theorem dX12_child_71 : decode cX12_child 71 = .ok (.ireturn, 1) := by decide +kernel
theorem dX12_child_72 : decode cX12_child 72 = .ok (.iinc 6 1, 3) := by decide +kernel
theorem dX12_child_75 : decode cX12_child 75 = .ok (.goto (-70), 3) := by decide +kernel
theorem dX12_child_78 : decode cX12_child 78 = .ok (.iconst (-1), 1) := by decide +kernel
theorem dX12_child_79 : decode cX12_child 79 = .ok (.ireturn, 1) := by decide +kernel
theorem dX12_rowsOf_0 : decode cX12_rowsOf 0 = .ok (.iconst 0, 1) := by decide +kernel
theorem dX12_rowsOf_1 : decode cX12_rowsOf 1 = .ok (.istore_n 3, 1) := by decide +kernel
theorem dX12_rowsOf_2 : decode cX12_rowsOf 2 = .ok (.iload_n 3, 1) := by decide +kernel
theorem dX12_rowsOf_3 : decode cX12_rowsOf 3 = .ok (.bipush 60, 2) := by decide +kernel
theorem dX12_rowsOf_5 : decode cX12_rowsOf 5 = .ok (.if_icmp .ge 19, 3) := by decide +kernel
theorem dX12_rowsOf_8 : decode cX12_rowsOf 8 = .ok (.aload_n 0, 1) := by decide +kernel
theorem dX12_rowsOf_9 : decode cX12_rowsOf 9 = .ok (.iload_n 1, 1) := by decide +kernel
theorem dX12_rowsOf_10 : decode cX12_rowsOf 10 = .ok (.iload_n 2, 1) := by decide +kernel
theorem dX12_rowsOf_11 : decode cX12_rowsOf 11 = .ok (.iload_n 3, 1) := by decide +kernel
theorem dX12_rowsOf_12 : decode cX12_rowsOf 12 = .ok (.invokevirtual 301, 3) := by decide +kernel
theorem dX12_rowsOf_15 : decode cX12_rowsOf 15 = .ok (.ifCond .lt 9, 3) := by decide +kernel
theorem dX12_rowsOf_18 : decode cX12_rowsOf 18 = .ok (.iinc 3 1, 3) := by decide +kernel
theorem dX12_rowsOf_21 : decode cX12_rowsOf 21 = .ok (.goto (-19), 3) := by decide +kernel
theorem dX12_rowsOf_24 : decode cX12_rowsOf 24 = .ok (.iload_n 3, 1) := by decide +kernel
theorem dX12_rowsOf_25 : decode cX12_rowsOf 25 = .ok (.ireturn, 1) := by decide +kernel
theorem dX12_rows_0 : decode cX12_rows 0 = .ok (.aload_n 0, 1) := by decide +kernel
theorem dX12_rows_1 : decode cX12_rows 1 = .ok (.iload_n 1, 1) := by decide +kernel
theorem dX12_rows_2 : decode cX12_rows 2 = .ok (.iload_n 2, 1) := by decide +kernel
theorem dX12_rows_3 : decode cX12_rows 3 = .ok (.invokevirtual 185, 3) := by decide +kernel
theorem dX12_rows_6 : decode cX12_rows 6 = .ok (.ifCond .eq 33, 3) := by decide +kernel
theorem dX12_rows_9 : decode cX12_rows 9 = .ok (.aload_n 0, 1) := by decide +kernel
theorem dX12_rows_10 : decode cX12_rows 10 = .ok (.iload_n 1, 1) := by decide +kernel
theorem dX12_rows_11 : decode cX12_rows 11 = .ok (.iload_n 3, 1) := by decide +kernel
theorem dX12_rows_12 : decode cX12_rows 12 = .ok (.invokevirtual 185, 3) := by decide +kernel
theorem dX12_rows_15 : decode cX12_rows 15 = .ok (.ifCond .eq 24, 3) := by decide +kernel
theorem dX12_rows_18 : decode cX12_rows 18 = .ok (.aload_n 0, 1) := by decide +kernel
theorem dX12_rows_19 : decode cX12_rows 19 = .ok (.iload 4, 2) := by decide +kernel
theorem dX12_rows_21 : decode cX12_rows 21 = .ok (.invokevirtual 235, 3) := by decide +kernel
theorem dX12_rows_24 : decode cX12_rows 24 = .ok (.ifCond .eq 15, 3) := by decide +kernel
theorem dX12_rows_27 : decode cX12_rows 27 = .ok (.aload_n 0, 1) := by decide +kernel
theorem dX12_rows_28 : decode cX12_rows 28 = .ok (.bipush 20, 2) := by decide +kernel
theorem dX12_rows_30 : decode cX12_rows 30 = .ok (.iload_n 1, 1) := by decide +kernel
theorem dX12_rows_31 : decode cX12_rows 31 = .ok (.iload_n 2, 1) := by decide +kernel
theorem dX12_rows_32 : decode cX12_rows 32 = .ok (.iload_n 3, 1) := by decide +kernel
theorem dX12_rows_33 : decode cX12_rows 33 = .ok (.invokevirtual 304, 3) := by decide +kernel
theorem dX12_rows_36 : decode cX12_rows 36 = .ok (.ifCond .ne 5, 3) := by decide +kernel
theorem dX12_rows_39 : decode cX12_rows 39 = .ok (.iconst (-1), 1) := by decide +kernel
theorem dX12_rows_40 : decode cX12_rows 40 = .ok (.ireturn, 1) := by decide +kernel
theorem dX12_rows_41 : decode cX12_rows 41 = .ok (.aload_n 0, 1) := by decide +kernel
theorem dX12_rows_42 : decode cX12_rows 42 = .ok (.bipush 20, 2) := by decide +kernel
theorem dX12_rows_44 : decode cX12_rows 44 = .ok (.iload 4, 2) := by decide +kernel
theorem dX12_rows_46 : decode cX12_rows 46 = .ok (.invokevirtual 307, 3) := by decide +kernel
theorem dX12_rows_49 : decode cX12_rows 49 = .ok (.ireturn, 1) := by decide +kernel
theorem dX12_row_0 : decode cX12_row 0 = .ok (.aload_n 0, 1) := by decide +kernel
theorem dX12_row_1 : decode cX12_row 1 = .ok (.iload_n 1, 1) := by decide +kernel
theorem dX12_row_2 : decode cX12_row 2 = .ok (.iload_n 2, 1) := by decide +kernel
theorem dX12_row_3 : decode cX12_row 3 = .ok (.iload_n 3, 1) := by decide +kernel
theorem dX12_row_4 : decode cX12_row 4 = .ok (.iload 4, 2) := by decide +kernel
theorem dX12_row_6 : decode cX12_row 6 = .ok (.invokevirtual 310, 3) := by decide +kernel
theorem dX12_row_9 : decode cX12_row 9 = .ok (.istore 6, 2) := by decide +kernel
theorem dX12_row_11 : decode cX12_row 11 = .ok (.iload 5, 2) := by decide +kernel
theorem dX12_row_13 : decode cX12_row 13 = .ok (.ifCond .lt 10, 3) := by decide +kernel
theorem dX12_row_16 : decode cX12_row 16 = .ok (.iload 5, 2) := by decide +kernel
theorem dX12_row_18 : decode cX12_row 18 = .ok (.iload 6, 2) := by decide +kernel
theorem dX12_row_20 : decode cX12_row 20 = .ok (.if_icmp .lt 7, 3) := by decide +kernel
theorem dX12_row_23 : decode cX12_row 23 = .ok (.iconst (-1), 1) := by decide +kernel
theorem dX12_row_24 : decode cX12_row 24 = .ok (.goto 13, 3) := by decide +kernel
theorem dX12_row_27 : decode cX12_row 27 = .ok (.aload_n 0, 1) := by decide +kernel
theorem dX12_row_28 : decode cX12_row 28 = .ok (.bipush 20, 2) := by decide +kernel
theorem dX12_row_30 : decode cX12_row 30 = .ok (.iload 4, 2) := by decide +kernel
theorem dX12_row_32 : decode cX12_row 32 = .ok (.iload 5, 2) := by decide +kernel
theorem dX12_row_34 : decode cX12_row 34 = .ok (.invokevirtual 301, 3) := by decide +kernel
theorem dX12_row_37 : decode cX12_row 37 = .ok (.ireturn, 1) := by decide +kernel
theorem dX12_act_0 : decode cX12_act 0 = .ok (.aload_n 0, 1) := by decide +kernel
theorem dX12_act_1 : decode cX12_act 1 = .ok (.iload_n 2, 1) := by decide +kernel
theorem dX12_act_2 : decode cX12_act 2 = .ok (.iload_n 3, 1) := by decide +kernel
theorem dX12_act_3 : decode cX12_act 3 = .ok (.invokevirtual 185, 3) := by decide +kernel
theorem dX12_act_6 : decode cX12_act 6 = .ok (.ifCond .eq 12, 3) := by decide +kernel
theorem dX12_act_9 : decode cX12_act 9 = .ok (.aload_n 0, 1) := by decide +kernel
theorem dX12_act_10 : decode cX12_act 10 = .ok (.getfield 313, 3) := by decide +kernel
theorem dX12_act_13 : decode cX12_act 13 = .ok (.bipush 20, 2) := by decide +kernel
theorem dX12_act_15 : decode cX12_act 15 = .ok (.if_icmp .ne 5, 3) := by decide +kernel
theorem dX12_act_18 : decode cX12_act 18 = .ok (.iconst (-1), 1) := by decide +kernel
theorem dX12_act_19 : decode cX12_act 19 = .ok (.ireturn, 1) := by decide +kernel
theorem dX12_act_20 : decode cX12_act 20 = .ok (.aload_n 0, 1) := by decide +kernel
theorem dX12_act_21 : decode cX12_act 21 = .ok (.iload_n 2, 1) := by decide +kernel
theorem dX12_act_22 : decode cX12_act 22 = .ok (.bipush 10, 2) := by decide +kernel
theorem dX12_act_24 : decode cX12_act 24 = .ok (.aload_n 0, 1) := by decide +kernel
theorem dX12_act_25 : decode cX12_act 25 = .ok (.getfield 313, 3) := by decide +kernel
theorem dX12_act_28 : decode cX12_act 28 = .ok (.iadd, 1) := by decide +kernel
theorem dX12_act_29 : decode cX12_act 29 = .ok (.invokevirtual 180, 3) := by decide +kernel
theorem dX12_act_32 : decode cX12_act 32 = .ok (.aload_n 0, 1) := by decide +kernel
theorem dX12_act_33 : decode cX12_act 33 = .ok (.getfield 92, 3) := by decide +kernel
theorem dX12_act_36 : decode cX12_act 36 = .ok (.aload_n 0, 1) := by decide +kernel
theorem dX12_act_37 : decode cX12_act 37 = .ok (.getfield 313, 3) := by decide +kernel
theorem dX12_act_40 : decode cX12_act 40 = .ok (.iload_n 1, 1) := by decide +kernel
theorem dX12_act_41 : decode cX12_act 41 = .ok (.bastore, 1) := by decide +kernel
theorem dX12_act_42 : decode cX12_act 42 = .ok (.aload_n 0, 1) := by decide +kernel
theorem dX12_act_43 : decode cX12_act 43 = .ok (.getfield 95, 3) := by decide +kernel
theorem dX12_act_46 : decode cX12_act 46 = .ok (.aload_n 0, 1) := by decide +kernel
theorem dX12_act_47 : decode cX12_act 47 = .ok (.getfield 313, 3) := by decide +kernel
theorem dX12_act_50 : decode cX12_act 50 = .ok (.iconst 0, 1) := by decide +kernel
theorem dX12_act_51 : decode cX12_act 51 = .ok (.bastore, 1) := by decide +kernel
theorem dX12_act_52 : decode cX12_act 52 = .ok (.aload_n 0, 1) := by decide +kernel
theorem dX12_act_53 : decode cX12_act 53 = .ok (.getfield 101, 3) := by decide +kernel
theorem dX12_act_56 : decode cX12_act 56 = .ok (.aload_n 0, 1) := by decide +kernel
theorem dX12_act_57 : decode cX12_act 57 = .ok (.getfield 313, 3) := by decide +kernel
theorem dX12_act_60 : decode cX12_act 60 = .ok (.iload_n 3, 1) := by decide +kernel
theorem dX12_act_61 : decode cX12_act 61 = .ok (.iastore, 1) := by decide +kernel
theorem dX12_act_62 : decode cX12_act 62 = .ok (.aload_n 0, 1) := by decide +kernel
theorem dX12_act_63 : decode cX12_act 63 = .ok (.dup, 1) := by decide +kernel
theorem dX12_act_64 : decode cX12_act 64 = .ok (.getfield 313, 3) := by decide +kernel
theorem dX12_act_67 : decode cX12_act 67 = .ok (.iconst 1, 1) := by decide +kernel
theorem dX12_act_68 : decode cX12_act 68 = .ok (.iadd, 1) := by decide +kernel
theorem dX12_act_69 : decode cX12_act 69 = .ok (.putfield 313, 3) := by decide +kernel
theorem dX12_act_72 : decode cX12_act 72 = .ok (.aload_n 0, 1) := by decide +kernel
theorem dX12_act_73 : decode cX12_act 73 = .ok (.getfield 313, 3) := by decide +kernel
theorem dX12_act_76 : decode cX12_act 76 = .ok (.ireturn, 1) := by decide +kernel
theorem dX12_loop_0 : decode cX12_loop 0 = .ok (.aload_n 0, 1) := by decide +kernel
theorem dX12_loop_1 : decode cX12_loop 1 = .ok (.iload_n 2, 1) := by decide +kernel
theorem dX12_loop_2 : decode cX12_loop 2 = .ok (.iload_n 3, 1) := by decide +kernel
theorem dX12_loop_3 : decode cX12_loop 3 = .ok (.invokevirtual 185, 3) := by decide +kernel
theorem dX12_loop_6 : decode cX12_loop 6 = .ok (.ifCond .eq 37, 3) := by decide +kernel
theorem dX12_loop_9 : decode cX12_loop 9 = .ok (.aload_n 0, 1) := by decide +kernel
theorem dX12_loop_10 : decode cX12_loop 10 = .ok (.iload_n 2, 1) := by decide +kernel
theorem dX12_loop_11 : decode cX12_loop 11 = .ok (.iload 4, 2) := by decide +kernel
theorem dX12_loop_13 : decode cX12_loop 13 = .ok (.invokevirtual 185, 3) := by decide +kernel
theorem dX12_loop_16 : decode cX12_loop 16 = .ok (.ifCond .eq 27, 3) := by decide +kernel
theorem dX12_loop_19 : decode cX12_loop 19 = .ok (.aload_n 0, 1) := by decide +kernel
theorem dX12_loop_20 : decode cX12_loop 20 = .ok (.getfield 313, 3) := by decide +kernel
theorem dX12_loop_23 : decode cX12_loop 23 = .ok (.bipush 20, 2) := by decide +kernel
theorem dX12_loop_25 : decode cX12_loop 25 = .ok (.if_icmp .eq 18, 3) := by decide +kernel
theorem dX12_loop_28 : decode cX12_loop 28 = .ok (.aload_n 0, 1) := by decide +kernel
theorem dX12_loop_29 : decode cX12_loop 29 = .ok (.aload_n 0, 1) := by decide +kernel
theorem dX12_loop_30 : decode cX12_loop 30 = .ok (.getfield 313, 3) := by decide +kernel
theorem dX12_loop_33 : decode cX12_loop 33 = .ok (.iload_n 2, 1) := by decide +kernel
theorem dX12_loop_34 : decode cX12_loop 34 = .ok (.iload_n 3, 1) := by decide +kernel
theorem dX12_loop_35 : decode cX12_loop 35 = .ok (.iload 4, 2) := by decide +kernel
theorem dX12_loop_37 : decode cX12_loop 37 = .ok (.invokevirtual 304, 3) := by decide +kernel
theorem dX12_loop_40 : decode cX12_loop 40 = .ok (.ifCond .ne 5, 3) := by decide +kernel
theorem dX12_loop_43 : decode cX12_loop 43 = .ok (.iconst (-1), 1) := by decide +kernel
theorem dX12_loop_44 : decode cX12_loop 44 = .ok (.ireturn, 1) := by decide +kernel
theorem dX12_loop_45 : decode cX12_loop 45 = .ok (.aload_n 0, 1) := by decide +kernel
theorem dX12_loop_46 : decode cX12_loop 46 = .ok (.getfield 92, 3) := by decide +kernel
theorem dX12_loop_49 : decode cX12_loop 49 = .ok (.aload_n 0, 1) := by decide +kernel
theorem dX12_loop_50 : decode cX12_loop 50 = .ok (.getfield 313, 3) := by decide +kernel
theorem dX12_loop_53 : decode cX12_loop 53 = .ok (.iload_n 1, 1) := by decide +kernel
theorem dX12_loop_54 : decode cX12_loop 54 = .ok (.bastore, 1) := by decide +kernel
theorem dX12_loop_55 : decode cX12_loop 55 = .ok (.aload_n 0, 1) := by decide +kernel
theorem dX12_loop_56 : decode cX12_loop 56 = .ok (.getfield 95, 3) := by decide +kernel
theorem dX12_loop_59 : decode cX12_loop 59 = .ok (.aload_n 0, 1) := by decide +kernel
theorem dX12_loop_60 : decode cX12_loop 60 = .ok (.getfield 313, 3) := by decide +kernel
theorem dX12_loop_63 : decode cX12_loop 63 = .ok (.iconst 1, 1) := by decide +kernel
theorem dX12_loop_64 : decode cX12_loop 64 = .ok (.bastore, 1) := by decide +kernel
theorem dX12_loop_65 : decode cX12_loop 65 = .ok (.aload_n 0, 1) := by decide +kernel
theorem dX12_loop_66 : decode cX12_loop 66 = .ok (.dup, 1) := by decide +kernel
theorem dX12_loop_67 : decode cX12_loop 67 = .ok (.getfield 313, 3) := by decide +kernel
theorem dX12_loop_70 : decode cX12_loop 70 = .ok (.iconst 1, 1) := by decide +kernel
theorem dX12_loop_71 : decode cX12_loop 71 = .ok (.iadd, 1) := by decide +kernel
theorem dX12_loop_72 : decode cX12_loop 72 = .ok (.putfield 313, 3) := by decide +kernel
theorem dX12_loop_75 : decode cX12_loop 75 = .ok (.aload_n 0, 1) := by decide +kernel
theorem dX12_loop_76 : decode cX12_loop 76 = .ok (.getfield 313, 3) := by decide +kernel
theorem dX12_loop_79 : decode cX12_loop 79 = .ok (.ireturn, 1) := by decide +kernel
theorem dX12_clear_0 : decode cX12_clear 0 = .ok (.aload_n 0, 1) := by decide +kernel
theorem dX12_clear_1 : decode cX12_clear 1 = .ok (.getfield 313, 3) := by decide +kernel
theorem dX12_clear_4 : decode cX12_clear 4 = .ok (.istore_n 1, 1) := by decide +kernel
theorem dX12_clear_5 : decode cX12_clear 5 = .ok (.aload_n 0, 1) := by decide +kernel
theorem dX12_clear_6 : decode cX12_clear 6 = .ok (.iconst 0, 1) := by decide +kernel
theorem dX12_clear_7 : decode cX12_clear 7 = .ok (.putfield 313, 3) := by decide +kernel
theorem dX12_clear_10 : decode cX12_clear 10 = .ok (.iload_n 1, 1) := by decide +kernel
theorem dX12_clear_11 : decode cX12_clear 11 = .ok (.ireturn, 1) := by decide +kernel
theorem dX12_isInHarm_0 : decode cX12_isInHarm 0 = .ok (.iload_n 2, 1) := by decide +kernel
theorem dX12_isInHarm_1 : decode cX12_isInHarm 1 = .ok (.istore_n 3, 1) := by decide +kernel
theorem dX12_isInHarm_2 : decode cX12_isInHarm 2 = .ok (.iload_n 3, 1) := by decide +kernel
theorem dX12_isInHarm_3 : decode cX12_isInHarm 3 = .ok (.ifCond .lt 30, 3) := by decide +kernel
theorem dX12_isInHarm_6 : decode cX12_isInHarm 6 = .ok (.aload_n 0, 1) := by decide +kernel
theorem dX12_isInHarm_7 : decode cX12_isInHarm 7 = .ok (.getfield 49, 3) := by decide +kernel
theorem dX12_isInHarm_10 : decode cX12_isInHarm 10 = .ok (.iload_n 1, 1) := by decide +kernel
theorem dX12_isInHarm_11 : decode cX12_isInHarm 11 = .ok (.iload_n 3, 1) := by decide +kernel
theorem dX12_isInHarm_12 : decode cX12_isInHarm 12 = .ok (.invokestatic 151, 3) := by decide +kernel
theorem dX12_isInHarm_15 : decode cX12_isInHarm 15 = .ok (.baload, 1) := by decide +kernel
theorem dX12_isInHarm_16 : decode cX12_isInHarm 16 = .ok (.ifCond .ne 17, 3) := by decide +kernel
theorem dX12_isInHarm_19 : decode cX12_isInHarm 19 = .ok (.aload_n 0, 1) := by decide +kernel
theorem dX12_isInHarm_20 : decode cX12_isInHarm 20 = .ok (.getfield 24, 3) := by decide +kernel
theorem dX12_isInHarm_23 : decode cX12_isInHarm 23 = .ok (.iload_n 1, 1) := by decide +kernel
theorem dX12_isInHarm_24 : decode cX12_isInHarm 24 = .ok (.iload_n 3, 1) := by decide +kernel
theorem dX12_isInHarm_25 : decode cX12_isInHarm 25 = .ok (.invokestatic 151, 3) := by decide +kernel
theorem dX12_isInHarm_28 : decode cX12_isInHarm 28 = .ok (.iaload, 1) := by decide +kernel
theorem dX12_isInHarm_29 : decode cX12_isInHarm 29 = .ok (.istore_n 3, 1) := by decide +kernel
theorem dX12_isInHarm_30 : decode cX12_isInHarm 30 = .ok (.goto (-28), 3) := by decide +kernel
theorem dX12_isInHarm_33 : decode cX12_isInHarm 33 = .ok (.iload_n 3, 1) := by decide +kernel
theorem dX12_isInHarm_34 : decode cX12_isInHarm 34 = .ok (.ifCond .lt 7, 3) := by decide +kernel
theorem dX12_isInHarm_37 : decode cX12_isInHarm 37 = .ok (.iconst 1, 1) := by decide +kernel
theorem dX12_isInHarm_38 : decode cX12_isInHarm 38 = .ok (.goto 4, 3) := by decide +kernel
theorem dX12_isInHarm_41 : decode cX12_isInHarm 41 = .ok (.iconst 0, 1) := by decide +kernel
theorem dX12_isInHarm_42 : decode cX12_isInHarm 42 = .ok (.ireturn, 1) := by decide +kernel
theorem dX12_does_0 : decode cX12_does 0 = .ok (.iload_n 2, 1) := by decide +kernel
theorem dX12_does_1 : decode cX12_does 1 = .ok (.iload_n 3, 1) := by decide +kernel
theorem dX12_does_2 : decode cX12_does 2 = .ok (.invokestatic 151, 3) := by decide +kernel
theorem dX12_does_5 : decode cX12_does 5 = .ok (.istore 4, 2) := by decide +kernel
theorem dX12_does_7 : decode cX12_does 7 = .ok (.aload_n 0, 1) := by decide +kernel
theorem dX12_does_8 : decode cX12_does 8 = .ok (.getfield 92, 3) := by decide +kernel
theorem dX12_does_11 : decode cX12_does 11 = .ok (.iload_n 1, 1) := by decide +kernel
theorem dX12_does_12 : decode cX12_does 12 = .ok (.baload, 1) := by decide +kernel
theorem dX12_does_13 : decode cX12_does 13 = .ok (.ifCond .ne 103, 3) := by decide +kernel
theorem dX12_does_16 : decode cX12_does 16 = .ok (.aload_n 0, 1) := by decide +kernel
theorem dX12_does_17 : decode cX12_does 17 = .ok (.getfield 316, 3) := by decide +kernel
theorem dX12_does_20 : decode cX12_does 20 = .ok (.bipush 40, 2) := by decide +kernel
theorem dX12_does_22 : decode cX12_does 22 = .ok (.if_icmp .ge 82, 3) := by decide +kernel
theorem dX12_does_25 : decode cX12_does 25 = .ok (.aload_n 0, 1) := by decide +kernel
theorem dX12_does_26 : decode cX12_does 26 = .ok (.getfield 104, 3) := by decide +kernel
theorem dX12_does_29 : decode cX12_does 29 = .ok (.aload_n 0, 1) := by decide +kernel
theorem dX12_does_30 : decode cX12_does 30 = .ok (.getfield 316, 3) := by decide +kernel
theorem dX12_does_33 : decode cX12_does 33 = .ok (.aload_n 0, 1) := by decide +kernel
theorem dX12_does_34 : decode cX12_does 34 = .ok (.getfield 36, 3) := by decide +kernel
theorem dX12_does_37 : decode cX12_does 37 = .ok (.iload 4, 2) := by decide +kernel
theorem dX12_does_39 : decode cX12_does 39 = .ok (.iaload, 1) := by decide +kernel
theorem dX12_does_40 : decode cX12_does 40 = .ok (.ifCond .ge 7, 3) := by decide +kernel
theorem dX12_does_43 : decode cX12_does 43 = .ok (.iconst 0, 1) := by decide +kernel
theorem dX12_does_44 : decode cX12_does 44 = .ok (.goto 10, 3) := by decide +kernel
theorem dX12_does_47 : decode cX12_does 47 = .ok (.aload_n 0, 1) := by decide +kernel
theorem dX12_does_48 : decode cX12_does 48 = .ok (.getfield 36, 3) := by decide +kernel
theorem dX12_does_51 : decode cX12_does 51 = .ok (.iload 4, 2) := by decide +kernel
theorem dX12_does_53 : decode cX12_does 53 = .ok (.iaload, 1) := by decide +kernel
theorem dX12_does_54 : decode cX12_does 54 = .ok (.iastore, 1) := by decide +kernel
theorem dX12_does_55 : decode cX12_does 55 = .ok (.iconst 0, 1) := by decide +kernel
theorem dX12_does_56 : decode cX12_does 56 = .ok (.istore 5, 2) := by decide +kernel
theorem dX12_does_58 : decode cX12_does 58 = .ok (.iload 5, 2) := by decide +kernel
theorem dX12_does_60 : decode cX12_does 60 = .ok (.aload_n 0, 1) := by decide +kernel
theorem dX12_does_61 : decode cX12_does 61 = .ok (.getfield 36, 3) := by decide +kernel
theorem dX12_does_64 : decode cX12_does 64 = .ok (.iload 4, 2) := by decide +kernel
theorem dX12_does_66 : decode cX12_does 66 = .ok (.iaload, 1) := by decide +kernel
theorem dX12_does_67 : decode cX12_does 67 = .ok (.if_icmp .ge 37, 3) := by decide +kernel
theorem dX12_does_70 : decode cX12_does 70 = .ok (.aload_n 0, 1) := by decide +kernel
theorem dX12_does_71 : decode cX12_does 71 = .ok (.getfield 107, 3) := by decide +kernel
theorem dX12_does_74 : decode cX12_does 74 = .ok (.bipush 16, 2) := by decide +kernel
theorem dX12_does_76 : decode cX12_does 76 = .ok (.aload_n 0, 1) := by decide +kernel
theorem dX12_does_77 : decode cX12_does 77 = .ok (.getfield 316, 3) := by decide +kernel
theorem dX12_does_80 : decode cX12_does 80 = .ok (.imul, 1) := by decide +kernel
theorem dX12_does_81 : decode cX12_does 81 = .ok (.iload 5, 2) := by decide +kernel
theorem dX12_does_83 : decode cX12_does 83 = .ok (.iadd, 1) := by decide +kernel
theorem dX12_does_84 : decode cX12_does 84 = .ok (.aload_n 0, 1) := by decide +kernel
theorem dX12_does_85 : decode cX12_does 85 = .ok (.getfield 53, 3) := by decide +kernel
theorem dX12_does_88 : decode cX12_does 88 = .ok (.bipush 16, 2) := by decide +kernel
theorem dX12_does_90 : decode cX12_does 90 = .ok (.iload 4, 2) := by decide +kernel
theorem dX12_does_92 : decode cX12_does 92 = .ok (.imul, 1) := by decide +kernel
theorem dX12_does_93 : decode cX12_does 93 = .ok (.iload 5, 2) := by decide +kernel
theorem dX12_does_95 : decode cX12_does 95 = .ok (.iadd, 1) := by decide +kernel
theorem dX12_does_96 : decode cX12_does 96 = .ok (.baload, 1) := by decide +kernel
theorem dX12_does_97 : decode cX12_does 97 = .ok (.bastore, 1) := by decide +kernel
theorem dX12_does_98 : decode cX12_does 98 = .ok (.iinc 5 1, 3) := by decide +kernel
theorem dX12_does_101 : decode cX12_does 101 = .ok (.goto (-43), 3) := by decide +kernel
theorem dX12_does_104 : decode cX12_does 104 = .ok (.aload_n 0, 1) := by decide +kernel
theorem dX12_does_105 : decode cX12_does 105 = .ok (.dup, 1) := by decide +kernel
theorem dX12_does_106 : decode cX12_does 106 = .ok (.getfield 316, 3) := by decide +kernel
theorem dX12_does_109 : decode cX12_does 109 = .ok (.iconst 1, 1) := by decide +kernel
theorem dX12_does_110 : decode cX12_does 110 = .ok (.iadd, 1) := by decide +kernel
theorem dX12_does_111 : decode cX12_does 111 = .ok (.putfield 316, 3) := by decide +kernel
theorem dX12_does_114 : decode cX12_does 114 = .ok (.iconst 1, 1) := by decide +kernel
theorem dX12_does_115 : decode cX12_does 115 = .ok (.ireturn, 1) := by decide +kernel
theorem dX12_does_116 : decode cX12_does 116 = .ok (.aload_n 0, 1) := by decide +kernel
theorem dX12_does_117 : decode cX12_does 117 = .ok (.iload_n 2, 1) := by decide +kernel
theorem dX12_does_118 : decode cX12_does 118 = .ok (.iload_n 3, 1) := by decide +kernel
theorem dX12_does_119 : decode cX12_does 119 = .ok (.invokevirtual 319, 3) := by decide +kernel
theorem dX12_does_122 : decode cX12_does 122 = .ok (.ifCond .eq 15, 3) := by decide +kernel
theorem dX12_does_125 : decode cX12_does 125 = .ok (.aload_n 0, 1) := by decide +kernel
theorem dX12_does_126 : decode cX12_does 126 = .ok (.iconst 3, 1) := by decide +kernel
theorem dX12_does_127 : decode cX12_does 127 = .ok (.putfield 322, 3) := by decide +kernel
theorem dX12_does_130 : decode cX12_does 130 = .ok (.aload_n 0, 1) := by decide +kernel
theorem dX12_does_131 : decode cX12_does 131 = .ok (.iload_n 3, 1) := by decide +kernel
theorem dX12_does_132 : decode cX12_does 132 = .ok (.putfield 325, 3) := by decide +kernel
theorem dX12_does_135 : decode cX12_does 135 = .ok (.iconst 0, 1) := by decide +kernel
theorem dX12_does_136 : decode cX12_does 136 = .ok (.ireturn, 1) := by decide +kernel
theorem dX12_does_137 : decode cX12_does 137 = .ok (.aload_n 0, 1) := by decide +kernel
theorem dX12_does_138 : decode cX12_does 138 = .ok (.getfield 98, 3) := by decide +kernel
theorem dX12_does_141 : decode cX12_does 141 = .ok (.iload_n 3, 1) := by decide +kernel
theorem dX12_does_142 : decode cX12_does 142 = .ok (.baload, 1) := by decide +kernel
theorem dX12_does_143 : decode cX12_does 143 = .ok (.ifCond .eq 5, 3) := by decide +kernel
theorem dX12_does_146 : decode cX12_does 146 = .ok (.iconst 1, 1) := by decide +kernel
theorem dX12_does_147 : decode cX12_does 147 = .ok (.ireturn, 1) := by decide +kernel
theorem dX12_does_148 : decode cX12_does 148 = .ok (.aload_n 0, 1) := by decide +kernel
theorem dX12_does_149 : decode cX12_does 149 = .ok (.getfield 98, 3) := by decide +kernel
theorem dX12_does_152 : decode cX12_does 152 = .ok (.iload_n 3, 1) := by decide +kernel
theorem dX12_does_153 : decode cX12_does 153 = .ok (.iconst 1, 1) := by decide +kernel
theorem dX12_does_154 : decode cX12_does 154 = .ok (.bastore, 1) := by decide +kernel
theorem dX12_does_155 : decode cX12_does 155 = .ok (.aload_n 0, 1) := by decide +kernel
theorem dX12_does_156 : decode cX12_does 156 = .ok (.getfield 39, 3) := by decide +kernel
theorem dX12_does_159 : decode cX12_does 159 = .ok (.iload 4, 2) := by decide +kernel
theorem dX12_does_161 : decode cX12_does 161 = .ok (.dup2, 1) := by decide +kernel
theorem dX12_does_162 : decode cX12_does 162 = .ok (.iaload, 1) := by decide +kernel
theorem dX12_does_163 : decode cX12_does 163 = .ok (.iconst 1, 1) := by decide +kernel
theorem dX12_does_164 : decode cX12_does 164 = .ok (.iadd, 1) := by decide +kernel
theorem dX12_does_165 : decode cX12_does 165 = .ok (.iastore, 1) := by decide +kernel
theorem dX12_does_166 : decode cX12_does 166 = .ok (.aload_n 0, 1) := by decide +kernel
theorem dX12_does_167 : decode cX12_does 167 = .ok (.dup, 1) := by decide +kernel
theorem dX12_does_168 : decode cX12_does 168 = .ok (.getfield 328, 3) := by decide +kernel
theorem dX12_does_171 : decode cX12_does 171 = .ok (.iconst 1, 1) := by decide +kernel
theorem dX12_does_172 : decode cX12_does 172 = .ok (.iadd, 1) := by decide +kernel
theorem dX12_does_173 : decode cX12_does 173 = .ok (.putfield 328, 3) := by decide +kernel
theorem dX12_does_176 : decode cX12_does 176 = .ok (.iconst 1, 1) := by decide +kernel
theorem dX12_does_177 : decode cX12_does 177 = .ok (.ireturn, 1) := by decide +kernel
theorem dX12_goes_0 : decode cX12_goes 0 = .ok (.aload_n 0, 1) := by decide +kernel
theorem dX12_goes_1 : decode cX12_goes 1 = .ok (.getfield 95, 3) := by decide +kernel
theorem dX12_goes_4 : decode cX12_goes 4 = .ok (.iload_n 1, 1) := by decide +kernel
theorem dX12_goes_5 : decode cX12_goes 5 = .ok (.baload, 1) := by decide +kernel
theorem dX12_goes_6 : decode cX12_goes 6 = .ok (.ifCond .eq 46, 3) := by decide +kernel
theorem dX12_goes_9 : decode cX12_goes 9 = .ok (.aload_n 0, 1) := by decide +kernel
theorem dX12_goes_10 : decode cX12_goes 10 = .ok (.iload_n 1, 1) := by decide +kernel
theorem dX12_goes_11 : decode cX12_goes 11 = .ok (.iload_n 2, 1) := by decide +kernel
theorem dX12_goes_12 : decode cX12_goes 12 = .ok (.invokevirtual 307, 3) := by decide +kernel
theorem dX12_goes_15 : decode cX12_goes 15 = .ok (.istore_n 3, 1) := by decide +kernel
theorem dX12_goes_16 : decode cX12_goes 16 = .ok (.iconst 0, 1) := by decide +kernel
theorem dX12_goes_17 : decode cX12_goes 17 = .ok (.istore 4, 2) := by decide +kernel
theorem dX12_goes_19 : decode cX12_goes 19 = .ok (.iload 4, 2) := by decide +kernel
theorem dX12_goes_21 : decode cX12_goes 21 = .ok (.iload_n 3, 1) := by decide +kernel
theorem dX12_goes_22 : decode cX12_goes 22 = .ok (.if_icmp .ge 28, 3) := by decide +kernel
theorem dX12_goes_25 : decode cX12_goes 25 = .ok (.aload_n 0, 1) := by decide +kernel
theorem dX12_goes_26 : decode cX12_goes 26 = .ok (.iload_n 1, 1) := by decide +kernel
theorem dX12_goes_27 : decode cX12_goes 27 = .ok (.iload_n 2, 1) := by decide +kernel
theorem dX12_goes_28 : decode cX12_goes 28 = .ok (.aload_n 0, 1) := by decide +kernel
theorem dX12_goes_29 : decode cX12_goes 29 = .ok (.iload_n 1, 1) := by decide +kernel
theorem dX12_goes_30 : decode cX12_goes 30 = .ok (.iload_n 2, 1) := by decide +kernel
theorem dX12_goes_31 : decode cX12_goes 31 = .ok (.iload 4, 2) := by decide +kernel
theorem dX12_goes_33 : decode cX12_goes 33 = .ok (.invokevirtual 301, 3) := by decide +kernel
theorem dX12_goes_36 : decode cX12_goes 36 = .ok (.invokevirtual 331, 3) := by decide +kernel
theorem dX12_goes_39 : decode cX12_goes 39 = .ok (.ifCond .ne 5, 3) := by decide +kernel
theorem dX12_goes_42 : decode cX12_goes 42 = .ok (.iconst 0, 1) := by decide +kernel
theorem dX12_goes_43 : decode cX12_goes 43 = .ok (.ireturn, 1) := by decide +kernel
theorem dX12_goes_44 : decode cX12_goes 44 = .ok (.iinc 4 1, 3) := by decide +kernel
theorem dX12_goes_47 : decode cX12_goes 47 = .ok (.goto (-28), 3) := by decide +kernel
theorem dX12_goes_50 : decode cX12_goes 50 = .ok (.iconst 1, 1) := by decide +kernel
theorem dX12_goes_51 : decode cX12_goes 51 = .ok (.ireturn, 1) := by decide +kernel
theorem dX12_goes_52 : decode cX12_goes 52 = .ok (.aload_n 0, 1) := by decide +kernel
theorem dX12_goes_53 : decode cX12_goes 53 = .ok (.bipush 10, 2) := by decide +kernel
theorem dX12_goes_55 : decode cX12_goes 55 = .ok (.iload_n 1, 1) := by decide +kernel
theorem dX12_goes_56 : decode cX12_goes 56 = .ok (.iadd, 1) := by decide +kernel
theorem dX12_goes_57 : decode cX12_goes 57 = .ok (.aload_n 0, 1) := by decide +kernel
theorem dX12_goes_58 : decode cX12_goes 58 = .ok (.getfield 101, 3) := by decide +kernel
theorem dX12_goes_61 : decode cX12_goes 61 = .ok (.iload_n 1, 1) := by decide +kernel
theorem dX12_goes_62 : decode cX12_goes 62 = .ok (.iaload, 1) := by decide +kernel
theorem dX12_goes_63 : decode cX12_goes 63 = .ok (.iload_n 2, 1) := by decide +kernel
theorem dX12_goes_64 : decode cX12_goes 64 = .ok (.invokevirtual 238, 3) := by decide +kernel
theorem dX12_goes_67 : decode cX12_goes 67 = .ok (.istore_n 3, 1) := by decide +kernel
theorem dX12_goes_68 : decode cX12_goes 68 = .ok (.iload_n 3, 1) := by decide +kernel
theorem dX12_goes_69 : decode cX12_goes 69 = .ok (.iconst 1, 1) := by decide +kernel
theorem dX12_goes_70 : decode cX12_goes 70 = .ok (.if_icmp .ne 14, 3) := by decide +kernel
theorem dX12_goes_73 : decode cX12_goes 73 = .ok (.aload_n 0, 1) := by decide +kernel
theorem dX12_goes_74 : decode cX12_goes 74 = .ok (.iload_n 1, 1) := by decide +kernel
theorem dX12_goes_75 : decode cX12_goes 75 = .ok (.iload_n 2, 1) := by decide +kernel
theorem dX12_goes_76 : decode cX12_goes 76 = .ok (.aload_n 0, 1) := by decide +kernel
theorem dX12_goes_77 : decode cX12_goes 77 = .ok (.getfield 223, 3) := by decide +kernel
theorem dX12_goes_80 : decode cX12_goes 80 = .ok (.invokevirtual 331, 3) := by decide +kernel
theorem dX12_goes_83 : decode cX12_goes 83 = .ok (.ireturn, 1) := by decide +kernel
theorem dX12_goes_84 : decode cX12_goes 84 = .ok (.aload_n 0, 1) := by decide +kernel
theorem dX12_goes_85 : decode cX12_goes 85 = .ok (.iload_n 3, 1) := by decide +kernel
theorem dX12_goes_86 : decode cX12_goes 86 = .ok (.ifCond .ne 7, 3) := by decide +kernel
theorem dX12_goes_89 : decode cX12_goes 89 = .ok (.iconst 1, 1) := by decide +kernel
theorem dX12_goes_90 : decode cX12_goes 90 = .ok (.goto 4, 3) := by decide +kernel
theorem dX12_goes_93 : decode cX12_goes 93 = .ok (.iconst 2, 1) := by decide +kernel
theorem dX12_goes_94 : decode cX12_goes 94 = .ok (.putfield 322, 3) := by decide +kernel
theorem dX12_goes_97 : decode cX12_goes 97 = .ok (.aload_n 0, 1) := by decide +kernel
theorem dX12_goes_98 : decode cX12_goes 98 = .ok (.iload_n 3, 1) := by decide +kernel
theorem dX12_goes_99 : decode cX12_goes 99 = .ok (.ifCond .ne 10, 3) := by decide +kernel
theorem dX12_goes_102 : decode cX12_goes 102 = .ok (.aload_n 0, 1) := by decide +kernel
theorem dX12_goes_103 : decode cX12_goes 103 = .ok (.getfield 223, 3) := by decide +kernel
theorem dX12_goes_106 : decode cX12_goes 106 = .ok (.goto 4, 3) := by decide +kernel
theorem dX12_goes_109 : decode cX12_goes 109 = .ok (.iconst (-1), 1) := by decide +kernel
theorem dX12_goes_110 : decode cX12_goes 110 = .ok (.putfield 325, 3) := by decide +kernel
theorem dX12_goes_113 : decode cX12_goes 113 = .ok (.iconst 0, 1) := by decide +kernel
theorem dX12_goes_114 : decode cX12_goes 114 = .ok (.ireturn, 1) := by decide +kernel
theorem dX12_run_0 : decode cX12_run 0 = .ok (.aload_n 0, 1) := by decide +kernel
theorem dX12_run_1 : decode cX12_run 1 = .ok (.iload_n 1, 1) := by decide +kernel
theorem dX12_run_2 : decode cX12_run 2 = .ok (.invokevirtual 235, 3) := by decide +kernel
theorem dX12_run_5 : decode cX12_run 5 = .ok (.ifCond .ne 5, 3) := by decide +kernel
theorem dX12_run_8 : decode cX12_run 8 = .ok (.iconst (-1), 1) := by decide +kernel
theorem dX12_run_9 : decode cX12_run 9 = .ok (.ireturn, 1) := by decide +kernel
theorem dX12_run_10 : decode cX12_run 10 = .ok (.aload_n 0, 1) := by decide +kernel
theorem dX12_run_11 : decode cX12_run 11 = .ok (.iconst 1, 1) := by decide +kernel
theorem dX12_run_12 : decode cX12_run 12 = .ok (.putfield 334, 3) := by decide +kernel
theorem dX12_run_15 : decode cX12_run 15 = .ok (.aload_n 0, 1) := by decide +kernel
theorem dX12_run_16 : decode cX12_run 16 = .ok (.iconst 0, 1) := by decide +kernel
theorem dX12_run_17 : decode cX12_run 17 = .ok (.putfield 322, 3) := by decide +kernel
theorem dX12_run_20 : decode cX12_run 20 = .ok (.aload_n 0, 1) := by decide +kernel
theorem dX12_run_21 : decode cX12_run 21 = .ok (.iconst (-1), 1) := by decide +kernel
theorem dX12_run_22 : decode cX12_run 22 = .ok (.putfield 325, 3) := by decide +kernel
theorem dX12_run_25 : decode cX12_run 25 = .ok (.aload_n 0, 1) := by decide +kernel
theorem dX12_run_26 : decode cX12_run 26 = .ok (.iconst 0, 1) := by decide +kernel
theorem dX12_run_27 : decode cX12_run 27 = .ok (.putfield 328, 3) := by decide +kernel
theorem dX12_run_30 : decode cX12_run 30 = .ok (.aload_n 0, 1) := by decide +kernel
theorem dX12_run_31 : decode cX12_run 31 = .ok (.iconst 0, 1) := by decide +kernel
theorem dX12_run_32 : decode cX12_run 32 = .ok (.putfield 316, 3) := by decide +kernel
theorem dX12_run_35 : decode cX12_run 35 = .ok (.iconst 0, 1) := by decide +kernel
theorem dX12_run_36 : decode cX12_run 36 = .ok (.istore_n 2, 1) := by decide +kernel
theorem dX12_run_37 : decode cX12_run 37 = .ok (.iload_n 2, 1) := by decide +kernel
theorem dX12_run_38 : decode cX12_run 38 = .ok (.bipush 60, 2) := by decide +kernel
theorem dX12_run_40 : decode cX12_run 40 = .ok (.if_icmp .ge 16, 3) := by decide +kernel
theorem dX12_run_43 : decode cX12_run 43 = .ok (.aload_n 0, 1) := by decide +kernel
theorem dX12_run_44 : decode cX12_run 44 = .ok (.getfield 98, 3) := by decide +kernel
theorem dX12_run_47 : decode cX12_run 47 = .ok (.iload_n 2, 1) := by decide +kernel
theorem dX12_run_48 : decode cX12_run 48 = .ok (.iconst 0, 1) := by decide +kernel
theorem dX12_run_49 : decode cX12_run 49 = .ok (.bastore, 1) := by decide +kernel
theorem dX12_run_50 : decode cX12_run 50 = .ok (.iinc 2 1, 3) := by decide +kernel
theorem dX12_run_53 : decode cX12_run 53 = .ok (.goto (-16), 3) := by decide +kernel
theorem dX12_run_56 : decode cX12_run 56 = .ok (.iconst 0, 1) := by decide +kernel
theorem dX12_run_57 : decode cX12_run 57 = .ok (.istore_n 2, 1) := by decide +kernel
theorem dX12_run_58 : decode cX12_run 58 = .ok (.iload_n 2, 1) := by decide +kernel
theorem dX12_run_59 : decode cX12_run 59 = .ok (.aload_n 0, 1) := by decide +kernel
theorem dX12_run_60 : decode cX12_run 60 = .ok (.getfield 313, 3) := by decide +kernel
theorem dX12_run_63 : decode cX12_run 63 = .ok (.if_icmp .ge 18, 3) := by decide +kernel
theorem dX12_run_66 : decode cX12_run 66 = .ok (.aload_n 0, 1) := by decide +kernel
theorem dX12_run_67 : decode cX12_run 67 = .ok (.iload_n 2, 1) := by decide +kernel
theorem dX12_run_68 : decode cX12_run 68 = .ok (.iload_n 1, 1) := by decide +kernel
theorem dX12_run_69 : decode cX12_run 69 = .ok (.invokevirtual 337, 3) := by decide +kernel
theorem dX12_run_72 : decode cX12_run 72 = .ok (.ifCond .eq 9, 3) := by decide +kernel
theorem dX12_run_75 : decode cX12_run 75 = .ok (.iinc 2 1, 3) := by decide +kernel
theorem dX12_run_78 : decode cX12_run 78 = .ok (.goto (-20), 3) := by decide +kernel
theorem dX12_run_81 : decode cX12_run 81 = .ok (.iload_n 2, 1) := by decide +kernel
theorem dX12_run_82 : decode cX12_run 82 = .ok (.ireturn, 1) := by decide +kernel
theorem dX12_ran_0 : decode cX12_ran 0 = .ok (.aload_n 0, 1) := by decide +kernel
theorem dX12_ran_1 : decode cX12_ran 1 = .ok (.getfield 334, 3) := by decide +kernel
theorem dX12_ran_4 : decode cX12_ran 4 = .ok (.ifCond .ne 7, 3) := by decide +kernel
theorem dX12_ran_7 : decode cX12_ran 7 = .ok (.iconst (-1), 1) := by decide +kernel
theorem dX12_ran_8 : decode cX12_ran 8 = .ok (.goto 51, 3) := by decide +kernel
theorem dX12_ran_11 : decode cX12_ran 11 = .ok (.iload_n 1, 1) := by decide +kernel
theorem dX12_ran_12 : decode cX12_ran 12 = .ok (.ifCond .ne 10, 3) := by decide +kernel
theorem dX12_ran_15 : decode cX12_ran 15 = .ok (.aload_n 0, 1) := by decide +kernel
theorem dX12_ran_16 : decode cX12_ran 16 = .ok (.getfield 322, 3) := by decide +kernel
theorem dX12_ran_19 : decode cX12_ran 19 = .ok (.goto 40, 3) := by decide +kernel
theorem dX12_ran_22 : decode cX12_ran 22 = .ok (.iload_n 1, 1) := by decide +kernel
theorem dX12_ran_23 : decode cX12_ran 23 = .ok (.iconst 1, 1) := by decide +kernel
theorem dX12_ran_24 : decode cX12_ran 24 = .ok (.if_icmp .ne 10, 3) := by decide +kernel
theorem dX12_ran_27 : decode cX12_ran 27 = .ok (.aload_n 0, 1) := by decide +kernel
theorem dX12_ran_28 : decode cX12_ran 28 = .ok (.getfield 325, 3) := by decide +kernel
theorem dX12_ran_31 : decode cX12_ran 31 = .ok (.goto 28, 3) := by decide +kernel
theorem dX12_ran_34 : decode cX12_ran 34 = .ok (.iload_n 1, 1) := by decide +kernel
theorem dX12_ran_35 : decode cX12_ran 35 = .ok (.iconst 2, 1) := by decide +kernel
theorem dX12_ran_36 : decode cX12_ran 36 = .ok (.if_icmp .ne 10, 3) := by decide +kernel
theorem dX12_ran_39 : decode cX12_ran 39 = .ok (.aload_n 0, 1) := by decide +kernel
theorem dX12_ran_40 : decode cX12_ran 40 = .ok (.getfield 328, 3) := by decide +kernel
theorem dX12_ran_43 : decode cX12_ran 43 = .ok (.goto 16, 3) := by decide +kernel
theorem dX12_ran_46 : decode cX12_ran 46 = .ok (.iload_n 1, 1) := by decide +kernel
theorem dX12_ran_47 : decode cX12_ran 47 = .ok (.iconst 3, 1) := by decide +kernel
theorem dX12_ran_48 : decode cX12_ran 48 = .ok (.if_icmp .ne 10, 3) := by decide +kernel
theorem dX12_ran_51 : decode cX12_ran 51 = .ok (.aload_n 0, 1) := by decide +kernel
theorem dX12_ran_52 : decode cX12_ran 52 = .ok (.getfield 316, 3) := by decide +kernel
theorem dX12_ran_55 : decode cX12_ran 55 = .ok (.goto 4, 3) := by decide +kernel
theorem dX12_ran_58 : decode cX12_ran 58 = .ok (.iconst (-1), 1) := by decide +kernel
theorem dX12_ran_59 : decode cX12_ran 59 = .ok (.ireturn, 1) := by decide +kernel
theorem dX12_read_0 : decode cX12_read 0 = .ok (.aload_n 0, 1) := by decide +kernel
theorem dX12_read_1 : decode cX12_read 1 = .ok (.getfield 334, 3) := by decide +kernel
theorem dX12_read_4 : decode cX12_read 4 = .ok (.ifCond .eq 35, 3) := by decide +kernel
theorem dX12_read_7 : decode cX12_read 7 = .ok (.iload_n 1, 1) := by decide +kernel
theorem dX12_read_8 : decode cX12_read 8 = .ok (.ifCond .lt 31, 3) := by decide +kernel
theorem dX12_read_11 : decode cX12_read 11 = .ok (.iload_n 1, 1) := by decide +kernel
theorem dX12_read_12 : decode cX12_read 12 = .ok (.aload_n 0, 1) := by decide +kernel
theorem dX12_read_13 : decode cX12_read 13 = .ok (.getfield 316, 3) := by decide +kernel
theorem dX12_read_16 : decode cX12_read 16 = .ok (.if_icmp .ge 23, 3) := by decide +kernel
theorem dX12_read_19 : decode cX12_read 19 = .ok (.iload_n 1, 1) := by decide +kernel
theorem dX12_read_20 : decode cX12_read 20 = .ok (.bipush 40, 2) := by decide +kernel
theorem dX12_read_22 : decode cX12_read 22 = .ok (.if_icmp .ge 17, 3) := by decide +kernel
theorem dX12_read_25 : decode cX12_read 25 = .ok (.iload_n 2, 1) := by decide +kernel
theorem dX12_read_26 : decode cX12_read 26 = .ok (.ifCond .lt 13, 3) := by decide +kernel
theorem dX12_read_29 : decode cX12_read 29 = .ok (.iload_n 2, 1) := by decide +kernel
theorem dX12_read_30 : decode cX12_read 30 = .ok (.aload_n 0, 1) := by decide +kernel
theorem dX12_read_31 : decode cX12_read 31 = .ok (.getfield 104, 3) := by decide +kernel
theorem dX12_read_34 : decode cX12_read 34 = .ok (.iload_n 1, 1) := by decide +kernel
theorem dX12_read_35 : decode cX12_read 35 = .ok (.iaload, 1) := by decide +kernel
theorem dX12_read_36 : decode cX12_read 36 = .ok (.if_icmp .lt 7, 3) := by decide +kernel
theorem dX12_read_39 : decode cX12_read 39 = .ok (.iconst (-1), 1) := by decide +kernel
theorem dX12_read_40 : decode cX12_read 40 = .ok (.goto 18, 3) := by decide +kernel
theorem dX12_read_43 : decode cX12_read 43 = .ok (.aload_n 0, 1) := by decide +kernel
theorem dX12_read_44 : decode cX12_read 44 = .ok (.getfield 107, 3) := by decide +kernel
theorem dX12_read_47 : decode cX12_read 47 = .ok (.bipush 16, 2) := by decide +kernel
theorem dX12_read_49 : decode cX12_read 49 = .ok (.iload_n 1, 1) := by decide +kernel
theorem dX12_read_50 : decode cX12_read 50 = .ok (.imul, 1) := by decide +kernel
theorem dX12_read_51 : decode cX12_read 51 = .ok (.iload_n 2, 1) := by decide +kernel
theorem dX12_read_52 : decode cX12_read 52 = .ok (.iadd, 1) := by decide +kernel
theorem dX12_read_53 : decode cX12_read 53 = .ok (.baload, 1) := by decide +kernel
theorem dX12_read_54 : decode cX12_read 54 = .ok (.sipush 255, 3) := by decide +kernel
theorem dX12_read_57 : decode cX12_read 57 = .ok (.iand, 1) := by decide +kernel
theorem dX12_read_58 : decode cX12_read 58 = .ok (.ireturn, 1) := by decide +kernel
theorem dX12_about_0 : decode cX12_about 0 = .ok (.iload_n 1, 1) := by decide +kernel
theorem dX12_about_1 : decode cX12_about 1 = .ok (.tableswitch 51 0 3 #[31, 36, 41, 46], 31) := by decide +kernel
theorem dX12_about_32 : decode cX12_about 32 = .ok (.aload_n 0, 1) := by decide +kernel
theorem dX12_about_33 : decode cX12_about 33 = .ok (.getfield 65, 3) := by decide +kernel
theorem dX12_about_36 : decode cX12_about 36 = .ok (.ireturn, 1) := by decide +kernel
theorem dX12_about_37 : decode cX12_about 37 = .ok (.aload_n 0, 1) := by decide +kernel
theorem dX12_about_38 : decode cX12_about 38 = .ok (.getfield 275, 3) := by decide +kernel
theorem dX12_about_41 : decode cX12_about 41 = .ok (.ireturn, 1) := by decide +kernel
theorem dX12_about_42 : decode cX12_about 42 = .ok (.aload_n 0, 1) := by decide +kernel
theorem dX12_about_43 : decode cX12_about 43 = .ok (.getfield 313, 3) := by decide +kernel
theorem dX12_about_46 : decode cX12_about 46 = .ok (.ireturn, 1) := by decide +kernel
theorem dX12_about_47 : decode cX12_about 47 = .ok (.aload_n 0, 1) := by decide +kernel
theorem dX12_about_48 : decode cX12_about 48 = .ok (.getfield 171, 3) := by decide +kernel
theorem dX12_about_51 : decode cX12_about 51 = .ok (.ireturn, 1) := by decide +kernel
theorem dX12_about_52 : decode cX12_about 52 = .ok (.iload_n 1, 1) := by decide +kernel
theorem dX12_about_53 : decode cX12_about 53 = .ok (.bipush 10, 2) := by decide +kernel
theorem dX12_about_55 : decode cX12_about 55 = .ok (.isub, 1) := by decide +kernel
theorem dX12_about_56 : decode cX12_about 56 = .ok (.invokestatic 168, 3) := by decide +kernel
theorem dX12_about_59 : decode cX12_about 59 = .ok (.ifCond .eq 15, 3) := by decide +kernel
theorem dX12_about_62 : decode cX12_about 62 = .ok (.aload_n 0, 1) := by decide +kernel
theorem dX12_about_63 : decode cX12_about 63 = .ok (.getfield 20, 3) := by decide +kernel
theorem dX12_about_66 : decode cX12_about 66 = .ok (.iload_n 1, 1) := by decide +kernel
theorem dX12_about_67 : decode cX12_about 67 = .ok (.bipush 10, 2) := by decide +kernel
theorem dX12_about_69 : decode cX12_about 69 = .ok (.isub, 1) := by decide +kernel
theorem dX12_about_70 : decode cX12_about 70 = .ok (.iaload, 1) := by decide +kernel
theorem dX12_about_71 : decode cX12_about 71 = .ok (.goto 4, 3) := by decide +kernel
theorem dX12_about_74 : decode cX12_about 74 = .ok (.iconst (-1), 1) := by decide +kernel
theorem dX12_about_75 : decode cX12_about 75 = .ok (.ireturn, 1) := by decide +kernel
theorem dX12_feed_0 : decode cX12_feed 0 = .ok (.aload_n 0, 1) := by decide +kernel
theorem dX12_feed_1 : decode cX12_feed 1 = .ok (.getfield 171, 3) := by decide +kernel
theorem dX12_feed_4 : decode cX12_feed 4 = .ok (.bipush 20, 2) := by decide +kernel
theorem dX12_feed_6 : decode cX12_feed 6 = .ok (.iadd, 1) := by decide +kernel
theorem dX12_feed_7 : decode cX12_feed 7 = .ok (.sipush 1600, 3) := by decide +kernel
theorem dX12_feed_10 : decode cX12_feed 10 = .ok (.if_icmp .le 5, 3) := by decide +kernel
theorem dX12_feed_13 : decode cX12_feed 13 = .ok (.iconst (-1), 1) := by decide +kernel
theorem dX12_feed_14 : decode cX12_feed 14 = .ok (.ireturn, 1) := by decide +kernel
theorem dX12_feed_15 : decode cX12_feed 15 = .ok (.iconst 0, 1) := by decide +kernel
theorem dX12_feed_16 : decode cX12_feed 16 = .ok (.istore 6, 2) := by decide +kernel
theorem dX12_feed_18 : decode cX12_feed 18 = .ok (.iload 6, 2) := by decide +kernel
theorem dX12_feed_20 : decode cX12_feed 20 = .ok (.bipush 20, 2) := by decide +kernel
theorem dX12_feed_22 : decode cX12_feed 22 = .ok (.if_icmp .ge 83, 3) := by decide +kernel
theorem dX12_feed_25 : decode cX12_feed 25 = .ok (.iload 6, 2) := by decide +kernel
theorem dX12_feed_27 : decode cX12_feed 27 = .ok (.iconst 4, 1) := by decide +kernel
theorem dX12_feed_28 : decode cX12_feed 28 = .ok (.if_icmp .ge 7, 3) := by decide +kernel
theorem dX12_feed_31 : decode cX12_feed 31 = .ok (.iload_n 1, 1) := by decide +kernel
theorem dX12_feed_32 : decode cX12_feed 32 = .ok (.goto 39, 3) := by decide +kernel
theorem dX12_feed_35 : decode cX12_feed 35 = .ok (.iload 6, 2) := by decide +kernel
theorem dX12_feed_37 : decode cX12_feed 37 = .ok (.bipush 8, 2) := by decide +kernel
theorem dX12_feed_39 : decode cX12_feed 39 = .ok (.if_icmp .ge 7, 3) := by decide +kernel
theorem dX12_feed_42 : decode cX12_feed 42 = .ok (.iload_n 2, 1) := by decide +kernel
theorem dX12_feed_43 : decode cX12_feed 43 = .ok (.goto 28, 3) := by decide +kernel
theorem dX12_feed_46 : decode cX12_feed 46 = .ok (.iload 6, 2) := by decide +kernel
theorem dX12_feed_48 : decode cX12_feed 48 = .ok (.bipush 12, 2) := by decide +kernel
theorem dX12_feed_50 : decode cX12_feed 50 = .ok (.if_icmp .ge 7, 3) := by decide +kernel
theorem dX12_feed_53 : decode cX12_feed 53 = .ok (.iload_n 3, 1) := by decide +kernel
theorem dX12_feed_54 : decode cX12_feed 54 = .ok (.goto 17, 3) := by decide +kernel
theorem dX12_feed_57 : decode cX12_feed 57 = .ok (.iload 6, 2) := by decide +kernel
theorem dX12_feed_59 : decode cX12_feed 59 = .ok (.bipush 16, 2) := by decide +kernel
theorem dX12_feed_61 : decode cX12_feed 61 = .ok (.if_icmp .ge 8, 3) := by decide +kernel
theorem dX12_feed_64 : decode cX12_feed 64 = .ok (.iload 4, 2) := by decide +kernel
theorem dX12_feed_66 : decode cX12_feed 66 = .ok (.goto 5, 3) := by decide +kernel
theorem dX12_feed_69 : decode cX12_feed 69 = .ok (.iload 5, 2) := by decide +kernel
theorem dX12_feed_71 : decode cX12_feed 71 = .ok (.istore 7, 2) := by decide +kernel
theorem dX12_feed_73 : decode cX12_feed 73 = .ok (.aload_n 0, 1) := by decide +kernel
theorem dX12_feed_74 : decode cX12_feed 74 = .ok (.getfield 7, 3) := by decide +kernel
theorem dX12_feed_77 : decode cX12_feed 77 = .ok (.aload_n 0, 1) := by decide +kernel
theorem dX12_feed_78 : decode cX12_feed 78 = .ok (.getfield 171, 3) := by decide +kernel
theorem dX12_feed_81 : decode cX12_feed 81 = .ok (.iload 6, 2) := by decide +kernel
theorem dX12_feed_83 : decode cX12_feed 83 = .ok (.iadd, 1) := by decide +kernel
theorem dX12_feed_84 : decode cX12_feed 84 = .ok (.iload 7, 2) := by decide +kernel
theorem dX12_feed_86 : decode cX12_feed 86 = .ok (.bipush 24, 2) := by decide +kernel
theorem dX12_feed_88 : decode cX12_feed 88 = .ok (.bipush 8, 2) := by decide +kernel
theorem dX12_feed_90 : decode cX12_feed 90 = .ok (.iload 6, 2) := by decide +kernel
theorem dX12_feed_92 : decode cX12_feed 92 = .ok (.iconst 3, 1) := by decide +kernel
theorem dX12_feed_93 : decode cX12_feed 93 = .ok (.iand, 1) := by decide +kernel
theorem dX12_feed_94 : decode cX12_feed 94 = .ok (.imul, 1) := by decide +kernel
theorem dX12_feed_95 : decode cX12_feed 95 = .ok (.isub, 1) := by decide +kernel
theorem dX12_feed_96 : decode cX12_feed 96 = .ok (.ishr, 1) := by decide +kernel
theorem dX12_feed_97 : decode cX12_feed 97 = .ok (.i2b, 1) := by decide +kernel
theorem dX12_feed_98 : decode cX12_feed 98 = .ok (.bastore, 1) := by decide +kernel
theorem dX12_feed_99 : decode cX12_feed 99 = .ok (.iinc 6 1, 3) := by decide +kernel
theorem dX12_feed_102 : decode cX12_feed 102 = .ok (.goto (-84), 3) := by decide +kernel
theorem dX12_feed_105 : decode cX12_feed 105 = .ok (.aload_n 0, 1) := by decide +kernel
theorem dX12_feed_106 : decode cX12_feed 106 = .ok (.dup, 1) := by decide +kernel
theorem dX12_feed_107 : decode cX12_feed 107 = .ok (.getfield 171, 3) := by decide +kernel
theorem dX12_feed_110 : decode cX12_feed 110 = .ok (.bipush 20, 2) := by decide +kernel
theorem dX12_feed_112 : decode cX12_feed 112 = .ok (.iadd, 1) := by decide +kernel
theorem dX12_feed_113 : decode cX12_feed 113 = .ok (.putfield 171, 3) := by decide +kernel
theorem dX12_feed_116 : decode cX12_feed 116 = .ok (.aload_n 0, 1) := by decide +kernel
theorem dX12_feed_117 : decode cX12_feed 117 = .ok (.getfield 171, 3) := by decide +kernel
theorem dX12_feed_120 : decode cX12_feed 120 = .ok (.ireturn, 1) := by decide +kernel
theorem dX12_end_0 : decode cX12_end 0 = .ok (.iload_n 1, 1) := by decide +kernel
theorem dX12_end_1 : decode cX12_end 1 = .ok (.ifCond .lt 11, 3) := by decide +kernel
theorem dX12_end_4 : decode cX12_end 4 = .ok (.iload_n 1, 1) := by decide +kernel
theorem dX12_end_5 : decode cX12_end 5 = .ok (.aload_n 0, 1) := by decide +kernel
theorem dX12_end_6 : decode cX12_end 6 = .ok (.getfield 171, 3) := by decide +kernel
theorem dX12_end_9 : decode cX12_end 9 = .ok (.if_icmp .le 5, 3) := by decide +kernel
theorem dX12_end_12 : decode cX12_end 12 = .ok (.iconst (-1), 1) := by decide +kernel
theorem dX12_end_13 : decode cX12_end 13 = .ok (.ireturn, 1) := by decide +kernel
theorem dX12_end_14 : decode cX12_end 14 = .ok (.aload_n 0, 1) := by decide +kernel
theorem dX12_end_15 : decode cX12_end 15 = .ok (.iload_n 1, 1) := by decide +kernel
theorem dX12_end_16 : decode cX12_end 16 = .ok (.putfield 171, 3) := by decide +kernel
theorem dX12_end_19 : decode cX12_end 19 = .ok (.iload_n 1, 1) := by decide +kernel
theorem dX12_end_20 : decode cX12_end 20 = .ok (.ireturn, 1) := by decide +kernel
