theorem dX12_init_0 : decode cX12_init 0 = .ok (.aload_n 0, 1) := by decide +kernel
theorem dX12_init_1 : decode cX12_init 1 = .ok (.invokespecial 1, 3) := by decide +kernel
theorem dX12_init_4 : decode cX12_init 4 = .ok (.aload_n 0, 1) := by decide +kernel
theorem dX12_init_5 : decode cX12_init 5 = .ok (.sipush 288, 3) := by decide +kernel
theorem dX12_init_8 : decode cX12_init 8 = .ok (.newarray .boolean, 2) := by decide +kernel
theorem dX12_init_10 : decode cX12_init 10 = .ok (.putfield 7, 3) := by decide +kernel
theorem dX12_init_13 : decode cX12_init 13 = .ok (.aload_n 0, 1) := by decide +kernel
theorem dX12_init_14 : decode cX12_init 14 = .ok (.bipush 36, 2) := by decide +kernel
theorem dX12_init_16 : decode cX12_init 16 = .ok (.newarray .int, 2) := by decide +kernel
theorem dX12_init_18 : decode cX12_init 18 = .ok (.putfield 13, 3) := by decide +kernel
theorem dX12_init_21 : decode cX12_init 21 = .ok (.aload_n 0, 1) := by decide +kernel
theorem dX12_init_22 : decode cX12_init 22 = .ok (.bipush 36, 2) := by decide +kernel
theorem dX12_init_24 : decode cX12_init 24 = .ok (.newarray .int, 2) := by decide +kernel
theorem dX12_init_26 : decode cX12_init 26 = .ok (.putfield 17, 3) := by decide +kernel
theorem dX12_init_29 : decode cX12_init 29 = .ok (.aload_n 0, 1) := by decide +kernel
theorem dX12_init_30 : decode cX12_init 30 = .ok (.iconst 5, 1) := by decide +kernel
theorem dX12_init_31 : decode cX12_init 31 = .ok (.putfield 20, 3) := by decide +kernel
theorem dX12_init_34 : decode cX12_init 34 = .ok (.aload_n 0, 1) := by decide +kernel
theorem dX12_init_35 : decode cX12_init 35 = .ok (.bipush 20, 2) := by decide +kernel
theorem dX12_init_37 : decode cX12_init 37 = .ok (.putfield 24, 3) := by decide +kernel
theorem dX12_init_40 : decode cX12_init 40 = .ok (.aload_n 0, 1) := by decide +kernel
theorem dX12_init_41 : decode cX12_init 41 = .ok (.bipush 10, 2) := by decide +kernel
theorem dX12_init_43 : decode cX12_init 43 = .ok (.newarray .int, 2) := by decide +kernel
theorem dX12_init_45 : decode cX12_init 45 = .ok (.putfield 27, 3) := by decide +kernel
theorem dX12_init_48 : decode cX12_init 48 = .ok (.aload_n 0, 1) := by decide +kernel
theorem dX12_init_49 : decode cX12_init 49 = .ok (.bipush 10, 2) := by decide +kernel
theorem dX12_init_51 : decode cX12_init 51 = .ok (.newarray .int, 2) := by decide +kernel
theorem dX12_init_53 : decode cX12_init 53 = .ok (.putfield 30, 3) := by decide +kernel
theorem dX12_init_56 : decode cX12_init 56 = .ok (.aload_n 0, 1) := by decide +kernel
theorem dX12_init_57 : decode cX12_init 57 = .ok (.bipush 10, 2) := by decide +kernel
theorem dX12_init_59 : decode cX12_init 59 = .ok (.newarray .int, 2) := by decide +kernel
theorem dX12_init_61 : decode cX12_init 61 = .ok (.putfield 33, 3) := by decide +kernel
theorem dX12_init_64 : decode cX12_init 64 = .ok (.aload_n 0, 1) := by decide +kernel
theorem dX12_init_65 : decode cX12_init 65 = .ok (.bipush 10, 2) := by decide +kernel
theorem dX12_init_67 : decode cX12_init 67 = .ok (.newarray .int, 2) := by decide +kernel
theorem dX12_init_69 : decode cX12_init 69 = .ok (.putfield 36, 3) := by decide +kernel
theorem dX12_init_72 : decode cX12_init 72 = .ok (.aload_n 0, 1) := by decide +kernel
theorem dX12_init_73 : decode cX12_init 73 = .ok (.sipush 202, 3) := by decide +kernel
theorem dX12_init_76 : decode cX12_init 76 = .ok (.newarray .int, 2) := by decide +kernel
theorem dX12_init_78 : decode cX12_init 78 = .ok (.putfield 39, 3) := by decide +kernel
theorem dX12_init_81 : decode cX12_init 81 = .ok (.aload_n 0, 1) := by decide +kernel
theorem dX12_init_82 : decode cX12_init 82 = .ok (.sipush 202, 3) := by decide +kernel
theorem dX12_init_85 : decode cX12_init 85 = .ok (.newarray .int, 2) := by decide +kernel
theorem dX12_init_87 : decode cX12_init 87 = .ok (.putfield 42, 3) := by decide +kernel
theorem dX12_init_90 : decode cX12_init 90 = .ok (.aload_n 0, 1) := by decide +kernel
theorem dX12_init_91 : decode cX12_init 91 = .ok (.iconst 2, 1) := by decide +kernel
theorem dX12_init_92 : decode cX12_init 92 = .ok (.newarray .int, 2) := by decide +kernel
theorem dX12_init_94 : decode cX12_init 94 = .ok (.putfield 45, 3) := by decide +kernel
theorem dX12_init_97 : decode cX12_init 97 = .ok (.aload_n 0, 1) := by decide +kernel
theorem dX12_init_98 : decode cX12_init 98 = .ok (.iconst 2, 1) := by decide +kernel
theorem dX12_init_99 : decode cX12_init 99 = .ok (.newarray .int, 2) := by decide +kernel
theorem dX12_init_101 : decode cX12_init 101 = .ok (.putfield 48, 3) := by decide +kernel
theorem dX12_init_104 : decode cX12_init 104 = .ok (.aload_n 0, 1) := by decide +kernel
theorem dX12_init_105 : decode cX12_init 105 = .ok (.iconst (-1), 1) := by decide +kernel
theorem dX12_init_106 : decode cX12_init 106 = .ok (.putfield 51, 3) := by decide +kernel
theorem dX12_init_109 : decode cX12_init 109 = .ok (.aload_n 0, 1) := by decide +kernel
theorem dX12_init_110 : decode cX12_init 110 = .ok (.bipush 8, 2) := by decide +kernel
theorem dX12_init_112 : decode cX12_init 112 = .ok (.newarray .int, 2) := by decide +kernel
theorem dX12_init_114 : decode cX12_init 114 = .ok (.putfield 54, 3) := by decide +kernel
theorem dX12_init_117 : decode cX12_init 117 = .ok (.aload_n 0, 1) := by decide +kernel
theorem dX12_init_118 : decode cX12_init 118 = .ok (.bipush 8, 2) := by decide +kernel
theorem dX12_init_120 : decode cX12_init 120 = .ok (.newarray .int, 2) := by decide +kernel
theorem dX12_init_122 : decode cX12_init 122 = .ok (.putfield 57, 3) := by decide +kernel
theorem dX12_init_125 : decode cX12_init 125 = .ok (.aload_n 0, 1) := by decide +kernel
theorem dX12_init_126 : decode cX12_init 126 = .ok (.bipush 8, 2) := by decide +kernel
theorem dX12_init_128 : decode cX12_init 128 = .ok (.newarray .int, 2) := by decide +kernel
theorem dX12_init_130 : decode cX12_init 130 = .ok (.putfield 60, 3) := by decide +kernel
theorem dX12_init_133 : decode cX12_init 133 = .ok (.aload_n 0, 1) := by decide +kernel
theorem dX12_init_134 : decode cX12_init 134 = .ok (.bipush 8, 2) := by decide +kernel
theorem dX12_init_136 : decode cX12_init 136 = .ok (.newarray .int, 2) := by decide +kernel
theorem dX12_init_138 : decode cX12_init 138 = .ok (.putfield 63, 3) := by decide +kernel
theorem dX12_init_141 : decode cX12_init 141 = .ok (.aload_n 0, 1) := by decide +kernel
theorem dX12_init_142 : decode cX12_init 142 = .ok (.bipush 60, 2) := by decide +kernel
theorem dX12_init_144 : decode cX12_init 144 = .ok (.newarray .int, 2) := by decide +kernel
theorem dX12_init_146 : decode cX12_init 146 = .ok (.putfield 66, 3) := by decide +kernel
theorem dX12_init_149 : decode cX12_init 149 = .ok (.aload_n 0, 1) := by decide +kernel
theorem dX12_init_150 : decode cX12_init 150 = .ok (.bipush 6, 2) := by decide +kernel
theorem dX12_init_152 : decode cX12_init 152 = .ok (.newarray .int, 2) := by decide +kernel
theorem dX12_init_154 : decode cX12_init 154 = .ok (.putfield 69, 3) := by decide +kernel
theorem dX12_init_157 : decode cX12_init 157 = .ok (.aload_n 0, 1) := by decide +kernel
theorem dX12_init_158 : decode cX12_init 158 = .ok (.bipush 40, 2) := by decide +kernel
theorem dX12_init_160 : decode cX12_init 160 = .ok (.newarray .int, 2) := by decide +kernel
theorem dX12_init_162 : decode cX12_init 162 = .ok (.putfield 72, 3) := by decide +kernel
theorem dX12_init_165 : decode cX12_init 165 = .ok (.aload_n 0, 1) := by decide +kernel
theorem dX12_init_166 : decode cX12_init 166 = .ok (.bipush 16, 2) := by decide +kernel
theorem dX12_init_168 : decode cX12_init 168 = .ok (.newarray .boolean, 2) := by decide +kernel
theorem dX12_init_170 : decode cX12_init 170 = .ok (.putfield 75, 3) := by decide +kernel
theorem dX12_init_173 : decode cX12_init 173 = .ok (.aload_n 0, 1) := by decide +kernel
theorem dX12_init_174 : decode cX12_init 174 = .ok (.bipush 10, 2) := by decide +kernel
theorem dX12_init_176 : decode cX12_init 176 = .ok (.newarray .int, 2) := by decide +kernel
theorem dX12_init_178 : decode cX12_init 178 = .ok (.putfield 78, 3) := by decide +kernel
theorem dX12_init_181 : decode cX12_init 181 = .ok (.aload_n 0, 1) := by decide +kernel
theorem dX12_init_182 : decode cX12_init 182 = .ok (.bipush 10, 2) := by decide +kernel
theorem dX12_init_184 : decode cX12_init 184 = .ok (.newarray .int, 2) := by decide +kernel
theorem dX12_init_186 : decode cX12_init 186 = .ok (.putfield 81, 3) := by decide +kernel
theorem dX12_init_189 : decode cX12_init 189 = .ok (.aload_n 0, 1) := by decide +kernel
theorem dX12_init_190 : decode cX12_init 190 = .ok (.bipush 10, 2) := by decide +kernel
theorem dX12_init_192 : decode cX12_init 192 = .ok (.newarray .int, 2) := by decide +kernel
theorem dX12_init_194 : decode cX12_init 194 = .ok (.putfield 84, 3) := by decide +kernel
theorem dX12_init_197 : decode cX12_init 197 = .ok (.aload_n 0, 1) := by decide +kernel
theorem dX12_init_198 : decode cX12_init 198 = .ok (.bipush 16, 2) := by decide +kernel
theorem dX12_init_200 : decode cX12_init 200 = .ok (.newarray .int, 2) := by decide +kernel
theorem dX12_init_202 : decode cX12_init 202 = .ok (.putfield 87, 3) := by decide +kernel
theorem dX12_init_205 : decode cX12_init 205 = .ok (.aload_n 0, 1) := by decide +kernel
theorem dX12_init_206 : decode cX12_init 206 = .ok (.bipush 10, 2) := by decide +kernel
theorem dX12_init_208 : decode cX12_init 208 = .ok (.newarray .boolean, 2) := by decide +kernel
theorem dX12_init_210 : decode cX12_init 210 = .ok (.putfield 90, 3) := by decide +kernel
theorem dX12_init_213 : decode cX12_init 213 = .ok (.aload_n 0, 1) := by decide +kernel
theorem dX12_init_214 : decode cX12_init 214 = .ok (.bipush 16, 2) := by decide +kernel
theorem dX12_init_216 : decode cX12_init 216 = .ok (.newarray .boolean, 2) := by decide +kernel
theorem dX12_init_218 : decode cX12_init 218 = .ok (.putfield 93, 3) := by decide +kernel
theorem dX12_init_221 : decode cX12_init 221 = .ok (.aload_n 0, 1) := by decide +kernel
theorem dX12_init_222 : decode cX12_init 222 = .ok (.bipush 16, 2) := by decide +kernel
theorem dX12_init_224 : decode cX12_init 224 = .ok (.newarray .int, 2) := by decide +kernel
theorem dX12_init_226 : decode cX12_init 226 = .ok (.putfield 96, 3) := by decide +kernel
theorem dX12_init_229 : decode cX12_init 229 = .ok (.aload_n 0, 1) := by decide +kernel
theorem dX12_init_230 : decode cX12_init 230 = .ok (.bipush 16, 2) := by decide +kernel
theorem dX12_init_232 : decode cX12_init 232 = .ok (.newarray .int, 2) := by decide +kernel
theorem dX12_init_234 : decode cX12_init 234 = .ok (.putfield 99, 3) := by decide +kernel
theorem dX12_init_237 : decode cX12_init 237 = .ok (.aload_n 0, 1) := by decide +kernel
theorem dX12_init_238 : decode cX12_init 238 = .ok (.bipush 8, 2) := by decide +kernel
theorem dX12_init_240 : decode cX12_init 240 = .ok (.newarray .int, 2) := by decide +kernel
theorem dX12_init_242 : decode cX12_init 242 = .ok (.putfield 102, 3) := by decide +kernel
theorem dX12_init_245 : decode cX12_init 245 = .ok (.aload_n 0, 1) := by decide +kernel
theorem dX12_init_246 : decode cX12_init 246 = .ok (.bipush 8, 2) := by decide +kernel
theorem dX12_init_248 : decode cX12_init 248 = .ok (.newarray .int, 2) := by decide +kernel
theorem dX12_init_250 : decode cX12_init 250 = .ok (.putfield 105, 3) := by decide +kernel
theorem dX12_init_253 : decode cX12_init 253 = .ok (.aload_n 0, 1) := by decide +kernel
theorem dX12_init_254 : decode cX12_init 254 = .ok (.bipush 8, 2) := by decide +kernel
theorem dX12_init_256 : decode cX12_init 256 = .ok (.newarray .int, 2) := by decide +kernel
theorem dX12_init_258 : decode cX12_init 258 = .ok (.putfield 108, 3) := by decide +kernel
theorem dX12_init_261 : decode cX12_init 261 = .ok (.aload_n 0, 1) := by decide +kernel
theorem dX12_init_262 : decode cX12_init 262 = .ok (.bipush 8, 2) := by decide +kernel
theorem dX12_init_264 : decode cX12_init 264 = .ok (.newarray .int, 2) := by decide +kernel
theorem dX12_init_266 : decode cX12_init 266 = .ok (.putfield 111, 3) := by decide +kernel
theorem dX12_init_269 : decode cX12_init 269 = .ok (.aload_n 0, 1) := by decide +kernel
theorem dX12_init_270 : decode cX12_init 270 = .ok (.bipush 8, 2) := by decide +kernel
theorem dX12_init_272 : decode cX12_init 272 = .ok (.newarray .int, 2) := by decide +kernel
theorem dX12_init_274 : decode cX12_init 274 = .ok (.putfield 114, 3) := by decide +kernel
theorem dX12_init_277 : decode cX12_init 277 = .ok (.aload_n 0, 1) := by decide +kernel
theorem dX12_init_278 : decode cX12_init 278 = .ok (.sipush 1616, 3) := by decide +kernel
theorem dX12_init_281 : decode cX12_init 281 = .ok (.newarray .int, 2) := by decide +kernel
theorem dX12_init_283 : decode cX12_init 283 = .ok (.putfield 117, 3) := by decide +kernel
theorem dX12_init_286 : decode cX12_init 286 = .ok (.return_, 1) := by decide +kernel
theorem dX12_thrown_0 : decode cX12_thrown 0 = .ok (.aload_n 0, 1) := by decide +kernel
theorem dX12_thrown_1 : decode cX12_thrown 1 = .ok (.getfield 120, 3) := by decide +kernel
theorem dX12_thrown_4 : decode cX12_thrown 4 = .ok (.ireturn, 1) := by decide +kernel
theorem dX12_in_0 : decode cX12_in 0 = .ok (.iload_n 0, 1) := by decide +kernel
theorem dX12_in_1 : decode cX12_in 1 = .ok (.iload_n 1, 1) := by decide +kernel
theorem dX12_in_2 : decode cX12_in 2 = .ok (.if_icmp .lt 12, 3) := by decide +kernel
theorem dX12_in_5 : decode cX12_in 5 = .ok (.iload_n 0, 1) := by decide +kernel
theorem dX12_in_6 : decode cX12_in 6 = .ok (.iload_n 2, 1) := by decide +kernel
theorem dX12_in_7 : decode cX12_in 7 = .ok (.if_icmp .gt 7, 3) := by decide +kernel
theorem dX12_in_10 : decode cX12_in 10 = .ok (.iconst 1, 1) := by decide +kernel
theorem dX12_in_11 : decode cX12_in 11 = .ok (.goto 4, 3) := by decide +kernel
theorem dX12_in_14 : decode cX12_in 14 = .ok (.iconst 0, 1) := by decide +kernel
theorem dX12_in_15 : decode cX12_in 15 = .ok (.ireturn, 1) := by decide +kernel
set_option maxRecDepth 20000 in
theorem ggX12_isPlace_X12_in : GoodIn wsX12_isPlace wsX12_in := goodIn_r _ [4] (by decide +kernel) (by decide +kernel)
set_option maxRecDepth 20000 in
theorem gX12_isPlace_X12_in : GoodIn wsX12_isPlace (va_wsS RX12 123 yX12_in wsX12_in) := goodIn_app (goodIn_of _ (by decide +kernel)) ggX12_isPlace_X12_in
theorem dX12_isPlace_0 : decode cX12_isPlace 0 = .ok (.iload_n 0, 1) := by decide +kernel
theorem dX12_isPlace_1 : decode cX12_isPlace 1 = .ok (.iconst 0, 1) := by decide +kernel
theorem dX12_isPlace_2 : decode cX12_isPlace 2 = .ok (.sipush 239, 3) := by decide +kernel
theorem dX12_isPlace_5 : decode cX12_isPlace 5 = .ok (.invokestatic 123, 3) := by decide +kernel
theorem dX12_isPlace_8 : decode cX12_isPlace 8 = .ok (.ifCond .eq 17, 3) := by decide +kernel
theorem dX12_isPlace_11 : decode cX12_isPlace 11 = .ok (.iload_n 1, 1) := by decide +kernel
theorem dX12_isPlace_12 : decode cX12_isPlace 12 = .ok (.iconst 0, 1) := by decide +kernel
theorem dX12_isPlace_13 : decode cX12_isPlace 13 = .ok (.bipush 119, 2) := by decide +kernel
theorem dX12_isPlace_15 : decode cX12_isPlace 15 = .ok (.invokestatic 123, 3) := by decide +kernel
theorem dX12_isPlace_18 : decode cX12_isPlace 18 = .ok (.ifCond .eq 7, 3) := by decide +kernel
theorem dX12_isPlace_21 : decode cX12_isPlace 21 = .ok (.iconst 1, 1) := by decide +kernel
theorem dX12_isPlace_22 : decode cX12_isPlace 22 = .ok (.goto 4, 3) := by decide +kernel
theorem dX12_isPlace_25 : decode cX12_isPlace 25 = .ok (.iconst 0, 1) := by decide +kernel
theorem dX12_isPlace_26 : decode cX12_isPlace 26 = .ok (.ireturn, 1) := by decide +kernel
theorem dX12_isDry_0 : decode cX12_isDry 0 = .ok (.aload_n 0, 1) := by decide +kernel
theorem dX12_isDry_1 : decode cX12_isDry 1 = .ok (.getfield 7, 3) := by decide +kernel
theorem dX12_isDry_4 : decode cX12_isDry 4 = .ok (.bipush 24, 2) := by decide +kernel
theorem dX12_isDry_6 : decode cX12_isDry 6 = .ok (.iload_n 2, 1) := by decide +kernel
theorem dX12_isDry_7 : decode cX12_isDry 7 = .ok (.bipush 10, 2) := by decide +kernel
theorem dX12_isDry_9 : decode cX12_isDry 9 = .ok (.idiv, 1) := by decide +kernel
theorem dX12_isDry_10 : decode cX12_isDry 10 = .ok (.imul, 1) := by decide +kernel
theorem dX12_isDry_11 : decode cX12_isDry 11 = .ok (.iload_n 1, 1) := by decide +kernel
theorem dX12_isDry_12 : decode cX12_isDry 12 = .ok (.bipush 10, 2) := by decide +kernel
theorem dX12_isDry_14 : decode cX12_isDry 14 = .ok (.idiv, 1) := by decide +kernel
theorem dX12_isDry_15 : decode cX12_isDry 15 = .ok (.iadd, 1) := by decide +kernel
theorem dX12_isDry_16 : decode cX12_isDry 16 = .ok (.baload, 1) := by decide +kernel
theorem dX12_isDry_17 : decode cX12_isDry 17 = .ok (.ireturn, 1) := by decide +kernel
set_option maxRecDepth 20000 in
theorem ggX12_land_X12_in : GoodIn wsX12_land wsX12_in := goodIn_r _ [5] (by decide +kernel) (by decide +kernel)
set_option maxRecDepth 20000 in
theorem gX12_land_X12_in : GoodIn wsX12_land (va_wsS RX12 123 yX12_in wsX12_in) := goodIn_app (goodIn_of _ (by decide +kernel)) ggX12_land_X12_in
theorem dX12_land_0 : decode cX12_land 0 = .ok (.iload_n 1, 1) := by decide +kernel
theorem dX12_land_1 : decode cX12_land 1 = .ok (.iconst 0, 1) := by decide +kernel
theorem dX12_land_2 : decode cX12_land 2 = .ok (.bipush 11, 2) := by decide +kernel
theorem dX12_land_4 : decode cX12_land 4 = .ok (.invokestatic 123, 3) := by decide +kernel
theorem dX12_land_7 : decode cX12_land 7 = .ok (.ifCond .eq 23, 3) := by decide +kernel
theorem dX12_land_10 : decode cX12_land 10 = .ok (.iload_n 2, 1) := by decide +kernel
theorem dX12_land_11 : decode cX12_land 11 = .ok (.iconst 0, 1) := by decide +kernel
theorem dX12_land_12 : decode cX12_land 12 = .ok (.bipush 23, 2) := by decide +kernel
theorem dX12_land_14 : decode cX12_land 14 = .ok (.invokestatic 123, 3) := by decide +kernel
theorem dX12_land_17 : decode cX12_land 17 = .ok (.ifCond .eq 13, 3) := by decide +kernel
theorem dX12_land_20 : decode cX12_land 20 = .ok (.iload_n 3, 1) := by decide +kernel
theorem dX12_land_21 : decode cX12_land 21 = .ok (.iload_n 2, 1) := by decide +kernel
theorem dX12_land_22 : decode cX12_land 22 = .ok (.bipush 23, 2) := by decide +kernel
theorem dX12_land_24 : decode cX12_land 24 = .ok (.invokestatic 123, 3) := by decide +kernel
theorem dX12_land_27 : decode cX12_land 27 = .ok (.ifCond .ne 5, 3) := by decide +kernel
theorem dX12_land_30 : decode cX12_land 30 = .ok (.iconst (-1), 1) := by decide +kernel
theorem dX12_land_31 : decode cX12_land 31 = .ok (.ireturn, 1) := by decide +kernel
theorem dX12_land_32 : decode cX12_land 32 = .ok (.iconst 0, 1) := by decide +kernel
theorem dX12_land_33 : decode cX12_land 33 = .ok (.istore 5, 2) := by decide +kernel
theorem dX12_land_35 : decode cX12_land 35 = .ok (.iload_n 2, 1) := by decide +kernel
theorem dX12_land_36 : decode cX12_land 36 = .ok (.istore 6, 2) := by decide +kernel
theorem dX12_land_38 : decode cX12_land 38 = .ok (.iload 6, 2) := by decide +kernel
theorem dX12_land_40 : decode cX12_land 40 = .ok (.iload_n 3, 1) := by decide +kernel
theorem dX12_land_41 : decode cX12_land 41 = .ok (.if_icmp .gt 50, 3) := by decide +kernel
theorem dX12_land_44 : decode cX12_land 44 = .ok (.iload 5, 2) := by decide +kernel
theorem dX12_land_46 : decode cX12_land 46 = .ok (.aload_n 0, 1) := by decide +kernel
theorem dX12_land_47 : decode cX12_land 47 = .ok (.getfield 7, 3) := by decide +kernel
theorem dX12_land_50 : decode cX12_land 50 = .ok (.bipush 24, 2) := by decide +kernel
theorem dX12_land_52 : decode cX12_land 52 = .ok (.iload_n 1, 1) := by decide +kernel
theorem dX12_land_53 : decode cX12_land 53 = .ok (.imul, 1) := by decide +kernel
theorem dX12_land_54 : decode cX12_land 54 = .ok (.iload 6, 2) := by decide +kernel
theorem dX12_land_56 : decode cX12_land 56 = .ok (.iadd, 1) := by decide +kernel
theorem dX12_land_57 : decode cX12_land 57 = .ok (.baload, 1) := by decide +kernel
theorem dX12_land_58 : decode cX12_land 58 = .ok (.iload 4, 2) := by decide +kernel
theorem dX12_land_60 : decode cX12_land 60 = .ok (.if_icmp .eq 7, 3) := by decide +kernel
theorem dX12_land_63 : decode cX12_land 63 = .ok (.iconst 1, 1) := by decide +kernel
theorem dX12_land_64 : decode cX12_land 64 = .ok (.goto 4, 3) := by decide +kernel
theorem dX12_land_67 : decode cX12_land 67 = .ok (.iconst 0, 1) := by decide +kernel
theorem dX12_land_68 : decode cX12_land 68 = .ok (.iadd, 1) := by decide +kernel
theorem dX12_land_69 : decode cX12_land 69 = .ok (.istore 5, 2) := by decide +kernel
theorem dX12_land_71 : decode cX12_land 71 = .ok (.aload_n 0, 1) := by decide +kernel
theorem dX12_land_72 : decode cX12_land 72 = .ok (.getfield 7, 3) := by decide +kernel
theorem dX12_land_75 : decode cX12_land 75 = .ok (.bipush 24, 2) := by decide +kernel
theorem dX12_land_77 : decode cX12_land 77 = .ok (.iload_n 1, 1) := by decide +kernel
theorem dX12_land_78 : decode cX12_land 78 = .ok (.imul, 1) := by decide +kernel
theorem dX12_land_79 : decode cX12_land 79 = .ok (.iload 6, 2) := by decide +kernel
theorem dX12_land_81 : decode cX12_land 81 = .ok (.iadd, 1) := by decide +kernel
theorem dX12_land_82 : decode cX12_land 82 = .ok (.iload 4, 2) := by decide +kernel
theorem dX12_land_84 : decode cX12_land 84 = .ok (.bastore, 1) := by decide +kernel
theorem dX12_land_85 : decode cX12_land 85 = .ok (.iinc 6 1, 3) := by decide +kernel
theorem dX12_land_88 : decode cX12_land 88 = .ok (.goto (-50), 3) := by decide +kernel
theorem dX12_land_91 : decode cX12_land 91 = .ok (.iload 5, 2) := by decide +kernel
theorem dX12_land_93 : decode cX12_land 93 = .ok (.ireturn, 1) := by decide +kernel
set_option maxRecDepth 20000 in
theorem ggX12_isLand_X12_isPlace : GoodIn wsX12_isLand wsX12_isPlace := goodIn_r _ [4, 5, 6, 3, 7] (by decide +kernel) (by decide +kernel)
set_option maxRecDepth 20000 in
theorem gX12_isLand_X12_isPlace : GoodIn wsX12_isLand (va_wsS RX12 127 yX12_isPlace wsX12_isPlace) := goodIn_app (goodIn_of _ (by decide +kernel)) ggX12_isLand_X12_isPlace
set_option maxRecDepth 20000 in
theorem ggX12_isLand_X12_isDry : GoodIn wsX12_isLand wsX12_isDry := goodIn_r _ [11, 12, 13, 14, 15, 16, 17, 18, 19, 20, 21, 22, 23, 24, 25, 26, 27, 28, 29, 30, 31, 32, 33, 34, 35, 36, 37, 38, 39, 40, 41, 42, 43, 44, 45, 46, 47, 48, 49, 50, 51, 52, 53, 54] (by decide +kernel) (by decide +kernel)
set_option maxRecDepth 20000 in
theorem gX12_isLand_X12_isDry : GoodIn wsX12_isLand (wsV RX12 131 RX12 yX12_isDry wsX12_isDry) := goodIn_app (goodIn_of _ (by decide +kernel)) ggX12_isLand_X12_isDry
theorem dX12_isLand_0 : decode cX12_isLand 0 = .ok (.iload_n 1, 1) := by decide +kernel
theorem dX12_isLand_1 : decode cX12_isLand 1 = .ok (.iload_n 2, 1) := by decide +kernel
theorem dX12_isLand_2 : decode cX12_isLand 2 = .ok (.invokestatic 127, 3) := by decide +kernel
theorem dX12_isLand_5 : decode cX12_isLand 5 = .ok (.ifCond .ne 7, 3) := by decide +kernel
theorem dX12_isLand_8 : decode cX12_isLand 8 = .ok (.iconst (-1), 1) := by decide +kernel
theorem dX12_isLand_9 : decode cX12_isLand 9 = .ok (.goto 17, 3) := by decide +kernel
theorem dX12_isLand_12 : decode cX12_isLand 12 = .ok (.aload_n 0, 1) := by decide +kernel
theorem dX12_isLand_13 : decode cX12_isLand 13 = .ok (.iload_n 1, 1) := by decide +kernel
theorem dX12_isLand_14 : decode cX12_isLand 14 = .ok (.iload_n 2, 1) := by decide +kernel
theorem dX12_isLand_15 : decode cX12_isLand 15 = .ok (.invokevirtual 131, 3) := by decide +kernel
theorem dX12_isLand_18 : decode cX12_isLand 18 = .ok (.ifCond .eq 7, 3) := by decide +kernel
theorem dX12_isLand_21 : decode cX12_isLand 21 = .ok (.iconst 1, 1) := by decide +kernel
theorem dX12_isLand_22 : decode cX12_isLand 22 = .ok (.goto 4, 3) := by decide +kernel
theorem dX12_isLand_25 : decode cX12_isLand 25 = .ok (.iconst 0, 1) := by decide +kernel
theorem dX12_isLand_26 : decode cX12_isLand 26 = .ok (.ireturn, 1) := by decide +kernel
set_option maxRecDepth 20000 in
theorem ggX12_tide_X12_in : GoodIn wsX12_tide wsX12_in := goodIn_r _ [6] (by decide +kernel) (by decide +kernel)
set_option maxRecDepth 20000 in
theorem gX12_tide_X12_in : GoodIn wsX12_tide (va_wsS RX12 123 yX12_in wsX12_in) := goodIn_app (goodIn_of _ (by decide +kernel)) ggX12_tide_X12_in
theorem dX12_tide_0 : decode cX12_tide 0 = .ok (.iload_n 1, 1) := by decide +kernel
theorem dX12_tide_1 : decode cX12_tide 1 = .ok (.iconst 0, 1) := by decide +kernel
theorem dX12_tide_2 : decode cX12_tide 2 = .ok (.iconst 2, 1) := by decide +kernel
theorem dX12_tide_3 : decode cX12_tide 3 = .ok (.invokestatic 123, 3) := by decide +kernel
theorem dX12_tide_6 : decode cX12_tide 6 = .ok (.ifCond .eq 36, 3) := by decide +kernel
theorem dX12_tide_9 : decode cX12_tide 9 = .ok (.iload_n 2, 1) := by decide +kernel
theorem dX12_tide_10 : decode cX12_tide 10 = .ok (.iconst 0, 1) := by decide +kernel
theorem dX12_tide_11 : decode cX12_tide 11 = .ok (.bipush 11, 2) := by decide +kernel
theorem dX12_tide_13 : decode cX12_tide 13 = .ok (.invokestatic 123, 3) := by decide +kernel
theorem dX12_tide_16 : decode cX12_tide 16 = .ok (.ifCond .eq 26, 3) := by decide +kernel
theorem dX12_tide_19 : decode cX12_tide 19 = .ok (.iload_n 3, 1) := by decide +kernel
theorem dX12_tide_20 : decode cX12_tide 20 = .ok (.bipush (-9), 2) := by decide +kernel
theorem dX12_tide_22 : decode cX12_tide 22 = .ok (.bipush 9, 2) := by decide +kernel
theorem dX12_tide_24 : decode cX12_tide 24 = .ok (.invokestatic 123, 3) := by decide +kernel
theorem dX12_tide_27 : decode cX12_tide 27 = .ok (.ifCond .eq 15, 3) := by decide +kernel
theorem dX12_tide_30 : decode cX12_tide 30 = .ok (.iload 4, 2) := by decide +kernel
theorem dX12_tide_32 : decode cX12_tide 32 = .ok (.bipush (-9), 2) := by decide +kernel
theorem dX12_tide_34 : decode cX12_tide 34 = .ok (.bipush 9, 2) := by decide +kernel
theorem dX12_tide_36 : decode cX12_tide 36 = .ok (.invokestatic 123, 3) := by decide +kernel
theorem dX12_tide_39 : decode cX12_tide 39 = .ok (.ifCond .ne 5, 3) := by decide +kernel
theorem dX12_tide_42 : decode cX12_tide 42 = .ok (.iconst (-1), 1) := by decide +kernel
theorem dX12_tide_43 : decode cX12_tide 43 = .ok (.ireturn, 1) := by decide +kernel
theorem dX12_tide_44 : decode cX12_tide 44 = .ok (.bipush 12, 2) := by decide +kernel
theorem dX12_tide_46 : decode cX12_tide 46 = .ok (.iload_n 1, 1) := by decide +kernel
theorem dX12_tide_47 : decode cX12_tide 47 = .ok (.imul, 1) := by decide +kernel
theorem dX12_tide_48 : decode cX12_tide 48 = .ok (.iload_n 2, 1) := by decide +kernel
theorem dX12_tide_49 : decode cX12_tide 49 = .ok (.iadd, 1) := by decide +kernel
theorem dX12_tide_50 : decode cX12_tide 50 = .ok (.istore 5, 2) := by decide +kernel
theorem dX12_tide_52 : decode cX12_tide 52 = .ok (.aload_n 0, 1) := by decide +kernel
theorem dX12_tide_53 : decode cX12_tide 53 = .ok (.getfield 13, 3) := by decide +kernel
theorem dX12_tide_56 : decode cX12_tide 56 = .ok (.iload 5, 2) := by decide +kernel
theorem dX12_tide_58 : decode cX12_tide 58 = .ok (.iaload, 1) := by decide +kernel
theorem dX12_tide_59 : decode cX12_tide 59 = .ok (.iload_n 3, 1) := by decide +kernel
theorem dX12_tide_60 : decode cX12_tide 60 = .ok (.if_icmp .ne 15, 3) := by decide +kernel
theorem dX12_tide_63 : decode cX12_tide 63 = .ok (.aload_n 0, 1) := by decide +kernel
theorem dX12_tide_64 : decode cX12_tide 64 = .ok (.getfield 17, 3) := by decide +kernel
theorem dX12_tide_67 : decode cX12_tide 67 = .ok (.iload 5, 2) := by decide +kernel
theorem dX12_tide_69 : decode cX12_tide 69 = .ok (.iaload, 1) := by decide +kernel
theorem dX12_tide_70 : decode cX12_tide 70 = .ok (.iload 4, 2) := by decide +kernel
theorem dX12_tide_72 : decode cX12_tide 72 = .ok (.if_icmp .eq 7, 3) := by decide +kernel
theorem dX12_tide_75 : decode cX12_tide 75 = .ok (.iconst 1, 1) := by decide +kernel
theorem dX12_tide_76 : decode cX12_tide 76 = .ok (.goto 4, 3) := by decide +kernel
theorem dX12_tide_79 : decode cX12_tide 79 = .ok (.iconst 0, 1) := by decide +kernel
theorem dX12_tide_80 : decode cX12_tide 80 = .ok (.istore 6, 2) := by decide +kernel
theorem dX12_tide_82 : decode cX12_tide 82 = .ok (.aload_n 0, 1) := by decide +kernel
theorem dX12_tide_83 : decode cX12_tide 83 = .ok (.getfield 13, 3) := by decide +kernel
theorem dX12_tide_86 : decode cX12_tide 86 = .ok (.iload 5, 2) := by decide +kernel
theorem dX12_tide_88 : decode cX12_tide 88 = .ok (.iload_n 3, 1) := by decide +kernel
theorem dX12_tide_89 : decode cX12_tide 89 = .ok (.iastore, 1) := by decide +kernel
theorem dX12_tide_90 : decode cX12_tide 90 = .ok (.aload_n 0, 1) := by decide +kernel
theorem dX12_tide_91 : decode cX12_tide 91 = .ok (.getfield 17, 3) := by decide +kernel
theorem dX12_tide_94 : decode cX12_tide 94 = .ok (.iload 5, 2) := by decide +kernel
theorem dX12_tide_96 : decode cX12_tide 96 = .ok (.iload 4, 2) := by decide +kernel
theorem dX12_tide_98 : decode cX12_tide 98 = .ok (.iastore, 1) := by decide +kernel
theorem dX12_tide_99 : decode cX12_tide 99 = .ok (.iload 6, 2) := by decide +kernel
theorem dX12_tide_101 : decode cX12_tide 101 = .ok (.ireturn, 1) := by decide +kernel
theorem dX12_tideAt_0 : decode cX12_tideAt 0 = .ok (.bipush 12, 2) := by decide +kernel
theorem dX12_tideAt_2 : decode cX12_tideAt 2 = .ok (.iload_n 0, 1) := by decide +kernel
theorem dX12_tideAt_3 : decode cX12_tideAt 3 = .ok (.bipush 40, 2) := by decide +kernel
theorem dX12_tideAt_5 : decode cX12_tideAt 5 = .ok (.idiv, 1) := by decide +kernel
theorem dX12_tideAt_6 : decode cX12_tideAt 6 = .ok (.imul, 1) := by decide +kernel
theorem dX12_tideAt_7 : decode cX12_tideAt 7 = .ok (.iload_n 1, 1) := by decide +kernel
theorem dX12_tideAt_8 : decode cX12_tideAt 8 = .ok (.iconst 4, 1) := by decide +kernel
theorem dX12_tideAt_9 : decode cX12_tideAt 9 = .ok (.idiv, 1) := by decide +kernel
theorem dX12_tideAt_10 : decode cX12_tideAt 10 = .ok (.bipush 12, 2) := by decide +kernel
theorem dX12_tideAt_12 : decode cX12_tideAt 12 = .ok (.irem, 1) := by decide +kernel
theorem dX12_tideAt_13 : decode cX12_tideAt 13 = .ok (.iadd, 1) := by decide +kernel
theorem dX12_tideAt_14 : decode cX12_tideAt 14 = .ok (.ireturn, 1) := by decide +kernel
set_option maxRecDepth 20000 in
theorem ggX12_carries_X12_isPlace : GoodIn wsX12_carries wsX12_isPlace := goodIn_r _ [7, 8, 9, 6, 10] (by decide +kernel) (by decide +kernel)
set_option maxRecDepth 20000 in
theorem gX12_carries_X12_isPlace : GoodIn wsX12_carries (va_wsS RX12 127 yX12_isPlace wsX12_isPlace) := goodIn_app (goodIn_of _ (by decide +kernel)) ggX12_carries_X12_isPlace
set_option maxRecDepth 20000 in
theorem ggX12_carries_X12_in : GoodIn wsX12_carries wsX12_in := goodIn_r _ [10] (by decide +kernel) (by decide +kernel)
set_option maxRecDepth 20000 in
theorem gX12_carries_X12_in : GoodIn wsX12_carries (va_wsS RX12 123 yX12_in wsX12_in) := goodIn_app (goodIn_of _ (by decide +kernel)) ggX12_carries_X12_in
set_option maxRecDepth 20000 in
theorem ggX12_carries_X12_tideAt : GoodIn wsX12_carries wsX12_tideAt := goodIn_r _ [13] (by decide +kernel) (by decide +kernel)
set_option maxRecDepth 20000 in
theorem gX12_carries_X12_tideAt : GoodIn wsX12_carries (va_wsS RX12 134 yX12_tideAt wsX12_tideAt) := goodIn_app (goodIn_of _ (by decide +kernel)) ggX12_carries_X12_tideAt
theorem dX12_carries_0 : decode cX12_carries 0 = .ok (.aload_n 0, 1) := by decide +kernel
theorem dX12_carries_1 : decode cX12_carries 1 = .ok (.iload_n 1, 1) := by decide +kernel
theorem dX12_carries_2 : decode cX12_carries 2 = .ok (.iload_n 2, 1) := by decide +kernel
theorem dX12_carries_3 : decode cX12_carries 3 = .ok (.invokestatic 127, 3) := by decide +kernel
theorem dX12_carries_6 : decode cX12_carries 6 = .ok (.ifCond .eq 28, 3) := by decide +kernel
theorem dX12_carries_9 : decode cX12_carries 9 = .ok (.iload_n 3, 1) := by decide +kernel
theorem dX12_carries_10 : decode cX12_carries 10 = .ok (.iconst 0, 1) := by decide +kernel
theorem dX12_carries_11 : decode cX12_carries 11 = .ok (.sipush 199, 3) := by decide +kernel
theorem dX12_carries_14 : decode cX12_carries 14 = .ok (.invokestatic 123, 3) := by decide +kernel
theorem dX12_carries_17 : decode cX12_carries 17 = .ok (.ifCond .eq 17, 3) := by decide +kernel
theorem dX12_carries_20 : decode cX12_carries 20 = .ok (.iload 4, 2) := by decide +kernel
theorem dX12_carries_22 : decode cX12_carries 22 = .ok (.iconst 0, 1) := by decide +kernel
theorem dX12_carries_23 : decode cX12_carries 23 = .ok (.iconst 1, 1) := by decide +kernel
theorem dX12_carries_24 : decode cX12_carries 24 = .ok (.invokestatic 123, 3) := by decide +kernel
theorem dX12_carries_27 : decode cX12_carries 27 = .ok (.ifCond .eq 7, 3) := by decide +kernel
theorem dX12_carries_30 : decode cX12_carries 30 = .ok (.iconst 0, 1) := by decide +kernel
theorem dX12_carries_31 : decode cX12_carries 31 = .ok (.goto 4, 3) := by decide +kernel
theorem dX12_carries_34 : decode cX12_carries 34 = .ok (.iconst 1, 1) := by decide +kernel
theorem dX12_carries_35 : decode cX12_carries 35 = .ok (.putfield 120, 3) := by decide +kernel
theorem dX12_carries_38 : decode cX12_carries 38 = .ok (.aload_n 0, 1) := by decide +kernel
theorem dX12_carries_39 : decode cX12_carries 39 = .ok (.getfield 120, 3) := by decide +kernel
theorem dX12_carries_42 : decode cX12_carries 42 = .ok (.ifCond .le 5, 3) := by decide +kernel
theorem dX12_carries_45 : decode cX12_carries 45 = .ok (.lconst 0, 1) := by decide +kernel
theorem dX12_carries_46 : decode cX12_carries 46 = .ok (.lreturn, 1) := by decide +kernel
theorem dX12_carries_47 : decode cX12_carries 47 = .ok (.iload 4, 2) := by decide +kernel
theorem dX12_carries_49 : decode cX12_carries 49 = .ok (.ifCond .ne 17, 3) := by decide +kernel
theorem dX12_carries_52 : decode cX12_carries 52 = .ok (.aload_n 0, 1) := by decide +kernel
theorem dX12_carries_53 : decode cX12_carries 53 = .ok (.getfield 13, 3) := by decide +kernel
theorem dX12_carries_56 : decode cX12_carries 56 = .ok (.iload_n 2, 1) := by decide +kernel
theorem dX12_carries_57 : decode cX12_carries 57 = .ok (.iload_n 3, 1) := by decide +kernel
theorem dX12_carries_58 : decode cX12_carries 58 = .ok (.invokestatic 134, 3) := by decide +kernel
theorem dX12_carries_61 : decode cX12_carries 61 = .ok (.iaload, 1) := by decide +kernel
theorem dX12_carries_62 : decode cX12_carries 62 = .ok (.i2l, 1) := by decide +kernel
theorem dX12_carries_63 : decode cX12_carries 63 = .ok (.goto 14, 3) := by decide +kernel
theorem dX12_carries_66 : decode cX12_carries 66 = .ok (.aload_n 0, 1) := by decide +kernel
theorem dX12_carries_67 : decode cX12_carries 67 = .ok (.getfield 17, 3) := by decide +kernel
theorem dX12_carries_70 : decode cX12_carries 70 = .ok (.iload_n 2, 1) := by decide +kernel
theorem dX12_carries_71 : decode cX12_carries 71 = .ok (.iload_n 3, 1) := by decide +kernel
theorem dX12_carries_72 : decode cX12_carries 72 = .ok (.invokestatic 134, 3) := by decide +kernel
theorem dX12_carries_75 : decode cX12_carries 75 = .ok (.iaload, 1) := by decide +kernel
theorem dX12_carries_76 : decode cX12_carries 76 = .ok (.i2l, 1) := by decide +kernel
theorem dX12_carries_77 : decode cX12_carries 77 = .ok (.lreturn, 1) := by decide +kernel
set_option maxRecDepth 20000 in
theorem ggX12_set_X12_in : GoodIn wsX12_set wsX12_in := goodIn_r _ [6] (by decide +kernel) (by decide +kernel)
set_option maxRecDepth 20000 in
theorem gX12_set_X12_in : GoodIn wsX12_set (va_wsS RX12 123 yX12_in wsX12_in) := goodIn_app (goodIn_of _ (by decide +kernel)) ggX12_set_X12_in
theorem dX12_set_0 : decode cX12_set 0 = .ok (.iload_n 1, 1) := by decide +kernel
theorem dX12_set_1 : decode cX12_set 1 = .ok (.ifCond .ne 16, 3) := by decide +kernel
theorem dX12_set_4 : decode cX12_set 4 = .ok (.iload_n 2, 1) := by decide +kernel
theorem dX12_set_5 : decode cX12_set 5 = .ok (.iconst 0, 1) := by decide +kernel
theorem dX12_set_6 : decode cX12_set 6 = .ok (.bipush 20, 2) := by decide +kernel
theorem dX12_set_8 : decode cX12_set 8 = .ok (.invokestatic 123, 3) := by decide +kernel
theorem dX12_set_11 : decode cX12_set 11 = .ok (.ifCond .ne 23, 3) := by decide +kernel
theorem dX12_set_14 : decode cX12_set 14 = .ok (.goto 18, 3) := by decide +kernel
theorem dX12_set_17 : decode cX12_set 17 = .ok (.iload_n 1, 1) := by decide +kernel
theorem dX12_set_18 : decode cX12_set 18 = .ok (.iconst 1, 1) := by decide +kernel
theorem dX12_set_19 : decode cX12_set 19 = .ok (.if_icmp .ne 13, 3) := by decide +kernel
theorem dX12_set_22 : decode cX12_set 22 = .ok (.iload_n 2, 1) := by decide +kernel
theorem dX12_set_23 : decode cX12_set 23 = .ok (.iconst 1, 1) := by decide +kernel
theorem dX12_set_24 : decode cX12_set 24 = .ok (.bipush 60, 2) := by decide +kernel
theorem dX12_set_26 : decode cX12_set 26 = .ok (.invokestatic 123, 3) := by decide +kernel
theorem dX12_set_29 : decode cX12_set 29 = .ok (.ifCond .ne 5, 3) := by decide +kernel
theorem dX12_set_32 : decode cX12_set 32 = .ok (.iconst (-1), 1) := by decide +kernel
theorem dX12_set_33 : decode cX12_set 33 = .ok (.ireturn, 1) := by decide +kernel
theorem dX12_set_34 : decode cX12_set 34 = .ok (.iload_n 1, 1) := by decide +kernel
theorem dX12_set_35 : decode cX12_set 35 = .ok (.ifCond .ne 10, 3) := by decide +kernel
theorem dX12_set_38 : decode cX12_set 38 = .ok (.aload_n 0, 1) := by decide +kernel
theorem dX12_set_39 : decode cX12_set 39 = .ok (.getfield 20, 3) := by decide +kernel
theorem dX12_set_42 : decode cX12_set 42 = .ok (.goto 7, 3) := by decide +kernel
theorem dX12_set_45 : decode cX12_set 45 = .ok (.aload_n 0, 1) := by decide +kernel
theorem dX12_set_46 : decode cX12_set 46 = .ok (.getfield 24, 3) := by decide +kernel
theorem dX12_set_49 : decode cX12_set 49 = .ok (.istore_n 3, 1) := by decide +kernel
theorem dX12_set_50 : decode cX12_set 50 = .ok (.iload_n 1, 1) := by decide +kernel
theorem dX12_set_51 : decode cX12_set 51 = .ok (.ifCond .ne 11, 3) := by decide +kernel
theorem dX12_set_54 : decode cX12_set 54 = .ok (.aload_n 0, 1) := by decide +kernel
theorem dX12_set_55 : decode cX12_set 55 = .ok (.iload_n 2, 1) := by decide +kernel
theorem dX12_set_56 : decode cX12_set 56 = .ok (.putfield 20, 3) := by decide +kernel
theorem dX12_set_59 : decode cX12_set 59 = .ok (.goto 8, 3) := by decide +kernel
theorem dX12_set_62 : decode cX12_set 62 = .ok (.aload_n 0, 1) := by decide +kernel
theorem dX12_set_63 : decode cX12_set 63 = .ok (.iload_n 2, 1) := by decide +kernel
theorem dX12_set_64 : decode cX12_set 64 = .ok (.putfield 24, 3) := by decide +kernel
theorem dX12_set_67 : decode cX12_set 67 = .ok (.iload_n 3, 1) := by decide +kernel
theorem dX12_set_68 : decode cX12_set 68 = .ok (.ireturn, 1) := by decide +kernel
set_option maxRecDepth 20000 in
theorem ggX12_isSwimmer_X12_in : GoodIn wsX12_isSwimmer wsX12_in := goodIn_r _ [5] (by decide +kernel) (by decide +kernel)
set_option maxRecDepth 20000 in
theorem gX12_isSwimmer_X12_in : GoodIn wsX12_isSwimmer (va_wsS RX12 123 yX12_in wsX12_in) := goodIn_app (goodIn_of _ (by decide +kernel)) ggX12_isSwimmer_X12_in
theorem dX12_isSwimmer_0 : decode cX12_isSwimmer 0 = .ok (.iload_n 1, 1) := by decide +kernel
theorem dX12_isSwimmer_1 : decode cX12_isSwimmer 1 = .ok (.iconst 0, 1) := by decide +kernel
theorem dX12_isSwimmer_2 : decode cX12_isSwimmer 2 = .ok (.aload_n 0, 1) := by decide +kernel
theorem dX12_isSwimmer_3 : decode cX12_isSwimmer 3 = .ok (.getfield 138, 3) := by decide +kernel
theorem dX12_isSwimmer_6 : decode cX12_isSwimmer 6 = .ok (.iconst 1, 1) := by decide +kernel
theorem dX12_isSwimmer_7 : decode cX12_isSwimmer 7 = .ok (.isub, 1) := by decide +kernel
theorem dX12_isSwimmer_8 : decode cX12_isSwimmer 8 = .ok (.invokestatic 123, 3) := by decide +kernel
theorem dX12_isSwimmer_11 : decode cX12_isSwimmer 11 = .ok (.ireturn, 1) := by decide +kernel
set_option maxRecDepth 20000 in
theorem ggX12_swimmer_X12_in : GoodIn wsX12_swimmer wsX12_in := goodIn_r _ [10] (by decide +kernel) (by decide +kernel)
set_option maxRecDepth 20000 in
theorem gX12_swimmer_X12_in : GoodIn wsX12_swimmer (va_wsS RX12 123 yX12_in wsX12_in) := goodIn_app (goodIn_of _ (by decide +kernel)) ggX12_swimmer_X12_in
theorem dX12_swimmer_0 : decode cX12_swimmer 0 = .ok (.iload_n 1, 1) := by decide +kernel
theorem dX12_swimmer_1 : decode cX12_swimmer 1 = .ok (.iconst 0, 1) := by decide +kernel
theorem dX12_swimmer_2 : decode cX12_swimmer 2 = .ok (.iconst 3, 1) := by decide +kernel
theorem dX12_swimmer_3 : decode cX12_swimmer 3 = .ok (.invokestatic 123, 3) := by decide +kernel
theorem dX12_swimmer_6 : decode cX12_swimmer 6 = .ok (.ifCond .eq 24, 3) := by decide +kernel
theorem dX12_swimmer_9 : decode cX12_swimmer 9 = .ok (.iload_n 2, 1) := by decide +kernel
theorem dX12_swimmer_10 : decode cX12_swimmer 10 = .ok (.iconst 1, 1) := by decide +kernel
theorem dX12_swimmer_11 : decode cX12_swimmer 11 = .ok (.bipush 20, 2) := by decide +kernel
theorem dX12_swimmer_13 : decode cX12_swimmer 13 = .ok (.invokestatic 123, 3) := by decide +kernel
theorem dX12_swimmer_16 : decode cX12_swimmer 16 = .ok (.ifCond .eq 14, 3) := by decide +kernel
theorem dX12_swimmer_19 : decode cX12_swimmer 19 = .ok (.iload_n 3, 1) := by decide +kernel
theorem dX12_swimmer_20 : decode cX12_swimmer 20 = .ok (.iconst 1, 1) := by decide +kernel
theorem dX12_swimmer_21 : decode cX12_swimmer 21 = .ok (.sipush 400, 3) := by decide +kernel
theorem dX12_swimmer_24 : decode cX12_swimmer 24 = .ok (.invokestatic 123, 3) := by decide +kernel
theorem dX12_swimmer_27 : decode cX12_swimmer 27 = .ok (.ifCond .ne 5, 3) := by decide +kernel
theorem dX12_swimmer_30 : decode cX12_swimmer 30 = .ok (.iconst (-1), 1) := by decide +kernel
theorem dX12_swimmer_31 : decode cX12_swimmer 31 = .ok (.ireturn, 1) := by decide +kernel
theorem dX12_swimmer_32 : decode cX12_swimmer 32 = .ok (.aload_n 0, 1) := by decide +kernel
theorem dX12_swimmer_33 : decode cX12_swimmer 33 = .ok (.getfield 138, 3) := by decide +kernel
theorem dX12_swimmer_36 : decode cX12_swimmer 36 = .ok (.bipush 10, 2) := by decide +kernel
theorem dX12_swimmer_38 : decode cX12_swimmer 38 = .ok (.if_icmp .ne 6, 3) := by decide +kernel
theorem dX12_swimmer_41 : decode cX12_swimmer 41 = .ok (.bipush (-2), 2) := by decide +kernel
theorem dX12_swimmer_43 : decode cX12_swimmer 43 = .ok (.ireturn, 1) := by decide +kernel
theorem dX12_swimmer_44 : decode cX12_swimmer 44 = .ok (.aload_n 0, 1) := by decide +kernel
theorem dX12_swimmer_45 : decode cX12_swimmer 45 = .ok (.getfield 27, 3) := by decide +kernel
theorem dX12_swimmer_48 : decode cX12_swimmer 48 = .ok (.aload_n 0, 1) := by decide +kernel
theorem dX12_swimmer_49 : decode cX12_swimmer 49 = .ok (.getfield 138, 3) := by decide +kernel
theorem dX12_swimmer_52 : decode cX12_swimmer 52 = .ok (.iload_n 1, 1) := by decide +kernel
theorem dX12_swimmer_53 : decode cX12_swimmer 53 = .ok (.iastore, 1) := by decide +kernel
theorem dX12_swimmer_54 : decode cX12_swimmer 54 = .ok (.aload_n 0, 1) := by decide +kernel
theorem dX12_swimmer_55 : decode cX12_swimmer 55 = .ok (.getfield 30, 3) := by decide +kernel
theorem dX12_swimmer_58 : decode cX12_swimmer 58 = .ok (.aload_n 0, 1) := by decide +kernel
theorem dX12_swimmer_59 : decode cX12_swimmer 59 = .ok (.getfield 138, 3) := by decide +kernel
theorem dX12_swimmer_62 : decode cX12_swimmer 62 = .ok (.iload_n 2, 1) := by decide +kernel
theorem dX12_swimmer_63 : decode cX12_swimmer 63 = .ok (.iastore, 1) := by decide +kernel
theorem dX12_swimmer_64 : decode cX12_swimmer 64 = .ok (.aload_n 0, 1) := by decide +kernel
theorem dX12_swimmer_65 : decode cX12_swimmer 65 = .ok (.getfield 33, 3) := by decide +kernel
theorem dX12_swimmer_68 : decode cX12_swimmer 68 = .ok (.aload_n 0, 1) := by decide +kernel
theorem dX12_swimmer_69 : decode cX12_swimmer 69 = .ok (.getfield 138, 3) := by decide +kernel
theorem dX12_swimmer_72 : decode cX12_swimmer 72 = .ok (.iload_n 3, 1) := by decide +kernel
theorem dX12_swimmer_73 : decode cX12_swimmer 73 = .ok (.iastore, 1) := by decide +kernel
theorem dX12_swimmer_74 : decode cX12_swimmer 74 = .ok (.aload_n 0, 1) := by decide +kernel
theorem dX12_swimmer_75 : decode cX12_swimmer 75 = .ok (.getfield 36, 3) := by decide +kernel
theorem dX12_swimmer_78 : decode cX12_swimmer 78 = .ok (.aload_n 0, 1) := by decide +kernel
theorem dX12_swimmer_79 : decode cX12_swimmer 79 = .ok (.getfield 138, 3) := by decide +kernel
theorem dX12_swimmer_82 : decode cX12_swimmer 82 = .ok (.iconst 0, 1) := by decide +kernel
theorem dX12_swimmer_83 : decode cX12_swimmer 83 = .ok (.iastore, 1) := by decide +kernel
theorem dX12_swimmer_84 : decode cX12_swimmer 84 = .ok (.aload_n 0, 1) := by decide +kernel
theorem dX12_swimmer_85 : decode cX12_swimmer 85 = .ok (.getfield 81, 3) := by decide +kernel
theorem dX12_swimmer_88 : decode cX12_swimmer 88 = .ok (.aload_n 0, 1) := by decide +kernel
theorem dX12_swimmer_89 : decode cX12_swimmer 89 = .ok (.getfield 138, 3) := by decide +kernel
theorem dX12_swimmer_92 : decode cX12_swimmer 92 = .ok (.iconst 0, 1) := by decide +kernel
theorem dX12_swimmer_93 : decode cX12_swimmer 93 = .ok (.iastore, 1) := by decide +kernel
theorem dX12_swimmer_94 : decode cX12_swimmer 94 = .ok (.aload_n 0, 1) := by decide +kernel
theorem dX12_swimmer_95 : decode cX12_swimmer 95 = .ok (.dup, 1) := by decide +kernel
theorem dX12_swimmer_96 : decode cX12_swimmer 96 = .ok (.getfield 138, 3) := by decide +kernel
theorem dX12_swimmer_99 : decode cX12_swimmer 99 = .ok (.iconst 1, 1) := by decide +kernel
theorem dX12_swimmer_100 : decode cX12_swimmer 100 = .ok (.iadd, 1) := by decide +kernel
theorem dX12_swimmer_101 : decode cX12_swimmer 101 = .ok (.putfield 138, 3) := by decide +kernel
theorem dX12_swimmer_104 : decode cX12_swimmer 104 = .ok (.aload_n 0, 1) := by decide +kernel
theorem dX12_swimmer_105 : decode cX12_swimmer 105 = .ok (.getfield 138, 3) := by decide +kernel
theorem dX12_swimmer_108 : decode cX12_swimmer 108 = .ok (.iconst 1, 1) := by decide +kernel
theorem dX12_swimmer_109 : decode cX12_swimmer 109 = .ok (.isub, 1) := by decide +kernel
theorem dX12_swimmer_110 : decode cX12_swimmer 110 = .ok (.ireturn, 1) := by decide +kernel
set_option maxRecDepth 20000 in
theorem ggX12_feed_X12_isSwimmer : GoodIn wsX12_feed wsX12_isSwimmer := goodIn_r _ [6, 7, 8, 9, 5, 10, 11, 12, 13, 14, 15, 16, 17, 18, 19, 20, 21, 22, 23, 24, 25, 26, 27, 28, 29, 30, 31, 32, 33, 34, 35, 36, 37, 38, 39, 40, 41, 42, 43, 44, 45, 46, 47, 48, 49, 50, 51, 52] (by decide +kernel) (by decide +kernel)
set_option maxRecDepth 20000 in
theorem gX12_feed_X12_isSwimmer : GoodIn wsX12_feed (wsV RX12 141 RX12 yX12_isSwimmer wsX12_isSwimmer) := goodIn_app (goodIn_of _ (by decide +kernel)) ggX12_feed_X12_isSwimmer
set_option maxRecDepth 20000 in
theorem ggX12_feed_X12_in : GoodIn wsX12_feed wsX12_in := goodIn_r _ [10] (by decide +kernel) (by decide +kernel)
set_option maxRecDepth 20000 in
theorem gX12_feed_X12_in : GoodIn wsX12_feed (va_wsS RX12 123 yX12_in wsX12_in) := goodIn_app (goodIn_of _ (by decide +kernel)) ggX12_feed_X12_in
theorem dX12_feed_0 : decode cX12_feed 0 = .ok (.aload_n 0, 1) := by decide +kernel
theorem dX12_feed_1 : decode cX12_feed 1 = .ok (.iload_n 1, 1) := by decide +kernel
theorem dX12_feed_2 : decode cX12_feed 2 = .ok (.invokevirtual 141, 3) := by decide +kernel
theorem dX12_feed_5 : decode cX12_feed 5 = .ok (.ifCond .eq 13, 3) := by decide +kernel
theorem dX12_feed_8 : decode cX12_feed 8 = .ok (.iload_n 2, 1) := by decide +kernel
theorem dX12_feed_9 : decode cX12_feed 9 = .ok (.iconst 0, 1) := by decide +kernel
theorem dX12_feed_10 : decode cX12_feed 10 = .ok (.bipush 40, 2) := by decide +kernel
theorem dX12_feed_12 : decode cX12_feed 12 = .ok (.invokestatic 123, 3) := by decide +kernel
theorem dX12_feed_15 : decode cX12_feed 15 = .ok (.ifCond .ne 5, 3) := by decide +kernel
theorem dX12_feed_18 : decode cX12_feed 18 = .ok (.iconst (-1), 1) := by decide +kernel
theorem dX12_feed_19 : decode cX12_feed 19 = .ok (.ireturn, 1) := by decide +kernel
theorem dX12_feed_20 : decode cX12_feed 20 = .ok (.aload_n 0, 1) := by decide +kernel
theorem dX12_feed_21 : decode cX12_feed 21 = .ok (.getfield 36, 3) := by decide +kernel
theorem dX12_feed_24 : decode cX12_feed 24 = .ok (.iload_n 1, 1) := by decide +kernel
theorem dX12_feed_25 : decode cX12_feed 25 = .ok (.iaload, 1) := by decide +kernel
theorem dX12_feed_26 : decode cX12_feed 26 = .ok (.istore_n 3, 1) := by decide +kernel
theorem dX12_feed_27 : decode cX12_feed 27 = .ok (.aload_n 0, 1) := by decide +kernel
theorem dX12_feed_28 : decode cX12_feed 28 = .ok (.getfield 36, 3) := by decide +kernel
theorem dX12_feed_31 : decode cX12_feed 31 = .ok (.iload_n 1, 1) := by decide +kernel
theorem dX12_feed_32 : decode cX12_feed 32 = .ok (.iload_n 2, 1) := by decide +kernel
theorem dX12_feed_33 : decode cX12_feed 33 = .ok (.iastore, 1) := by decide +kernel
theorem dX12_feed_34 : decode cX12_feed 34 = .ok (.iload_n 3, 1) := by decide +kernel
theorem dX12_feed_35 : decode cX12_feed 35 = .ok (.ireturn, 1) := by decide +kernel
theorem dX12_atLeastOne_0 : decode cX12_atLeastOne 0 = .ok (.iload_n 0, 1) := by decide +kernel
theorem dX12_atLeastOne_1 : decode cX12_atLeastOne 1 = .ok (.iconst 1, 1) := by decide +kernel
theorem dX12_atLeastOne_2 : decode cX12_atLeastOne 2 = .ok (.if_icmp .ge 7, 3) := by decide +kernel
theorem dX12_atLeastOne_5 : decode cX12_atLeastOne 5 = .ok (.iconst 1, 1) := by decide +kernel
theorem dX12_atLeastOne_6 : decode cX12_atLeastOne 6 = .ok (.goto 4, 3) := by decide +kernel
theorem dX12_atLeastOne_9 : decode cX12_atLeastOne 9 = .ok (.iload_n 0, 1) := by decide +kernel
theorem dX12_atLeastOne_10 : decode cX12_atLeastOne 10 = .ok (.ireturn, 1) := by decide +kernel
theorem dX12_isFed_0 : decode cX12_isFed 0 = .ok (.aload_n 0, 1) := by decide +kernel
theorem dX12_isFed_1 : decode cX12_isFed 1 = .ok (.getfield 36, 3) := by decide +kernel
theorem dX12_isFed_4 : decode cX12_isFed 4 = .ok (.iload_n 1, 1) := by decide +kernel
theorem dX12_isFed_5 : decode cX12_isFed 5 = .ok (.iaload, 1) := by decide +kernel
theorem dX12_isFed_6 : decode cX12_isFed 6 = .ok (.ifCond .le 20, 3) := by decide +kernel
theorem dX12_isFed_9 : decode cX12_isFed 9 = .ok (.iload_n 2, 1) := by decide +kernel
theorem dX12_isFed_10 : decode cX12_isFed 10 = .ok (.iconst 1, 1) := by decide +kernel
theorem dX12_isFed_11 : decode cX12_isFed 11 = .ok (.iadd, 1) := by decide +kernel
theorem dX12_isFed_12 : decode cX12_isFed 12 = .ok (.aload_n 0, 1) := by decide +kernel
theorem dX12_isFed_13 : decode cX12_isFed 13 = .ok (.getfield 36, 3) := by decide +kernel
theorem dX12_isFed_16 : decode cX12_isFed 16 = .ok (.iload_n 1, 1) := by decide +kernel
theorem dX12_isFed_17 : decode cX12_isFed 17 = .ok (.iaload, 1) := by decide +kernel
theorem dX12_isFed_18 : decode cX12_isFed 18 = .ok (.irem, 1) := by decide +kernel
theorem dX12_isFed_19 : decode cX12_isFed 19 = .ok (.ifCond .ne 7, 3) := by decide +kernel
theorem dX12_isFed_22 : decode cX12_isFed 22 = .ok (.iconst 1, 1) := by decide +kernel
theorem dX12_isFed_23 : decode cX12_isFed 23 = .ok (.goto 4, 3) := by decide +kernel
theorem dX12_isFed_26 : decode cX12_isFed 26 = .ok (.iconst 0, 1) := by decide +kernel
theorem dX12_isFed_27 : decode cX12_isFed 27 = .ok (.ireturn, 1) := by decide +kernel
set_option maxRecDepth 20000 in
theorem ggX12_paceOf_X12_atLeastOne : GoodIn wsX12_paceOf wsX12_atLeastOne := goodIn_r _ [6] (by decide +kernel) (by decide +kernel)
set_option maxRecDepth 20000 in
theorem gX12_paceOf_X12_atLeastOne : GoodIn wsX12_paceOf (va_wsS RX12 145 yX12_atLeastOne wsX12_atLeastOne) := goodIn_app (goodIn_of _ (by decide +kernel)) ggX12_paceOf_X12_atLeastOne
set_option maxRecDepth 20000 in
theorem ggX12_paceOf_X12_isFed : GoodIn wsX12_paceOf wsX12_isFed := goodIn_r _ [10, 11, 12, 13, 14, 15, 16, 17, 18, 19, 20, 21, 22, 23, 24, 25, 26, 27, 28, 29, 30, 31, 32, 33, 34, 35, 36, 37, 38, 39, 40, 41, 42, 43, 44, 45, 46, 47, 48, 49, 50, 51, 52, 53] (by decide +kernel) (by decide +kernel)
set_option maxRecDepth 20000 in
theorem gX12_paceOf_X12_isFed : GoodIn wsX12_paceOf (wsV RX12 149 RX12 yX12_isFed wsX12_isFed) := goodIn_app (goodIn_of _ (by decide +kernel)) ggX12_paceOf_X12_isFed
theorem dX12_paceOf_0 : decode cX12_paceOf 0 = .ok (.aload_n 0, 1) := by decide +kernel
theorem dX12_paceOf_1 : decode cX12_paceOf 1 = .ok (.getfield 27, 3) := by decide +kernel
theorem dX12_paceOf_4 : decode cX12_paceOf 4 = .ok (.iload_n 1, 1) := by decide +kernel
theorem dX12_paceOf_5 : decode cX12_paceOf 5 = .ok (.iaload, 1) := by decide +kernel
theorem dX12_paceOf_6 : decode cX12_paceOf 6 = .ok (.iconst 2, 1) := by decide +kernel
theorem dX12_paceOf_7 : decode cX12_paceOf 7 = .ok (.if_icmp .ne 20, 3) := by decide +kernel
theorem dX12_paceOf_10 : decode cX12_paceOf 10 = .ok (.iload_n 2, 1) := by decide +kernel
theorem dX12_paceOf_11 : decode cX12_paceOf 11 = .ok (.bipush 8, 2) := by decide +kernel
theorem dX12_paceOf_13 : decode cX12_paceOf 13 = .ok (.if_icmp .ge 14, 3) := by decide +kernel
theorem dX12_paceOf_16 : decode cX12_paceOf 16 = .ok (.aload_n 0, 1) := by decide +kernel
theorem dX12_paceOf_17 : decode cX12_paceOf 17 = .ok (.getfield 30, 3) := by decide +kernel
theorem dX12_paceOf_20 : decode cX12_paceOf 20 = .ok (.iload_n 1, 1) := by decide +kernel
theorem dX12_paceOf_21 : decode cX12_paceOf 21 = .ok (.iaload, 1) := by decide +kernel
theorem dX12_paceOf_22 : decode cX12_paceOf 22 = .ok (.iconst 4, 1) := by decide +kernel
theorem dX12_paceOf_23 : decode cX12_paceOf 23 = .ok (.iadd, 1) := by decide +kernel
theorem dX12_paceOf_24 : decode cX12_paceOf 24 = .ok (.goto 31, 3) := by decide +kernel
theorem dX12_paceOf_27 : decode cX12_paceOf 27 = .ok (.aload_n 0, 1) := by decide +kernel
theorem dX12_paceOf_28 : decode cX12_paceOf 28 = .ok (.getfield 30, 3) := by decide +kernel
theorem dX12_paceOf_31 : decode cX12_paceOf 31 = .ok (.iload_n 1, 1) := by decide +kernel
theorem dX12_paceOf_32 : decode cX12_paceOf 32 = .ok (.iaload, 1) := by decide +kernel
theorem dX12_paceOf_33 : decode cX12_paceOf 33 = .ok (.iload_n 2, 1) := by decide +kernel
theorem dX12_paceOf_34 : decode cX12_paceOf 34 = .ok (.aload_n 0, 1) := by decide +kernel
theorem dX12_paceOf_35 : decode cX12_paceOf 35 = .ok (.getfield 27, 3) := by decide +kernel
theorem dX12_paceOf_38 : decode cX12_paceOf 38 = .ok (.iload_n 1, 1) := by decide +kernel
theorem dX12_paceOf_39 : decode cX12_paceOf 39 = .ok (.iaload, 1) := by decide +kernel
theorem dX12_paceOf_40 : decode cX12_paceOf 40 = .ok (.iconst 2, 1) := by decide +kernel
theorem dX12_paceOf_41 : decode cX12_paceOf 41 = .ok (.if_icmp .ne 7, 3) := by decide +kernel
theorem dX12_paceOf_44 : decode cX12_paceOf 44 = .ok (.iconst 4, 1) := by decide +kernel
theorem dX12_paceOf_45 : decode cX12_paceOf 45 = .ok (.goto 5, 3) := by decide +kernel
theorem dX12_paceOf_48 : decode cX12_paceOf 48 = .ok (.bipush 6, 2) := by decide +kernel
theorem dX12_paceOf_50 : decode cX12_paceOf 50 = .ok (.idiv, 1) := by decide +kernel
theorem dX12_paceOf_51 : decode cX12_paceOf 51 = .ok (.isub, 1) := by decide +kernel
theorem dX12_paceOf_52 : decode cX12_paceOf 52 = .ok (.invokestatic 145, 3) := by decide +kernel
theorem dX12_paceOf_55 : decode cX12_paceOf 55 = .ok (.istore_n 3, 1) := by decide +kernel
theorem dX12_paceOf_56 : decode cX12_paceOf 56 = .ok (.aload_n 0, 1) := by decide +kernel
theorem dX12_paceOf_57 : decode cX12_paceOf 57 = .ok (.iload_n 1, 1) := by decide +kernel
theorem dX12_paceOf_58 : decode cX12_paceOf 58 = .ok (.iload_n 2, 1) := by decide +kernel
theorem dX12_paceOf_59 : decode cX12_paceOf 59 = .ok (.invokevirtual 149, 3) := by decide +kernel
theorem dX12_paceOf_62 : decode cX12_paceOf 62 = .ok (.ifCond .eq 9, 3) := by decide +kernel
theorem dX12_paceOf_65 : decode cX12_paceOf 65 = .ok (.iload_n 3, 1) := by decide +kernel
theorem dX12_paceOf_66 : decode cX12_paceOf 66 = .ok (.iconst 2, 1) := by decide +kernel
theorem dX12_paceOf_67 : decode cX12_paceOf 67 = .ok (.idiv, 1) := by decide +kernel
theorem dX12_paceOf_68 : decode cX12_paceOf 68 = .ok (.goto 4, 3) := by decide +kernel
theorem dX12_paceOf_71 : decode cX12_paceOf 71 = .ok (.iload_n 3, 1) := by decide +kernel
theorem dX12_paceOf_72 : decode cX12_paceOf 72 = .ok (.ireturn, 1) := by decide +kernel
set_option maxRecDepth 20000 in
theorem ggX12_coldOf_X12_atLeastOne : GoodIn wsX12_coldOf wsX12_atLeastOne := goodIn_r _ [6] (by decide +kernel) (by decide +kernel)
set_option maxRecDepth 20000 in
theorem gX12_coldOf_X12_atLeastOne : GoodIn wsX12_coldOf (va_wsS RX12 145 yX12_atLeastOne wsX12_atLeastOne) := goodIn_app (goodIn_of _ (by decide +kernel)) ggX12_coldOf_X12_atLeastOne
theorem dX12_coldOf_0 : decode cX12_coldOf 0 = .ok (.aload_n 0, 1) := by decide +kernel
theorem dX12_coldOf_1 : decode cX12_coldOf 1 = .ok (.getfield 20, 3) := by decide +kernel
theorem dX12_coldOf_4 : decode cX12_coldOf 4 = .ok (.iload_n 2, 1) := by decide +kernel
theorem dX12_coldOf_5 : decode cX12_coldOf 5 = .ok (.bipush 8, 2) := by decide +kernel
theorem dX12_coldOf_7 : decode cX12_coldOf 7 = .ok (.idiv, 1) := by decide +kernel
theorem dX12_coldOf_8 : decode cX12_coldOf 8 = .ok (.iadd, 1) := by decide +kernel
theorem dX12_coldOf_9 : decode cX12_coldOf 9 = .ok (.istore_n 3, 1) := by decide +kernel
theorem dX12_coldOf_10 : decode cX12_coldOf 10 = .ok (.aload_n 0, 1) := by decide +kernel
theorem dX12_coldOf_11 : decode cX12_coldOf 11 = .ok (.getfield 27, 3) := by decide +kernel
theorem dX12_coldOf_14 : decode cX12_coldOf 14 = .ok (.iload_n 1, 1) := by decide +kernel
theorem dX12_coldOf_15 : decode cX12_coldOf 15 = .ok (.iaload, 1) := by decide +kernel
theorem dX12_coldOf_16 : decode cX12_coldOf 16 = .ok (.ifCond .eq 13, 3) := by decide +kernel
theorem dX12_coldOf_19 : decode cX12_coldOf 19 = .ok (.aload_n 0, 1) := by decide +kernel
theorem dX12_coldOf_20 : decode cX12_coldOf 20 = .ok (.getfield 27, 3) := by decide +kernel
theorem dX12_coldOf_23 : decode cX12_coldOf 23 = .ok (.iload_n 1, 1) := by decide +kernel
theorem dX12_coldOf_24 : decode cX12_coldOf 24 = .ok (.iaload, 1) := by decide +kernel
theorem dX12_coldOf_25 : decode cX12_coldOf 25 = .ok (.iconst 2, 1) := by decide +kernel
theorem dX12_coldOf_26 : decode cX12_coldOf 26 = .ok (.if_icmp .ne 5, 3) := by decide +kernel
theorem dX12_coldOf_29 : decode cX12_coldOf 29 = .ok (.iload_n 3, 1) := by decide +kernel
theorem dX12_coldOf_30 : decode cX12_coldOf 30 = .ok (.ireturn, 1) := by decide +kernel
theorem dX12_coldOf_31 : decode cX12_coldOf 31 = .ok (.iload_n 3, 1) := by decide +kernel
theorem dX12_coldOf_32 : decode cX12_coldOf 32 = .ok (.iconst 2, 1) := by decide +kernel
theorem dX12_coldOf_33 : decode cX12_coldOf 33 = .ok (.isub, 1) := by decide +kernel
theorem dX12_coldOf_34 : decode cX12_coldOf 34 = .ok (.invokestatic 145, 3) := by decide +kernel
theorem dX12_coldOf_37 : decode cX12_coldOf 37 = .ok (.istore_n 3, 1) := by decide +kernel
theorem dX12_coldOf_38 : decode cX12_coldOf 38 = .ok (.aload_n 0, 1) := by decide +kernel
theorem dX12_coldOf_39 : decode cX12_coldOf 39 = .ok (.getfield 27, 3) := by decide +kernel
theorem dX12_coldOf_42 : decode cX12_coldOf 42 = .ok (.iload_n 1, 1) := by decide +kernel
theorem dX12_coldOf_43 : decode cX12_coldOf 43 = .ok (.iaload, 1) := by decide +kernel
theorem dX12_coldOf_44 : decode cX12_coldOf 44 = .ok (.iconst 3, 1) := by decide +kernel
theorem dX12_coldOf_45 : decode cX12_coldOf 45 = .ok (.if_icmp .ne 12, 3) := by decide +kernel
theorem dX12_coldOf_48 : decode cX12_coldOf 48 = .ok (.iload_n 3, 1) := by decide +kernel
theorem dX12_coldOf_49 : decode cX12_coldOf 49 = .ok (.iconst 2, 1) := by decide +kernel
theorem dX12_coldOf_50 : decode cX12_coldOf 50 = .ok (.idiv, 1) := by decide +kernel
theorem dX12_coldOf_51 : decode cX12_coldOf 51 = .ok (.invokestatic 145, 3) := by decide +kernel
theorem dX12_coldOf_54 : decode cX12_coldOf 54 = .ok (.goto 4, 3) := by decide +kernel
theorem dX12_coldOf_57 : decode cX12_coldOf 57 = .ok (.iload_n 3, 1) := by decide +kernel
theorem dX12_coldOf_58 : decode cX12_coldOf 58 = .ok (.ireturn, 1) := by decide +kernel
set_option maxRecDepth 20000 in
theorem ggX12_pace_X12_isSwimmer : GoodIn wsX12_pace wsX12_isSwimmer := goodIn_r _ [5, 6, 7, 8, 4, 9, 29, 30, 31, 32, 33, 34, 35, 36, 37, 38, 39, 40, 41, 42, 43, 44, 45, 46, 47, 48, 49, 50, 51, 52, 53, 54, 55, 56, 57, 58, 59, 60, 61, 62, 63, 64, 65, 66, 67, 68, 69, 70] (by decide +kernel) (by decide +kernel)
set_option maxRecDepth 20000 in
theorem gX12_pace_X12_isSwimmer : GoodIn wsX12_pace (wsV RX12 141 RX12 yX12_isSwimmer wsX12_isSwimmer) := goodIn_app (goodIn_of _ (by decide +kernel)) ggX12_pace_X12_isSwimmer
set_option maxRecDepth 20000 in
theorem ggX12_pace_X12_in : GoodIn wsX12_pace wsX12_in := goodIn_r _ [9] (by decide +kernel) (by decide +kernel)
set_option maxRecDepth 20000 in
theorem gX12_pace_X12_in : GoodIn wsX12_pace (va_wsS RX12 123 yX12_in wsX12_in) := goodIn_app (goodIn_of _ (by decide +kernel)) ggX12_pace_X12_in
set_option maxRecDepth 20000 in
theorem ggX12_pace_X12_paceOf : GoodIn wsX12_pace wsX12_paceOf := goodIn_r _ [13, 14, 15, 16, 17, 4, 18, 19, 20, 21, 22, 23, 29, 30, 31, 32, 33, 34, 35, 36, 37, 38, 39, 40, 41, 42, 43, 44, 45, 46, 47, 48, 49, 50, 51, 52, 53, 54, 55, 56, 57, 58, 59, 60, 61, 62, 63, 64, 65, 66, 67, 68, 69, 70] (by decide +kernel) (by decide +kernel)
set_option maxRecDepth 20000 in
theorem gX12_pace_X12_paceOf : GoodIn wsX12_pace (wsV RX12 152 RX12 yX12_paceOf wsX12_paceOf) := goodIn_app (goodIn_of _ (by decide +kernel)) ggX12_pace_X12_paceOf
set_option maxRecDepth 20000 in
theorem ggX12_pace_X12_coldOf : GoodIn wsX12_pace wsX12_coldOf := goodIn_r _ [27, 28, 14, 16, 17, 4, 18, 29, 30, 31, 32, 33, 34, 35, 36, 37, 38, 39, 40, 41, 42, 43, 44, 45, 46, 47, 48, 49, 50, 51, 52, 53, 54, 55, 56, 57, 58, 59, 60, 61, 62, 63, 64, 65, 66, 67, 68, 69, 70] (by decide +kernel) (by decide +kernel)
set_option maxRecDepth 20000 in
theorem gX12_pace_X12_coldOf : GoodIn wsX12_pace (wsV RX12 155 RX12 yX12_coldOf wsX12_coldOf) := goodIn_app (goodIn_of _ (by decide +kernel)) ggX12_pace_X12_coldOf
theorem dX12_pace_0 : decode cX12_pace 0 = .ok (.aload_n 0, 1) := by decide +kernel
theorem dX12_pace_1 : decode cX12_pace 1 = .ok (.iload_n 1, 1) := by decide +kernel
theorem dX12_pace_2 : decode cX12_pace 2 = .ok (.invokevirtual 141, 3) := by decide +kernel
theorem dX12_pace_5 : decode cX12_pace 5 = .ok (.ifCond .eq 22, 3) := by decide +kernel
theorem dX12_pace_8 : decode cX12_pace 8 = .ok (.iload_n 2, 1) := by decide +kernel
theorem dX12_pace_9 : decode cX12_pace 9 = .ok (.iconst 0, 1) := by decide +kernel
theorem dX12_pace_10 : decode cX12_pace 10 = .ok (.bipush 99, 2) := by decide +kernel
theorem dX12_pace_12 : decode cX12_pace 12 = .ok (.invokestatic 123, 3) := by decide +kernel
theorem dX12_pace_15 : decode cX12_pace 15 = .ok (.ifCond .eq 12, 3) := by decide +kernel
theorem dX12_pace_18 : decode cX12_pace 18 = .ok (.iload_n 3, 1) := by decide +kernel
theorem dX12_pace_19 : decode cX12_pace 19 = .ok (.iconst 0, 1) := by decide +kernel
theorem dX12_pace_20 : decode cX12_pace 20 = .ok (.iconst 1, 1) := by decide +kernel
theorem dX12_pace_21 : decode cX12_pace 21 = .ok (.invokestatic 123, 3) := by decide +kernel
theorem dX12_pace_24 : decode cX12_pace 24 = .ok (.ifCond .ne 5, 3) := by decide +kernel
theorem dX12_pace_27 : decode cX12_pace 27 = .ok (.iconst (-1), 1) := by decide +kernel
theorem dX12_pace_28 : decode cX12_pace 28 = .ok (.ireturn, 1) := by decide +kernel
theorem dX12_pace_29 : decode cX12_pace 29 = .ok (.iload_n 3, 1) := by decide +kernel
theorem dX12_pace_30 : decode cX12_pace 30 = .ok (.ifCond .ne 12, 3) := by decide +kernel
theorem dX12_pace_33 : decode cX12_pace 33 = .ok (.aload_n 0, 1) := by decide +kernel
theorem dX12_pace_34 : decode cX12_pace 34 = .ok (.iload_n 1, 1) := by decide +kernel
theorem dX12_pace_35 : decode cX12_pace 35 = .ok (.iload_n 2, 1) := by decide +kernel
theorem dX12_pace_36 : decode cX12_pace 36 = .ok (.invokevirtual 152, 3) := by decide +kernel
theorem dX12_pace_39 : decode cX12_pace 39 = .ok (.goto 9, 3) := by decide +kernel
theorem dX12_pace_42 : decode cX12_pace 42 = .ok (.aload_n 0, 1) := by decide +kernel
theorem dX12_pace_43 : decode cX12_pace 43 = .ok (.iload_n 1, 1) := by decide +kernel
theorem dX12_pace_44 : decode cX12_pace 44 = .ok (.iload_n 2, 1) := by decide +kernel
theorem dX12_pace_45 : decode cX12_pace 45 = .ok (.invokevirtual 155, 3) := by decide +kernel
theorem dX12_pace_48 : decode cX12_pace 48 = .ok (.ireturn, 1) := by decide +kernel
theorem dX12_eastOf_0 : decode cX12_eastOf 0 = .ok (.iload_n 0, 1) := by decide +kernel
theorem dX12_eastOf_1 : decode cX12_eastOf 1 = .ok (.ifCond .eq 14, 3) := by decide +kernel
theorem dX12_eastOf_4 : decode cX12_eastOf 4 = .ok (.iload_n 0, 1) := by decide +kernel
theorem dX12_eastOf_5 : decode cX12_eastOf 5 = .ok (.iconst 1, 1) := by decide +kernel
theorem dX12_eastOf_6 : decode cX12_eastOf 6 = .ok (.if_icmp .eq 9, 3) := by decide +kernel
theorem dX12_eastOf_9 : decode cX12_eastOf 9 = .ok (.iload_n 0, 1) := by decide +kernel
theorem dX12_eastOf_10 : decode cX12_eastOf 10 = .ok (.bipush 7, 2) := by decide +kernel
theorem dX12_eastOf_12 : decode cX12_eastOf 12 = .ok (.if_icmp .ne 7, 3) := by decide +kernel
theorem dX12_eastOf_15 : decode cX12_eastOf 15 = .ok (.iconst 1, 1) := by decide +kernel
theorem dX12_eastOf_16 : decode cX12_eastOf 16 = .ok (.goto 19, 3) := by decide +kernel
theorem dX12_eastOf_19 : decode cX12_eastOf 19 = .ok (.iload_n 0, 1) := by decide +kernel
theorem dX12_eastOf_20 : decode cX12_eastOf 20 = .ok (.iconst 2, 1) := by decide +kernel
theorem dX12_eastOf_21 : decode cX12_eastOf 21 = .ok (.if_icmp .le 13, 3) := by decide +kernel
theorem dX12_eastOf_24 : decode cX12_eastOf 24 = .ok (.iload_n 0, 1) := by decide +kernel
theorem dX12_eastOf_25 : decode cX12_eastOf 25 = .ok (.bipush 6, 2) := by decide +kernel
theorem dX12_eastOf_27 : decode cX12_eastOf 27 = .ok (.if_icmp .ge 7, 3) := by decide +kernel
theorem dX12_eastOf_30 : decode cX12_eastOf 30 = .ok (.iconst (-1), 1) := by decide +kernel
theorem dX12_eastOf_31 : decode cX12_eastOf 31 = .ok (.goto 4, 3) := by decide +kernel
theorem dX12_eastOf_34 : decode cX12_eastOf 34 = .ok (.iconst 0, 1) := by decide +kernel
theorem dX12_eastOf_35 : decode cX12_eastOf 35 = .ok (.ireturn, 1) := by decide +kernel
set_option maxRecDepth 20000 in
theorem ggX12_northOf_X12_in : GoodIn wsX12_northOf wsX12_in := goodIn_r _ [4] (by decide +kernel) (by decide +kernel)
set_option maxRecDepth 20000 in
theorem gX12_northOf_X12_in : GoodIn wsX12_northOf (va_wsS RX12 123 yX12_in wsX12_in) := goodIn_app (goodIn_of _ (by decide +kernel)) ggX12_northOf_X12_in
theorem dX12_northOf_0 : decode cX12_northOf 0 = .ok (.iload_n 0, 1) := by decide +kernel
theorem dX12_northOf_1 : decode cX12_northOf 1 = .ok (.iconst 1, 1) := by decide +kernel
theorem dX12_northOf_2 : decode cX12_northOf 2 = .ok (.iconst 3, 1) := by decide +kernel
theorem dX12_northOf_3 : decode cX12_northOf 3 = .ok (.invokestatic 123, 3) := by decide +kernel
theorem dX12_northOf_6 : decode cX12_northOf 6 = .ok (.ifCond .eq 7, 3) := by decide +kernel
theorem dX12_northOf_9 : decode cX12_northOf 9 = .ok (.iconst 1, 1) := by decide +kernel
theorem dX12_northOf_10 : decode cX12_northOf 10 = .ok (.goto 13, 3) := by decide +kernel
theorem dX12_northOf_13 : decode cX12_northOf 13 = .ok (.iload_n 0, 1) := by decide +kernel
theorem dX12_northOf_14 : decode cX12_northOf 14 = .ok (.iconst 4, 1) := by decide +kernel
theorem dX12_northOf_15 : decode cX12_northOf 15 = .ok (.if_icmp .le 7, 3) := by decide +kernel
theorem dX12_northOf_18 : decode cX12_northOf 18 = .ok (.iconst (-1), 1) := by decide +kernel
theorem dX12_northOf_19 : decode cX12_northOf 19 = .ok (.goto 4, 3) := by decide +kernel
theorem dX12_northOf_22 : decode cX12_northOf 22 = .ok (.iconst 0, 1) := by decide +kernel
theorem dX12_northOf_23 : decode cX12_northOf 23 = .ok (.ireturn, 1) := by decide +kernel
set_option maxRecDepth 20000 in
theorem ggX12_step_X12_paceOf : GoodIn wsX12_step wsX12_paceOf := goodIn_r _ [12, 13, 14, 15, 16, 11, 17, 18, 19, 20, 21, 22, 48, 49, 50, 51, 52, 53, 54, 55, 56, 57, 58, 59, 60, 61, 62, 63, 64, 65, 66, 67, 68, 69, 70, 71, 72, 73, 74, 75, 76, 77, 78, 79, 80, 81, 82, 83, 84, 85, 86, 87, 88, 89] (by decide +kernel) (by decide +kernel)
set_option maxRecDepth 20000 in
theorem gX12_step_X12_paceOf : GoodIn wsX12_step (wsV RX12 152 RX12 yX12_paceOf wsX12_paceOf) := goodIn_app (goodIn_of _ (by decide +kernel)) ggX12_step_X12_paceOf
set_option maxRecDepth 20000 in
theorem ggX12_step_X12_tideAt : GoodIn wsX12_step wsX12_tideAt := goodIn_r _ [25] (by decide +kernel) (by decide +kernel)
set_option maxRecDepth 20000 in
theorem gX12_step_X12_tideAt : GoodIn wsX12_step (va_wsS RX12 134 yX12_tideAt wsX12_tideAt) := goodIn_app (goodIn_of _ (by decide +kernel)) ggX12_step_X12_tideAt
set_option maxRecDepth 20000 in
theorem ggX12_step_X12_eastOf : GoodIn wsX12_step wsX12_eastOf := goodIn_r _ [28] (by decide +kernel) (by decide +kernel)
set_option maxRecDepth 20000 in
theorem gX12_step_X12_eastOf : GoodIn wsX12_step (va_wsS RX12 158 yX12_eastOf wsX12_eastOf) := goodIn_app (goodIn_of _ (by decide +kernel)) ggX12_step_X12_eastOf
set_option maxRecDepth 20000 in
theorem ggX12_step_X12_northOf : GoodIn wsX12_step wsX12_northOf := goodIn_r _ [31, 32, 33, 11, 34] (by decide +kernel) (by decide +kernel)
set_option maxRecDepth 20000 in
theorem gX12_step_X12_northOf : GoodIn wsX12_step (va_wsS RX12 161 yX12_northOf wsX12_northOf) := goodIn_app (goodIn_of _ (by decide +kernel)) ggX12_step_X12_northOf
set_option maxRecDepth 20000 in
theorem ggX12_step_X12_isPlace : GoodIn wsX12_step wsX12_isPlace := goodIn_r _ [37, 32, 33, 11, 34] (by decide +kernel) (by decide +kernel)
set_option maxRecDepth 20000 in
theorem gX12_step_X12_isPlace : GoodIn wsX12_step (va_wsS RX12 127 yX12_isPlace wsX12_isPlace) := goodIn_app (goodIn_of _ (by decide +kernel)) ggX12_step_X12_isPlace
set_option maxRecDepth 20000 in
theorem ggX12_step_X12_coldOf : GoodIn wsX12_step wsX12_coldOf := goodIn_r _ [41, 42, 13, 15, 16, 11, 17, 48, 49, 50, 51, 52, 53, 54, 55, 56, 57, 58, 59, 60, 61, 62, 63, 64, 65, 66, 67, 68, 69, 70, 71, 72, 73, 74, 75, 76, 77, 78, 79, 80, 81, 82, 83, 84, 85, 86, 87, 88, 89] (by decide +kernel) (by decide +kernel)
set_option maxRecDepth 20000 in
theorem gX12_step_X12_coldOf : GoodIn wsX12_step (wsV RX12 155 RX12 yX12_coldOf wsX12_coldOf) := goodIn_app (goodIn_of _ (by decide +kernel)) ggX12_step_X12_coldOf
set_option maxRecDepth 20000 in
theorem ggX12_step_X12_isFed : GoodIn wsX12_step wsX12_isFed := goodIn_r _ [21, 22, 48, 49, 50, 51, 52, 53, 54, 55, 56, 57, 58, 59, 60, 61, 62, 63, 64, 65, 66, 67, 68, 69, 70, 71, 72, 73, 74, 75, 76, 77, 78, 79, 80, 81, 82, 83, 84, 85, 86, 87, 88, 89] (by decide +kernel) (by decide +kernel)
set_option maxRecDepth 20000 in
theorem gX12_step_X12_isFed : GoodIn wsX12_step (wsV RX12 149 RX12 yX12_isFed wsX12_isFed) := goodIn_app (goodIn_of _ (by decide +kernel)) ggX12_step_X12_isFed
set_option maxRecDepth 20000 in
theorem ggX12_step_X12_isDry : GoodIn wsX12_step wsX12_isDry := goodIn_r _ [46, 47, 48, 49, 50, 51, 52, 53, 54, 55, 56, 57, 58, 59, 60, 61, 62, 63, 64, 65, 66, 67, 68, 69, 70, 71, 72, 73, 74, 75, 76, 77, 78, 79, 80, 81, 82, 83, 84, 85, 86, 87, 88, 89] (by decide +kernel) (by decide +kernel)
set_option maxRecDepth 20000 in
theorem gX12_step_X12_isDry : GoodIn wsX12_step (wsV RX12 131 RX12 yX12_isDry wsX12_isDry) := goodIn_app (goodIn_of _ (by decide +kernel)) ggX12_step_X12_isDry
theorem dX12_step_0 : decode cX12_step 0 = .ok (.bipush 101, 2) := by decide +kernel
theorem dX12_step_2 : decode cX12_step 2 = .ok (.iload_n 1, 1) := by decide +kernel
theorem dX12_step_3 : decode cX12_step 3 = .ok (.imul, 1) := by decide +kernel
theorem dX12_step_4 : decode cX12_step 4 = .ok (.istore 7, 2) := by decide +kernel
theorem dX12_step_6 : decode cX12_step 6 = .ok (.aload_n 0, 1) := by decide +kernel
theorem dX12_step_7 : decode cX12_step 7 = .ok (.getfield 39, 3) := by decide +kernel
theorem dX12_step_10 : decode cX12_step 10 = .ok (.iload 7, 2) := by decide +kernel
theorem dX12_step_12 : decode cX12_step 12 = .ok (.iload_n 3, 1) := by decide +kernel
theorem dX12_step_13 : decode cX12_step 13 = .ok (.iastore, 1) := by decide +kernel
theorem dX12_step_14 : decode cX12_step 14 = .ok (.aload_n 0, 1) := by decide +kernel
theorem dX12_step_15 : decode cX12_step 15 = .ok (.getfield 42, 3) := by decide +kernel
theorem dX12_step_18 : decode cX12_step 18 = .ok (.iload 7, 2) := by decide +kernel
theorem dX12_step_20 : decode cX12_step 20 = .ok (.iload 4, 2) := by decide +kernel
theorem dX12_step_22 : decode cX12_step 22 = .ok (.iastore, 1) := by decide +kernel
theorem dX12_step_23 : decode cX12_step 23 = .ok (.aload_n 0, 1) := by decide +kernel
theorem dX12_step_24 : decode cX12_step 24 = .ok (.getfield 48, 3) := by decide +kernel
theorem dX12_step_27 : decode cX12_step 27 = .ok (.iload_n 1, 1) := by decide +kernel
theorem dX12_step_28 : decode cX12_step 28 = .ok (.iconst 0, 1) := by decide +kernel
theorem dX12_step_29 : decode cX12_step 29 = .ok (.iastore, 1) := by decide +kernel
theorem dX12_step_30 : decode cX12_step 30 = .ok (.aload_n 0, 1) := by decide +kernel
theorem dX12_step_31 : decode cX12_step 31 = .ok (.getfield 45, 3) := by decide +kernel
theorem dX12_step_34 : decode cX12_step 34 = .ok (.iload_n 1, 1) := by decide +kernel
theorem dX12_step_35 : decode cX12_step 35 = .ok (.iconst 0, 1) := by decide +kernel
theorem dX12_step_36 : decode cX12_step 36 = .ok (.iastore, 1) := by decide +kernel
theorem dX12_step_37 : decode cX12_step 37 = .ok (.iconst 0, 1) := by decide +kernel
theorem dX12_step_38 : decode cX12_step 38 = .ok (.istore 8, 2) := by decide +kernel
theorem dX12_step_40 : decode cX12_step 40 = .ok (.iload 8, 2) := by decide +kernel
theorem dX12_step_42 : decode cX12_step 42 = .ok (.bipush 100, 2) := by decide +kernel
theorem dX12_step_44 : decode cX12_step 44 = .ok (.if_icmp .ge 278, 3) := by decide +kernel
theorem dX12_step_47 : decode cX12_step 47 = .ok (.aload_n 0, 1) := by decide +kernel
theorem dX12_step_48 : decode cX12_step 48 = .ok (.iload_n 2, 1) := by decide +kernel
theorem dX12_step_49 : decode cX12_step 49 = .ok (.iload 8, 2) := by decide +kernel
theorem dX12_step_51 : decode cX12_step 51 = .ok (.invokevirtual 152, 3) := by decide +kernel
theorem dX12_step_54 : decode cX12_step 54 = .ok (.istore 9, 2) := by decide +kernel
theorem dX12_step_56 : decode cX12_step 56 = .ok (.iload 6, 2) := by decide +kernel
theorem dX12_step_58 : decode cX12_step 58 = .ok (.iconst 2, 1) := by decide +kernel
theorem dX12_step_59 : decode cX12_step 59 = .ok (.irem, 1) := by decide +kernel
theorem dX12_step_60 : decode cX12_step 60 = .ok (.iconst 1, 1) := by decide +kernel
theorem dX12_step_61 : decode cX12_step 61 = .ok (.if_icmp .ne 14, 3) := by decide +kernel
theorem dX12_step_64 : decode cX12_step 64 = .ok (.iload 9, 2) := by decide +kernel
theorem dX12_step_66 : decode cX12_step 66 = .ok (.bipush 7, 2) := by decide +kernel
theorem dX12_step_68 : decode cX12_step 68 = .ok (.imul, 1) := by decide +kernel
theorem dX12_step_69 : decode cX12_step 69 = .ok (.bipush 10, 2) := by decide +kernel
theorem dX12_step_71 : decode cX12_step 71 = .ok (.idiv, 1) := by decide +kernel
theorem dX12_step_72 : decode cX12_step 72 = .ok (.goto 5, 3) := by decide +kernel
theorem dX12_step_75 : decode cX12_step 75 = .ok (.iload 9, 2) := by decide +kernel
theorem dX12_step_77 : decode cX12_step 77 = .ok (.istore 10, 2) := by decide +kernel
theorem dX12_step_79 : decode cX12_step 79 = .ok (.aload_n 0, 1) := by decide +kernel
theorem dX12_step_80 : decode cX12_step 80 = .ok (.getfield 42, 3) := by decide +kernel
theorem dX12_step_83 : decode cX12_step 83 = .ok (.iload 7, 2) := by decide +kernel
theorem dX12_step_85 : decode cX12_step 85 = .ok (.iaload, 1) := by decide +kernel
theorem dX12_step_86 : decode cX12_step 86 = .ok (.iload 5, 2) := by decide +kernel
theorem dX12_step_88 : decode cX12_step 88 = .ok (.iload 8, 2) := by decide +kernel
theorem dX12_step_90 : decode cX12_step 90 = .ok (.iadd, 1) := by decide +kernel
theorem dX12_step_91 : decode cX12_step 91 = .ok (.invokestatic 134, 3) := by decide +kernel
theorem dX12_step_94 : decode cX12_step 94 = .ok (.istore 11, 2) := by decide +kernel
theorem dX12_step_96 : decode cX12_step 96 = .ok (.aload_n 0, 1) := by decide +kernel
theorem dX12_step_97 : decode cX12_step 97 = .ok (.getfield 39, 3) := by decide +kernel
theorem dX12_step_100 : decode cX12_step 100 = .ok (.iload 7, 2) := by decide +kernel
theorem dX12_step_102 : decode cX12_step 102 = .ok (.iaload, 1) := by decide +kernel
theorem dX12_step_103 : decode cX12_step 103 = .ok (.iload 6, 2) := by decide +kernel
theorem dX12_step_105 : decode cX12_step 105 = .ok (.invokestatic 158, 3) := by decide +kernel
theorem dX12_step_108 : decode cX12_step 108 = .ok (.iload 10, 2) := by decide +kernel
theorem dX12_step_110 : decode cX12_step 110 = .ok (.imul, 1) := by decide +kernel
theorem dX12_step_111 : decode cX12_step 111 = .ok (.iadd, 1) := by decide +kernel
theorem dX12_step_112 : decode cX12_step 112 = .ok (.aload_n 0, 1) := by decide +kernel
theorem dX12_step_113 : decode cX12_step 113 = .ok (.getfield 13, 3) := by decide +kernel
theorem dX12_step_116 : decode cX12_step 116 = .ok (.iload 11, 2) := by decide +kernel
theorem dX12_step_118 : decode cX12_step 118 = .ok (.iaload, 1) := by decide +kernel
theorem dX12_step_119 : decode cX12_step 119 = .ok (.iadd, 1) := by decide +kernel
theorem dX12_step_120 : decode cX12_step 120 = .ok (.istore 12, 2) := by decide +kernel
theorem dX12_step_122 : decode cX12_step 122 = .ok (.aload_n 0, 1) := by decide +kernel
theorem dX12_step_123 : decode cX12_step 123 = .ok (.getfield 42, 3) := by decide +kernel
theorem dX12_step_126 : decode cX12_step 126 = .ok (.iload 7, 2) := by decide +kernel
theorem dX12_step_128 : decode cX12_step 128 = .ok (.iaload, 1) := by decide +kernel
theorem dX12_step_129 : decode cX12_step 129 = .ok (.iload 6, 2) := by decide +kernel
theorem dX12_step_131 : decode cX12_step 131 = .ok (.invokestatic 161, 3) := by decide +kernel
theorem dX12_step_134 : decode cX12_step 134 = .ok (.iload 10, 2) := by decide +kernel
theorem dX12_step_136 : decode cX12_step 136 = .ok (.imul, 1) := by decide +kernel
theorem dX12_step_137 : decode cX12_step 137 = .ok (.iadd, 1) := by decide +kernel
theorem dX12_step_138 : decode cX12_step 138 = .ok (.aload_n 0, 1) := by decide +kernel
theorem dX12_step_139 : decode cX12_step 139 = .ok (.getfield 17, 3) := by decide +kernel
theorem dX12_step_142 : decode cX12_step 142 = .ok (.iload 11, 2) := by decide +kernel
theorem dX12_step_144 : decode cX12_step 144 = .ok (.iaload, 1) := by decide +kernel
theorem dX12_step_145 : decode cX12_step 145 = .ok (.iadd, 1) := by decide +kernel
theorem dX12_step_146 : decode cX12_step 146 = .ok (.istore 13, 2) := by decide +kernel
theorem dX12_step_148 : decode cX12_step 148 = .ok (.aload_n 0, 1) := by decide +kernel
theorem dX12_step_149 : decode cX12_step 149 = .ok (.getfield 45, 3) := by decide +kernel
theorem dX12_step_152 : decode cX12_step 152 = .ok (.iload_n 1, 1) := by decide +kernel
theorem dX12_step_153 : decode cX12_step 153 = .ok (.iload 8, 2) := by decide +kernel
theorem dX12_step_155 : decode cX12_step 155 = .ok (.iconst 1, 1) := by decide +kernel
theorem dX12_step_156 : decode cX12_step 156 = .ok (.iadd, 1) := by decide +kernel
theorem dX12_step_157 : decode cX12_step 157 = .ok (.iastore, 1) := by decide +kernel
theorem dX12_step_158 : decode cX12_step 158 = .ok (.iload 12, 2) := by decide +kernel
theorem dX12_step_160 : decode cX12_step 160 = .ok (.iload 13, 2) := by decide +kernel
theorem dX12_step_162 : decode cX12_step 162 = .ok (.invokestatic 127, 3) := by decide +kernel
theorem dX12_step_165 : decode cX12_step 165 = .ok (.ifCond .ne 7, 3) := by decide +kernel
theorem dX12_step_168 : decode cX12_step 168 = .ok (.iconst 1, 1) := by decide +kernel
theorem dX12_step_169 : decode cX12_step 169 = .ok (.goto 4, 3) := by decide +kernel
theorem dX12_step_172 : decode cX12_step 172 = .ok (.iconst 0, 1) := by decide +kernel
theorem dX12_step_173 : decode cX12_step 173 = .ok (.istore 14, 2) := by decide +kernel
theorem dX12_step_175 : decode cX12_step 175 = .ok (.aload_n 0, 1) := by decide +kernel
theorem dX12_step_176 : decode cX12_step 176 = .ok (.getfield 39, 3) := by decide +kernel
theorem dX12_step_179 : decode cX12_step 179 = .ok (.iload 7, 2) := by decide +kernel
theorem dX12_step_181 : decode cX12_step 181 = .ok (.iconst 1, 1) := by decide +kernel
theorem dX12_step_182 : decode cX12_step 182 = .ok (.iadd, 1) := by decide +kernel
theorem dX12_step_183 : decode cX12_step 183 = .ok (.iload 14, 2) := by decide +kernel
theorem dX12_step_185 : decode cX12_step 185 = .ok (.ifCond .eq 13, 3) := by decide +kernel
theorem dX12_step_188 : decode cX12_step 188 = .ok (.aload_n 0, 1) := by decide +kernel
theorem dX12_step_189 : decode cX12_step 189 = .ok (.getfield 39, 3) := by decide +kernel
theorem dX12_step_192 : decode cX12_step 192 = .ok (.iload 7, 2) := by decide +kernel
theorem dX12_step_194 : decode cX12_step 194 = .ok (.iaload, 1) := by decide +kernel
theorem dX12_step_195 : decode cX12_step 195 = .ok (.goto 5, 3) := by decide +kernel
theorem dX12_step_198 : decode cX12_step 198 = .ok (.iload 12, 2) := by decide +kernel
theorem dX12_step_200 : decode cX12_step 200 = .ok (.iastore, 1) := by decide +kernel
theorem dX12_step_201 : decode cX12_step 201 = .ok (.aload_n 0, 1) := by decide +kernel
theorem dX12_step_202 : decode cX12_step 202 = .ok (.getfield 42, 3) := by decide +kernel
theorem dX12_step_205 : decode cX12_step 205 = .ok (.iload 7, 2) := by decide +kernel
theorem dX12_step_207 : decode cX12_step 207 = .ok (.iconst 1, 1) := by decide +kernel
theorem dX12_step_208 : decode cX12_step 208 = .ok (.iadd, 1) := by decide +kernel
theorem dX12_step_209 : decode cX12_step 209 = .ok (.iload 14, 2) := by decide +kernel
theorem dX12_step_211 : decode cX12_step 211 = .ok (.ifCond .eq 13, 3) := by decide +kernel
theorem dX12_step_214 : decode cX12_step 214 = .ok (.aload_n 0, 1) := by decide +kernel
theorem dX12_step_215 : decode cX12_step 215 = .ok (.getfield 42, 3) := by decide +kernel
theorem dX12_step_218 : decode cX12_step 218 = .ok (.iload 7, 2) := by decide +kernel
theorem dX12_step_220 : decode cX12_step 220 = .ok (.iaload, 1) := by decide +kernel
theorem dX12_step_221 : decode cX12_step 221 = .ok (.goto 5, 3) := by decide +kernel
theorem dX12_step_224 : decode cX12_step 224 = .ok (.iload 13, 2) := by decide +kernel
theorem dX12_step_226 : decode cX12_step 226 = .ok (.iastore, 1) := by decide +kernel
theorem dX12_step_227 : decode cX12_step 227 = .ok (.iload 14, 2) := by decide +kernel
theorem dX12_step_229 : decode cX12_step 229 = .ok (.ifCond .eq 5, 3) := by decide +kernel
theorem dX12_step_232 : decode cX12_step 232 = .ok (.iconst 2, 1) := by decide +kernel
theorem dX12_step_233 : decode cX12_step 233 = .ok (.ireturn, 1) := by decide +kernel
theorem dX12_step_234 : decode cX12_step 234 = .ok (.iinc 7 1, 3) := by decide +kernel
theorem dX12_step_237 : decode cX12_step 237 = .ok (.aload_n 0, 1) := by decide +kernel
theorem dX12_step_238 : decode cX12_step 238 = .ok (.getfield 48, 3) := by decide +kernel
theorem dX12_step_241 : decode cX12_step 241 = .ok (.iload_n 1, 1) := by decide +kernel
theorem dX12_step_242 : decode cX12_step 242 = .ok (.iaload, 1) := by decide +kernel
theorem dX12_step_243 : decode cX12_step 243 = .ok (.aload_n 0, 1) := by decide +kernel
theorem dX12_step_244 : decode cX12_step 244 = .ok (.iload_n 2, 1) := by decide +kernel
theorem dX12_step_245 : decode cX12_step 245 = .ok (.iload 8, 2) := by decide +kernel
theorem dX12_step_247 : decode cX12_step 247 = .ok (.invokevirtual 155, 3) := by decide +kernel
theorem dX12_step_250 : decode cX12_step 250 = .ok (.iadd, 1) := by decide +kernel
theorem dX12_step_251 : decode cX12_step 251 = .ok (.aload_n 0, 1) := by decide +kernel
theorem dX12_step_252 : decode cX12_step 252 = .ok (.iload_n 2, 1) := by decide +kernel
theorem dX12_step_253 : decode cX12_step 253 = .ok (.iload 8, 2) := by decide +kernel
theorem dX12_step_255 : decode cX12_step 255 = .ok (.invokevirtual 149, 3) := by decide +kernel
theorem dX12_step_258 : decode cX12_step 258 = .ok (.ifCond .eq 7, 3) := by decide +kernel
theorem dX12_step_261 : decode cX12_step 261 = .ok (.iconst 3, 1) := by decide +kernel
theorem dX12_step_262 : decode cX12_step 262 = .ok (.goto 4, 3) := by decide +kernel
theorem dX12_step_265 : decode cX12_step 265 = .ok (.iconst 0, 1) := by decide +kernel
theorem dX12_step_266 : decode cX12_step 266 = .ok (.isub, 1) := by decide +kernel
theorem dX12_step_267 : decode cX12_step 267 = .ok (.istore 15, 2) := by decide +kernel
theorem dX12_step_269 : decode cX12_step 269 = .ok (.aload_n 0, 1) := by decide +kernel
theorem dX12_step_270 : decode cX12_step 270 = .ok (.getfield 48, 3) := by decide +kernel
theorem dX12_step_273 : decode cX12_step 273 = .ok (.iload_n 1, 1) := by decide +kernel
theorem dX12_step_274 : decode cX12_step 274 = .ok (.iload 15, 2) := by decide +kernel
theorem dX12_step_276 : decode cX12_step 276 = .ok (.ifCond .ge 7, 3) := by decide +kernel
theorem dX12_step_279 : decode cX12_step 279 = .ok (.iconst 0, 1) := by decide +kernel
theorem dX12_step_280 : decode cX12_step 280 = .ok (.goto 5, 3) := by decide +kernel
theorem dX12_step_283 : decode cX12_step 283 = .ok (.iload 15, 2) := by decide +kernel
theorem dX12_step_285 : decode cX12_step 285 = .ok (.iastore, 1) := by decide +kernel
theorem dX12_step_286 : decode cX12_step 286 = .ok (.aload_n 0, 1) := by decide +kernel
theorem dX12_step_287 : decode cX12_step 287 = .ok (.iload 12, 2) := by decide +kernel
theorem dX12_step_289 : decode cX12_step 289 = .ok (.iload 13, 2) := by decide +kernel
theorem dX12_step_291 : decode cX12_step 291 = .ok (.invokevirtual 131, 3) := by decide +kernel
theorem dX12_step_294 : decode cX12_step 294 = .ok (.ifCond .eq 5, 3) := by decide +kernel
theorem dX12_step_297 : decode cX12_step 297 = .ok (.iconst 0, 1) := by decide +kernel
theorem dX12_step_298 : decode cX12_step 298 = .ok (.ireturn, 1) := by decide +kernel
theorem dX12_step_299 : decode cX12_step 299 = .ok (.aload_n 0, 1) := by decide +kernel
theorem dX12_step_300 : decode cX12_step 300 = .ok (.getfield 48, 3) := by decide +kernel
theorem dX12_step_303 : decode cX12_step 303 = .ok (.iload_n 1, 1) := by decide +kernel
theorem dX12_step_304 : decode cX12_step 304 = .ok (.iaload, 1) := by decide +kernel
theorem dX12_step_305 : decode cX12_step 305 = .ok (.aload_n 0, 1) := by decide +kernel
theorem dX12_step_306 : decode cX12_step 306 = .ok (.getfield 33, 3) := by decide +kernel
theorem dX12_step_309 : decode cX12_step 309 = .ok (.iload_n 2, 1) := by decide +kernel
theorem dX12_step_310 : decode cX12_step 310 = .ok (.iaload, 1) := by decide +kernel
theorem dX12_step_311 : decode cX12_step 311 = .ok (.if_icmp .lt 5, 3) := by decide +kernel
theorem dX12_step_314 : decode cX12_step 314 = .ok (.iconst 1, 1) := by decide +kernel
theorem dX12_step_315 : decode cX12_step 315 = .ok (.ireturn, 1) := by decide +kernel
theorem dX12_step_316 : decode cX12_step 316 = .ok (.iinc 8 1, 3) := by decide +kernel
theorem dX12_step_319 : decode cX12_step 319 = .ok (.goto (-279), 3) := by decide +kernel
theorem dX12_step_322 : decode cX12_step 322 = .ok (.iconst 3, 1) := by decide +kernel
theorem dX12_step_323 : decode cX12_step 323 = .ok (.ireturn, 1) := by decide +kernel
set_option maxRecDepth 20000 in
theorem ggX12_swim_X12_isSwimmer : GoodIn wsX12_swim wsX12_isSwimmer := goodIn_r _ [6, 7, 8, 9, 5, 10, 58, 59, 60, 61, 62, 63, 64, 65, 66, 67, 68, 69, 70, 71, 72, 73, 74, 75, 76, 77, 78, 79, 80, 81, 82, 83, 84, 85, 86, 87, 88, 89, 90, 91, 92, 93, 94, 95, 96, 97, 98, 99] (by decide +kernel) (by decide +kernel)
set_option maxRecDepth 20000 in
theorem gX12_swim_X12_isSwimmer : GoodIn wsX12_swim (wsV RX12 141 RX12 yX12_isSwimmer wsX12_isSwimmer) := goodIn_app (goodIn_of _ (by decide +kernel)) ggX12_swim_X12_isSwimmer
set_option maxRecDepth 20000 in
theorem ggX12_swim_X12_isPlace : GoodIn wsX12_swim wsX12_isPlace := goodIn_r _ [13, 8, 9, 5, 10] (by decide +kernel) (by decide +kernel)
set_option maxRecDepth 20000 in
theorem gX12_swim_X12_isPlace : GoodIn wsX12_swim (va_wsS RX12 127 yX12_isPlace wsX12_isPlace) := goodIn_app (goodIn_of _ (by decide +kernel)) ggX12_swim_X12_isPlace
set_option maxRecDepth 20000 in
theorem ggX12_swim_X12_in : GoodIn wsX12_swim wsX12_in := goodIn_r _ [10] (by decide +kernel) (by decide +kernel)
set_option maxRecDepth 20000 in
theorem gX12_swim_X12_in : GoodIn wsX12_swim (va_wsS RX12 123 yX12_in wsX12_in) := goodIn_app (goodIn_of _ (by decide +kernel)) ggX12_swim_X12_in
set_option maxRecDepth 20000 in
theorem ggX12_swim_X12_isDry : GoodIn wsX12_swim wsX12_isDry := goodIn_r _ [17, 18, 58, 59, 60, 61, 62, 63, 64, 65, 66, 67, 68, 69, 70, 71, 72, 73, 74, 75, 76, 77, 78, 79, 80, 81, 82, 83, 84, 85, 86, 87, 88, 89, 90, 91, 92, 93, 94, 95, 96, 97, 98, 99] (by decide +kernel) (by decide +kernel)
set_option maxRecDepth 20000 in
theorem gX12_swim_X12_isDry : GoodIn wsX12_swim (wsV RX12 131 RX12 yX12_isDry wsX12_isDry) := goodIn_app (goodIn_of _ (by decide +kernel)) ggX12_swim_X12_isDry
set_option maxRecDepth 20000 in
theorem ggX12_swim_X12_step : GoodIn wsX12_swim wsX12_step := goodIn_r _ [22, 23, 24, 25, 26, 27, 28, 29, 30, 31, 32, 5, 33, 34, 35, 36, 37, 38, 39, 40, 41, 42, 43, 44, 45, 46, 47, 48, 49, 50, 51, 52, 8, 9, 10, 11, 12, 13, 53, 54, 55, 56, 57, 14, 15, 16, 17, 18, 58, 59, 60, 61, 62, 63, 64, 65, 66, 67, 68, 69, 70, 71, 72, 73, 74, 75, 76, 77, 78, 79, 80, 81, 82, 83, 84, 85, 86, 87, 88, 89, 90, 91, 92, 93, 94, 95, 96, 97, 98, 99] (by decide +kernel) (by decide +kernel)
set_option maxRecDepth 20000 in
theorem gX12_swim_X12_step : GoodIn wsX12_swim (wsV RX12 164 RX12 yX12_step wsX12_step) := goodIn_app (goodIn_of _ (by decide +kernel)) ggX12_swim_X12_step
theorem dX12_swim_0 : decode cX12_swim 0 = .ok (.aload_n 0, 1) := by decide +kernel
theorem dX12_swim_1 : decode cX12_swim 1 = .ok (.iload_n 1, 1) := by decide +kernel
theorem dX12_swim_2 : decode cX12_swim 2 = .ok (.invokevirtual 141, 3) := by decide +kernel
theorem dX12_swim_5 : decode cX12_swim 5 = .ok (.ifCond .eq 33, 3) := by decide +kernel
theorem dX12_swim_8 : decode cX12_swim 8 = .ok (.iload_n 2, 1) := by decide +kernel
theorem dX12_swim_9 : decode cX12_swim 9 = .ok (.iload_n 3, 1) := by decide +kernel
theorem dX12_swim_10 : decode cX12_swim 10 = .ok (.invokestatic 127, 3) := by decide +kernel
theorem dX12_swim_13 : decode cX12_swim 13 = .ok (.ifCond .eq 25, 3) := by decide +kernel
theorem dX12_swim_16 : decode cX12_swim 16 = .ok (.iload 4, 2) := by decide +kernel
theorem dX12_swim_18 : decode cX12_swim 18 = .ok (.iconst 0, 1) := by decide +kernel
theorem dX12_swim_19 : decode cX12_swim 19 = .ok (.bipush 47, 2) := by decide +kernel
theorem dX12_swim_21 : decode cX12_swim 21 = .ok (.invokestatic 123, 3) := by decide +kernel
theorem dX12_swim_24 : decode cX12_swim 24 = .ok (.ifCond .eq 14, 3) := by decide +kernel
theorem dX12_swim_27 : decode cX12_swim 27 = .ok (.iload 5, 2) := by decide +kernel
theorem dX12_swim_29 : decode cX12_swim 29 = .ok (.iconst 0, 1) := by decide +kernel
theorem dX12_swim_30 : decode cX12_swim 30 = .ok (.bipush 7, 2) := by decide +kernel
theorem dX12_swim_32 : decode cX12_swim 32 = .ok (.invokestatic 123, 3) := by decide +kernel
theorem dX12_swim_35 : decode cX12_swim 35 = .ok (.ifCond .ne 5, 3) := by decide +kernel
theorem dX12_swim_38 : decode cX12_swim 38 = .ok (.iconst (-1), 1) := by decide +kernel
theorem dX12_swim_39 : decode cX12_swim 39 = .ok (.ireturn, 1) := by decide +kernel
theorem dX12_swim_40 : decode cX12_swim 40 = .ok (.aload_n 0, 1) := by decide +kernel
theorem dX12_swim_41 : decode cX12_swim 41 = .ok (.iload_n 2, 1) := by decide +kernel
theorem dX12_swim_42 : decode cX12_swim 42 = .ok (.iload_n 3, 1) := by decide +kernel
theorem dX12_swim_43 : decode cX12_swim 43 = .ok (.invokevirtual 131, 3) := by decide +kernel
theorem dX12_swim_46 : decode cX12_swim 46 = .ok (.ifCond .eq 6, 3) := by decide +kernel
theorem dX12_swim_49 : decode cX12_swim 49 = .ok (.bipush (-4), 2) := by decide +kernel
theorem dX12_swim_51 : decode cX12_swim 51 = .ok (.ireturn, 1) := by decide +kernel
theorem dX12_swim_52 : decode cX12_swim 52 = .ok (.aload_n 0, 1) := by decide +kernel
theorem dX12_swim_53 : decode cX12_swim 53 = .ok (.iload_n 1, 1) := by decide +kernel
theorem dX12_swim_54 : decode cX12_swim 54 = .ok (.putfield 51, 3) := by decide +kernel
theorem dX12_swim_57 : decode cX12_swim 57 = .ok (.aload_n 0, 1) := by decide +kernel
theorem dX12_swim_58 : decode cX12_swim 58 = .ok (.iconst 0, 1) := by decide +kernel
theorem dX12_swim_59 : decode cX12_swim 59 = .ok (.iload_n 1, 1) := by decide +kernel
theorem dX12_swim_60 : decode cX12_swim 60 = .ok (.iload_n 2, 1) := by decide +kernel
theorem dX12_swim_61 : decode cX12_swim 61 = .ok (.iload_n 3, 1) := by decide +kernel
theorem dX12_swim_62 : decode cX12_swim 62 = .ok (.iload 4, 2) := by decide +kernel
theorem dX12_swim_64 : decode cX12_swim 64 = .ok (.iload 5, 2) := by decide +kernel
theorem dX12_swim_66 : decode cX12_swim 66 = .ok (.invokevirtual 164, 3) := by decide +kernel
theorem dX12_swim_69 : decode cX12_swim 69 = .ok (.ireturn, 1) := by decide +kernel
set_option maxRecDepth 20000 in
theorem ggX12_ended_X12_in : GoodIn wsX12_ended wsX12_in := goodIn_r _ [9] (by decide +kernel) (by decide +kernel)
set_option maxRecDepth 20000 in
theorem gX12_ended_X12_in : GoodIn wsX12_ended (va_wsS RX12 123 yX12_in wsX12_in) := goodIn_app (goodIn_of _ (by decide +kernel)) ggX12_ended_X12_in
theorem dX12_ended_0 : decode cX12_ended 0 = .ok (.iload_n 1, 1) := by decide +kernel
theorem dX12_ended_1 : decode cX12_ended 1 = .ok (.iconst 0, 1) := by decide +kernel
theorem dX12_ended_2 : decode cX12_ended 2 = .ok (.iconst 4, 1) := by decide +kernel
theorem dX12_ended_3 : decode cX12_ended 3 = .ok (.invokestatic 123, 3) := by decide +kernel
theorem dX12_ended_6 : decode cX12_ended 6 = .ok (.ifCond .ne 5, 3) := by decide +kernel
theorem dX12_ended_9 : decode cX12_ended 9 = .ok (.iconst (-1), 1) := by decide +kernel
theorem dX12_ended_10 : decode cX12_ended 10 = .ok (.ireturn, 1) := by decide +kernel
theorem dX12_ended_11 : decode cX12_ended 11 = .ok (.aload_n 0, 1) := by decide +kernel
theorem dX12_ended_12 : decode cX12_ended 12 = .ok (.getfield 51, 3) := by decide +kernel
theorem dX12_ended_15 : decode cX12_ended 15 = .ok (.iconst (-1), 1) := by decide +kernel
theorem dX12_ended_16 : decode cX12_ended 16 = .ok (.if_icmp .ne 6, 3) := by decide +kernel
theorem dX12_ended_19 : decode cX12_ended 19 = .ok (.bipush (-3), 2) := by decide +kernel
theorem dX12_ended_21 : decode cX12_ended 21 = .ok (.ireturn, 1) := by decide +kernel
theorem dX12_ended_22 : decode cX12_ended 22 = .ok (.aload_n 0, 1) := by decide +kernel
theorem dX12_ended_23 : decode cX12_ended 23 = .ok (.getfield 45, 3) := by decide +kernel
theorem dX12_ended_26 : decode cX12_ended 26 = .ok (.iconst 0, 1) := by decide +kernel
theorem dX12_ended_27 : decode cX12_ended 27 = .ok (.iaload, 1) := by decide +kernel
theorem dX12_ended_28 : decode cX12_ended 28 = .ok (.istore_n 2, 1) := by decide +kernel
theorem dX12_ended_29 : decode cX12_ended 29 = .ok (.iload_n 1, 1) := by decide +kernel
theorem dX12_ended_30 : decode cX12_ended 30 = .ok (.ifCond .ne 12, 3) := by decide +kernel
theorem dX12_ended_33 : decode cX12_ended 33 = .ok (.aload_n 0, 1) := by decide +kernel
theorem dX12_ended_34 : decode cX12_ended 34 = .ok (.getfield 39, 3) := by decide +kernel
theorem dX12_ended_37 : decode cX12_ended 37 = .ok (.iload_n 2, 1) := by decide +kernel
theorem dX12_ended_38 : decode cX12_ended 38 = .ok (.iaload, 1) := by decide +kernel
theorem dX12_ended_39 : decode cX12_ended 39 = .ok (.goto 44, 3) := by decide +kernel
theorem dX12_ended_42 : decode cX12_ended 42 = .ok (.iload_n 1, 1) := by decide +kernel
theorem dX12_ended_43 : decode cX12_ended 43 = .ok (.iconst 1, 1) := by decide +kernel
theorem dX12_ended_44 : decode cX12_ended 44 = .ok (.if_icmp .ne 12, 3) := by decide +kernel
theorem dX12_ended_47 : decode cX12_ended 47 = .ok (.aload_n 0, 1) := by decide +kernel
theorem dX12_ended_48 : decode cX12_ended 48 = .ok (.getfield 42, 3) := by decide +kernel
theorem dX12_ended_51 : decode cX12_ended 51 = .ok (.iload_n 2, 1) := by decide +kernel
theorem dX12_ended_52 : decode cX12_ended 52 = .ok (.iaload, 1) := by decide +kernel
theorem dX12_ended_53 : decode cX12_ended 53 = .ok (.goto 30, 3) := by decide +kernel
theorem dX12_ended_56 : decode cX12_ended 56 = .ok (.iload_n 1, 1) := by decide +kernel
theorem dX12_ended_57 : decode cX12_ended 57 = .ok (.iconst 2, 1) := by decide +kernel
theorem dX12_ended_58 : decode cX12_ended 58 = .ok (.if_icmp .ne 7, 3) := by decide +kernel
theorem dX12_ended_61 : decode cX12_ended 61 = .ok (.iload_n 2, 1) := by decide +kernel
theorem dX12_ended_62 : decode cX12_ended 62 = .ok (.goto 21, 3) := by decide +kernel
theorem dX12_ended_65 : decode cX12_ended 65 = .ok (.iload_n 1, 1) := by decide +kernel
theorem dX12_ended_66 : decode cX12_ended 66 = .ok (.iconst 3, 1) := by decide +kernel
theorem dX12_ended_67 : decode cX12_ended 67 = .ok (.if_icmp .ne 12, 3) := by decide +kernel
theorem dX12_ended_70 : decode cX12_ended 70 = .ok (.aload_n 0, 1) := by decide +kernel
theorem dX12_ended_71 : decode cX12_ended 71 = .ok (.getfield 48, 3) := by decide +kernel
theorem dX12_ended_74 : decode cX12_ended 74 = .ok (.iconst 0, 1) := by decide +kernel
theorem dX12_ended_75 : decode cX12_ended 75 = .ok (.iaload, 1) := by decide +kernel
theorem dX12_ended_76 : decode cX12_ended 76 = .ok (.goto 7, 3) := by decide +kernel
theorem dX12_ended_79 : decode cX12_ended 79 = .ok (.aload_n 0, 1) := by decide +kernel
theorem dX12_ended_80 : decode cX12_ended 80 = .ok (.getfield 51, 3) := by decide +kernel
theorem dX12_ended_83 : decode cX12_ended 83 = .ok (.ireturn, 1) := by decide +kernel
set_option maxRecDepth 20000 in
theorem ggX12_where_X12_in : GoodIn wsX12_where wsX12_in := goodIn_r _ [8] (by decide +kernel) (by decide +kernel)
set_option maxRecDepth 20000 in
theorem gX12_where_X12_in : GoodIn wsX12_where (va_wsS RX12 123 yX12_in wsX12_in) := goodIn_app (goodIn_of _ (by decide +kernel)) ggX12_where_X12_in
theorem dX12_where_0 : decode cX12_where 0 = .ok (.iload_n 1, 1) := by decide +kernel
theorem dX12_where_1 : decode cX12_where 1 = .ok (.iconst 0, 1) := by decide +kernel
theorem dX12_where_2 : decode cX12_where 2 = .ok (.bipush 100, 2) := by decide +kernel
theorem dX12_where_4 : decode cX12_where 4 = .ok (.invokestatic 123, 3) := by decide +kernel
theorem dX12_where_7 : decode cX12_where 7 = .ok (.ifCond .ne 5, 3) := by decide +kernel
theorem dX12_where_10 : decode cX12_where 10 = .ok (.iconst (-1), 1) := by decide +kernel
theorem dX12_where_11 : decode cX12_where 11 = .ok (.ireturn, 1) := by decide +kernel
theorem dX12_where_12 : decode cX12_where 12 = .ok (.aload_n 0, 1) := by decide +kernel
theorem dX12_where_13 : decode cX12_where 13 = .ok (.getfield 51, 3) := by decide +kernel
theorem dX12_where_16 : decode cX12_where 16 = .ok (.iconst (-1), 1) := by decide +kernel
theorem dX12_where_17 : decode cX12_where 17 = .ok (.if_icmp .eq 13, 3) := by decide +kernel
theorem dX12_where_20 : decode cX12_where 20 = .ok (.iload_n 1, 1) := by decide +kernel
theorem dX12_where_21 : decode cX12_where 21 = .ok (.aload_n 0, 1) := by decide +kernel
theorem dX12_where_22 : decode cX12_where 22 = .ok (.getfield 45, 3) := by decide +kernel
theorem dX12_where_25 : decode cX12_where 25 = .ok (.iconst 0, 1) := by decide +kernel
theorem dX12_where_26 : decode cX12_where 26 = .ok (.iaload, 1) := by decide +kernel
theorem dX12_where_27 : decode cX12_where 27 = .ok (.if_icmp .le 8, 3) := by decide +kernel
theorem dX12_where_30 : decode cX12_where 30 = .ok (.bipush (-3), 2) := by decide +kernel
theorem dX12_where_32 : decode cX12_where 32 = .ok (.goto 20, 3) := by decide +kernel
theorem dX12_where_35 : decode cX12_where 35 = .ok (.sipush 1000, 3) := by decide +kernel
theorem dX12_where_38 : decode cX12_where 38 = .ok (.aload_n 0, 1) := by decide +kernel
theorem dX12_where_39 : decode cX12_where 39 = .ok (.getfield 39, 3) := by decide +kernel
theorem dX12_where_42 : decode cX12_where 42 = .ok (.iload_n 1, 1) := by decide +kernel
theorem dX12_where_43 : decode cX12_where 43 = .ok (.iaload, 1) := by decide +kernel
theorem dX12_where_44 : decode cX12_where 44 = .ok (.imul, 1) := by decide +kernel
theorem dX12_where_45 : decode cX12_where 45 = .ok (.aload_n 0, 1) := by decide +kernel
theorem dX12_where_46 : decode cX12_where 46 = .ok (.getfield 42, 3) := by decide +kernel
theorem dX12_where_49 : decode cX12_where 49 = .ok (.iload_n 1, 1) := by decide +kernel
theorem dX12_where_50 : decode cX12_where 50 = .ok (.iaload, 1) := by decide +kernel
theorem dX12_where_51 : decode cX12_where 51 = .ok (.iadd, 1) := by decide +kernel
theorem dX12_where_52 : decode cX12_where 52 = .ok (.ireturn, 1) := by decide +kernel
set_option maxRecDepth 20000 in
theorem ggX12_best_X12_isSwimmer : GoodIn wsX12_best wsX12_isSwimmer := goodIn_r _ [6, 7, 8, 9, 5, 10, 57, 58, 59, 60, 61, 62, 63, 64, 65, 66, 67, 68, 69, 70, 71, 72, 73, 74, 75, 76, 77, 78, 79, 80, 81, 82, 83, 84, 85, 86, 87, 88, 89, 90, 91, 92, 93, 94, 95, 96, 97, 98] (by decide +kernel) (by decide +kernel)
set_option maxRecDepth 20000 in
theorem gX12_best_X12_isSwimmer : GoodIn wsX12_best (wsV RX12 141 RX12 yX12_isSwimmer wsX12_isSwimmer) := goodIn_app (goodIn_of _ (by decide +kernel)) ggX12_best_X12_isSwimmer
set_option maxRecDepth 20000 in
theorem ggX12_best_X12_isPlace : GoodIn wsX12_best wsX12_isPlace := goodIn_r _ [13, 8, 9, 5, 10] (by decide +kernel) (by decide +kernel)
set_option maxRecDepth 20000 in
theorem gX12_best_X12_isPlace : GoodIn wsX12_best (va_wsS RX12 127 yX12_isPlace wsX12_isPlace) := goodIn_app (goodIn_of _ (by decide +kernel)) ggX12_best_X12_isPlace
set_option maxRecDepth 20000 in
theorem ggX12_best_X12_isDry : GoodIn wsX12_best wsX12_isDry := goodIn_r _ [17, 18, 57, 58, 59, 60, 61, 62, 63, 64, 65, 66, 67, 68, 69, 70, 71, 72, 73, 74, 75, 76, 77, 78, 79, 80, 81, 82, 83, 84, 85, 86, 87, 88, 89, 90, 91, 92, 93, 94, 95, 96, 97, 98] (by decide +kernel) (by decide +kernel)
set_option maxRecDepth 20000 in
theorem gX12_best_X12_isDry : GoodIn wsX12_best (wsV RX12 131 RX12 yX12_isDry wsX12_isDry) := goodIn_app (goodIn_of _ (by decide +kernel)) ggX12_best_X12_isDry
set_option maxRecDepth 20000 in
theorem ggX12_best_X12_step : GoodIn wsX12_best wsX12_step := goodIn_r _ [22, 23, 24, 25, 1, 26, 27, 28, 29, 30, 31, 5, 32, 33, 34, 35, 36, 37, 38, 39, 40, 41, 42, 43, 44, 45, 46, 47, 48, 49, 50, 51, 8, 9, 10, 11, 12, 13, 52, 53, 54, 55, 56, 14, 15, 16, 17, 18, 57, 58, 59, 60, 61, 62, 63, 64, 65, 66, 67, 68, 69, 70, 71, 72, 73, 74, 75, 76, 77, 78, 79, 80, 81, 82, 83, 84, 85, 86, 87, 88, 89, 90, 91, 92, 93, 94, 95, 96, 97, 98] (by decide +kernel) (by decide +kernel)
set_option maxRecDepth 20000 in
theorem gX12_best_X12_step : GoodIn wsX12_best (wsV RX12 164 RX12 yX12_step wsX12_step) := goodIn_app (goodIn_of _ (by decide +kernel)) ggX12_best_X12_step
theorem dX12_best_0 : decode cX12_best 0 = .ok (.aload_n 0, 1) := by decide +kernel
theorem dX12_best_1 : decode cX12_best 1 = .ok (.iload_n 1, 1) := by decide +kernel
theorem dX12_best_2 : decode cX12_best 2 = .ok (.invokevirtual 141, 3) := by decide +kernel
theorem dX12_best_5 : decode cX12_best 5 = .ok (.ifCond .eq 11, 3) := by decide +kernel
theorem dX12_best_8 : decode cX12_best 8 = .ok (.iload_n 2, 1) := by decide +kernel
theorem dX12_best_9 : decode cX12_best 9 = .ok (.iload_n 3, 1) := by decide +kernel
theorem dX12_best_10 : decode cX12_best 10 = .ok (.invokestatic 127, 3) := by decide +kernel
theorem dX12_best_13 : decode cX12_best 13 = .ok (.ifCond .ne 5, 3) := by decide +kernel
theorem dX12_best_16 : decode cX12_best 16 = .ok (.iconst (-1), 1) := by decide +kernel
theorem dX12_best_17 : decode cX12_best 17 = .ok (.ireturn, 1) := by decide +kernel
theorem dX12_best_18 : decode cX12_best 18 = .ok (.aload_n 0, 1) := by decide +kernel
theorem dX12_best_19 : decode cX12_best 19 = .ok (.iload_n 2, 1) := by decide +kernel
theorem dX12_best_20 : decode cX12_best 20 = .ok (.iload_n 3, 1) := by decide +kernel
theorem dX12_best_21 : decode cX12_best 21 = .ok (.invokevirtual 131, 3) := by decide +kernel
theorem dX12_best_24 : decode cX12_best 24 = .ok (.ifCond .eq 6, 3) := by decide +kernel
theorem dX12_best_27 : decode cX12_best 27 = .ok (.bipush (-4), 2) := by decide +kernel
theorem dX12_best_29 : decode cX12_best 29 = .ok (.ireturn, 1) := by decide +kernel
theorem dX12_best_30 : decode cX12_best 30 = .ok (.bipush (-4), 2) := by decide +kernel
theorem dX12_best_32 : decode cX12_best 32 = .ok (.istore 4, 2) := by decide +kernel
theorem dX12_best_34 : decode cX12_best 34 = .ok (.iconst 0, 1) := by decide +kernel
theorem dX12_best_35 : decode cX12_best 35 = .ok (.istore 5, 2) := by decide +kernel
theorem dX12_best_37 : decode cX12_best 37 = .ok (.iconst 0, 1) := by decide +kernel
theorem dX12_best_38 : decode cX12_best 38 = .ok (.istore 6, 2) := by decide +kernel
theorem dX12_best_40 : decode cX12_best 40 = .ok (.iload 6, 2) := by decide +kernel
theorem dX12_best_42 : decode cX12_best 42 = .ok (.bipush 48, 2) := by decide +kernel
theorem dX12_best_44 : decode cX12_best 44 = .ok (.if_icmp .ge 79, 3) := by decide +kernel
theorem dX12_best_47 : decode cX12_best 47 = .ok (.iconst 0, 1) := by decide +kernel
theorem dX12_best_48 : decode cX12_best 48 = .ok (.istore 7, 2) := by decide +kernel
theorem dX12_best_50 : decode cX12_best 50 = .ok (.iload 7, 2) := by decide +kernel
theorem dX12_best_52 : decode cX12_best 52 = .ok (.bipush 8, 2) := by decide +kernel
theorem dX12_best_54 : decode cX12_best 54 = .ok (.if_icmp .ge 63, 3) := by decide +kernel
theorem dX12_best_57 : decode cX12_best 57 = .ok (.aload_n 0, 1) := by decide +kernel
theorem dX12_best_58 : decode cX12_best 58 = .ok (.iconst 1, 1) := by decide +kernel
theorem dX12_best_59 : decode cX12_best 59 = .ok (.iload_n 1, 1) := by decide +kernel
theorem dX12_best_60 : decode cX12_best 60 = .ok (.iload_n 2, 1) := by decide +kernel
theorem dX12_best_61 : decode cX12_best 61 = .ok (.iload_n 3, 1) := by decide +kernel
theorem dX12_best_62 : decode cX12_best 62 = .ok (.iload 6, 2) := by decide +kernel
theorem dX12_best_64 : decode cX12_best 64 = .ok (.iload 7, 2) := by decide +kernel
theorem dX12_best_66 : decode cX12_best 66 = .ok (.invokevirtual 164, 3) := by decide +kernel
theorem dX12_best_69 : decode cX12_best 69 = .ok (.ifCond .ne 42, 3) := by decide +kernel
theorem dX12_best_72 : decode cX12_best 72 = .ok (.iload 4, 2) := by decide +kernel
theorem dX12_best_74 : decode cX12_best 74 = .ok (.bipush (-4), 2) := by decide +kernel
theorem dX12_best_76 : decode cX12_best 76 = .ok (.if_icmp .eq 17, 3) := by decide +kernel
theorem dX12_best_79 : decode cX12_best 79 = .ok (.aload_n 0, 1) := by decide +kernel
theorem dX12_best_80 : decode cX12_best 80 = .ok (.getfield 45, 3) := by decide +kernel
theorem dX12_best_83 : decode cX12_best 83 = .ok (.iconst 1, 1) := by decide +kernel
theorem dX12_best_84 : decode cX12_best 84 = .ok (.iaload, 1) := by decide +kernel
theorem dX12_best_85 : decode cX12_best 85 = .ok (.iload 5, 2) := by decide +kernel
theorem dX12_best_87 : decode cX12_best 87 = .ok (.if_icmp .lt 6, 3) := by decide +kernel
theorem dX12_best_90 : decode cX12_best 90 = .ok (.goto 21, 3) := by decide +kernel
theorem dX12_best_93 : decode cX12_best 93 = .ok (.bipush 10, 2) := by decide +kernel
theorem dX12_best_95 : decode cX12_best 95 = .ok (.iload 6, 2) := by decide +kernel
theorem dX12_best_97 : decode cX12_best 97 = .ok (.imul, 1) := by decide +kernel
theorem dX12_best_98 : decode cX12_best 98 = .ok (.iload 7, 2) := by decide +kernel
theorem dX12_best_100 : decode cX12_best 100 = .ok (.iadd, 1) := by decide +kernel
theorem dX12_best_101 : decode cX12_best 101 = .ok (.istore 4, 2) := by decide +kernel
theorem dX12_best_103 : decode cX12_best 103 = .ok (.aload_n 0, 1) := by decide +kernel
theorem dX12_best_104 : decode cX12_best 104 = .ok (.getfield 45, 3) := by decide +kernel
theorem dX12_best_107 : decode cX12_best 107 = .ok (.iconst 1, 1) := by decide +kernel
theorem dX12_best_108 : decode cX12_best 108 = .ok (.iaload, 1) := by decide +kernel
theorem dX12_best_109 : decode cX12_best 109 = .ok (.istore 5, 2) := by decide +kernel
theorem dX12_best_111 : decode cX12_best 111 = .ok (.iinc 7 1, 3) := by decide +kernel
theorem dX12_best_114 : decode cX12_best 114 = .ok (.goto (-64), 3) := by decide +kernel
theorem dX12_best_117 : decode cX12_best 117 = .ok (.iinc 6 1, 3) := by decide +kernel
theorem dX12_best_120 : decode cX12_best 120 = .ok (.goto (-80), 3) := by decide +kernel
theorem dX12_best_123 : decode cX12_best 123 = .ok (.iload 4, 2) := by decide +kernel
theorem dX12_best_125 : decode cX12_best 125 = .ok (.ireturn, 1) := by decide +kernel
set_option maxRecDepth 20000 in
theorem ggX12_ends_X12_isSwimmer : GoodIn wsX12_ends wsX12_isSwimmer := goodIn_r _ [5, 6, 7, 8, 4, 9, 57, 58, 59, 60, 61, 62, 63, 64, 65, 66, 67, 68, 69, 70, 71, 72, 73, 74, 75, 76, 77, 78, 79, 80, 81, 82, 83, 84, 85, 86, 87, 88, 89, 90, 91, 92, 93, 94, 95, 96, 97, 98] (by decide +kernel) (by decide +kernel)
set_option maxRecDepth 20000 in
theorem gX12_ends_X12_isSwimmer : GoodIn wsX12_ends (wsV RX12 141 RX12 yX12_isSwimmer wsX12_isSwimmer) := goodIn_app (goodIn_of _ (by decide +kernel)) ggX12_ends_X12_isSwimmer
set_option maxRecDepth 20000 in
theorem ggX12_ends_X12_isPlace : GoodIn wsX12_ends wsX12_isPlace := goodIn_r _ [12, 7, 8, 4, 9] (by decide +kernel) (by decide +kernel)
set_option maxRecDepth 20000 in
theorem gX12_ends_X12_isPlace : GoodIn wsX12_ends (va_wsS RX12 127 yX12_isPlace wsX12_isPlace) := goodIn_app (goodIn_of _ (by decide +kernel)) ggX12_ends_X12_isPlace
set_option maxRecDepth 20000 in
theorem ggX12_ends_X12_in : GoodIn wsX12_ends wsX12_in := goodIn_r _ [9] (by decide +kernel) (by decide +kernel)
set_option maxRecDepth 20000 in
theorem gX12_ends_X12_in : GoodIn wsX12_ends (va_wsS RX12 123 yX12_in wsX12_in) := goodIn_app (goodIn_of _ (by decide +kernel)) ggX12_ends_X12_in
set_option maxRecDepth 20000 in
theorem ggX12_ends_X12_isDry : GoodIn wsX12_ends wsX12_isDry := goodIn_r _ [16, 17, 57, 58, 59, 60, 61, 62, 63, 64, 65, 66, 67, 68, 69, 70, 71, 72, 73, 74, 75, 76, 77, 78, 79, 80, 81, 82, 83, 84, 85, 86, 87, 88, 89, 90, 91, 92, 93, 94, 95, 96, 97, 98] (by decide +kernel) (by decide +kernel)
set_option maxRecDepth 20000 in
theorem gX12_ends_X12_isDry : GoodIn wsX12_ends (wsV RX12 131 RX12 yX12_isDry wsX12_isDry) := goodIn_app (goodIn_of _ (by decide +kernel)) ggX12_ends_X12_isDry
set_option maxRecDepth 20000 in
theorem ggX12_ends_X12_step : GoodIn wsX12_ends wsX12_step := goodIn_r _ [21, 22, 23, 24, 25, 26, 27, 28, 29, 30, 31, 4, 32, 33, 34, 35, 36, 37, 38, 39, 40, 41, 42, 43, 44, 45, 46, 47, 48, 49, 50, 51, 7, 8, 9, 10, 11, 12, 52, 53, 54, 55, 56, 13, 14, 15, 16, 17, 57, 58, 59, 60, 61, 62, 63, 64, 65, 66, 67, 68, 69, 70, 71, 72, 73, 74, 75, 76, 77, 78, 79, 80, 81, 82, 83, 84, 85, 86, 87, 88, 89, 90, 91, 92, 93, 94, 95, 96, 97, 98] (by decide +kernel) (by decide +kernel)
set_option maxRecDepth 20000 in
theorem gX12_ends_X12_step : GoodIn wsX12_ends (wsV RX12 164 RX12 yX12_step wsX12_step) := goodIn_app (goodIn_of _ (by decide +kernel)) ggX12_ends_X12_step
theorem dX12_ends_0 : decode cX12_ends 0 = .ok (.aload_n 0, 1) := by decide +kernel
theorem dX12_ends_1 : decode cX12_ends 1 = .ok (.iload_n 1, 1) := by decide +kernel
theorem dX12_ends_2 : decode cX12_ends 2 = .ok (.invokevirtual 141, 3) := by decide +kernel
theorem dX12_ends_5 : decode cX12_ends 5 = .ok (.ifCond .eq 21, 3) := by decide +kernel
theorem dX12_ends_8 : decode cX12_ends 8 = .ok (.iload_n 2, 1) := by decide +kernel
theorem dX12_ends_9 : decode cX12_ends 9 = .ok (.iload_n 3, 1) := by decide +kernel
theorem dX12_ends_10 : decode cX12_ends 10 = .ok (.invokestatic 127, 3) := by decide +kernel
theorem dX12_ends_13 : decode cX12_ends 13 = .ok (.ifCond .eq 13, 3) := by decide +kernel
theorem dX12_ends_16 : decode cX12_ends 16 = .ok (.iload 4, 2) := by decide +kernel
theorem dX12_ends_18 : decode cX12_ends 18 = .ok (.iconst 0, 1) := by decide +kernel
theorem dX12_ends_19 : decode cX12_ends 19 = .ok (.iconst 3, 1) := by decide +kernel
theorem dX12_ends_20 : decode cX12_ends 20 = .ok (.invokestatic 123, 3) := by decide +kernel
theorem dX12_ends_23 : decode cX12_ends 23 = .ok (.ifCond .ne 5, 3) := by decide +kernel
theorem dX12_ends_26 : decode cX12_ends 26 = .ok (.iconst (-1), 1) := by decide +kernel
theorem dX12_ends_27 : decode cX12_ends 27 = .ok (.ireturn, 1) := by decide +kernel
theorem dX12_ends_28 : decode cX12_ends 28 = .ok (.aload_n 0, 1) := by decide +kernel
theorem dX12_ends_29 : decode cX12_ends 29 = .ok (.iload_n 2, 1) := by decide +kernel
theorem dX12_ends_30 : decode cX12_ends 30 = .ok (.iload_n 3, 1) := by decide +kernel
theorem dX12_ends_31 : decode cX12_ends 31 = .ok (.invokevirtual 131, 3) := by decide +kernel
theorem dX12_ends_34 : decode cX12_ends 34 = .ok (.ifCond .eq 6, 3) := by decide +kernel
theorem dX12_ends_37 : decode cX12_ends 37 = .ok (.bipush (-4), 2) := by decide +kernel
theorem dX12_ends_39 : decode cX12_ends 39 = .ok (.ireturn, 1) := by decide +kernel
theorem dX12_ends_40 : decode cX12_ends 40 = .ok (.iconst 0, 1) := by decide +kernel
theorem dX12_ends_41 : decode cX12_ends 41 = .ok (.istore 5, 2) := by decide +kernel
theorem dX12_ends_43 : decode cX12_ends 43 = .ok (.iconst 0, 1) := by decide +kernel
theorem dX12_ends_44 : decode cX12_ends 44 = .ok (.istore 6, 2) := by decide +kernel
theorem dX12_ends_46 : decode cX12_ends 46 = .ok (.iload 6, 2) := by decide +kernel
theorem dX12_ends_48 : decode cX12_ends 48 = .ok (.bipush 48, 2) := by decide +kernel
theorem dX12_ends_50 : decode cX12_ends 50 = .ok (.if_icmp .ge 52, 3) := by decide +kernel
theorem dX12_ends_53 : decode cX12_ends 53 = .ok (.iconst 0, 1) := by decide +kernel
theorem dX12_ends_54 : decode cX12_ends 54 = .ok (.istore 7, 2) := by decide +kernel
theorem dX12_ends_56 : decode cX12_ends 56 = .ok (.iload 7, 2) := by decide +kernel
theorem dX12_ends_58 : decode cX12_ends 58 = .ok (.bipush 8, 2) := by decide +kernel
theorem dX12_ends_60 : decode cX12_ends 60 = .ok (.if_icmp .ge 36, 3) := by decide +kernel
theorem dX12_ends_63 : decode cX12_ends 63 = .ok (.iload 5, 2) := by decide +kernel
theorem dX12_ends_65 : decode cX12_ends 65 = .ok (.aload_n 0, 1) := by decide +kernel
theorem dX12_ends_66 : decode cX12_ends 66 = .ok (.iconst 1, 1) := by decide +kernel
theorem dX12_ends_67 : decode cX12_ends 67 = .ok (.iload_n 1, 1) := by decide +kernel
theorem dX12_ends_68 : decode cX12_ends 68 = .ok (.iload_n 2, 1) := by decide +kernel
theorem dX12_ends_69 : decode cX12_ends 69 = .ok (.iload_n 3, 1) := by decide +kernel
theorem dX12_ends_70 : decode cX12_ends 70 = .ok (.iload 6, 2) := by decide +kernel
theorem dX12_ends_72 : decode cX12_ends 72 = .ok (.iload 7, 2) := by decide +kernel
theorem dX12_ends_74 : decode cX12_ends 74 = .ok (.invokevirtual 164, 3) := by decide +kernel
theorem dX12_ends_77 : decode cX12_ends 77 = .ok (.iload 4, 2) := by decide +kernel
theorem dX12_ends_79 : decode cX12_ends 79 = .ok (.if_icmp .ne 7, 3) := by decide +kernel
theorem dX12_ends_82 : decode cX12_ends 82 = .ok (.iconst 1, 1) := by decide +kernel
theorem dX12_ends_83 : decode cX12_ends 83 = .ok (.goto 4, 3) := by decide +kernel
theorem dX12_ends_86 : decode cX12_ends 86 = .ok (.iconst 0, 1) := by decide +kernel
theorem dX12_ends_87 : decode cX12_ends 87 = .ok (.iadd, 1) := by decide +kernel
theorem dX12_ends_88 : decode cX12_ends 88 = .ok (.istore 5, 2) := by decide +kernel
theorem dX12_ends_90 : decode cX12_ends 90 = .ok (.iinc 7 1, 3) := by decide +kernel
theorem dX12_ends_93 : decode cX12_ends 93 = .ok (.goto (-37), 3) := by decide +kernel
theorem dX12_ends_96 : decode cX12_ends 96 = .ok (.iinc 6 1, 3) := by decide +kernel
theorem dX12_ends_99 : decode cX12_ends 99 = .ok (.goto (-53), 3) := by decide +kernel
theorem dX12_ends_102 : decode cX12_ends 102 = .ok (.iload 5, 2) := by decide +kernel
theorem dX12_ends_104 : decode cX12_ends 104 = .ok (.ireturn, 1) := by decide +kernel
set_option maxRecDepth 20000 in
theorem ggX12_ship_X12_isPlace : GoodIn wsX12_ship wsX12_isPlace := goodIn_r _ [9, 10, 11, 8, 12] (by decide +kernel) (by decide +kernel)
set_option maxRecDepth 20000 in
theorem gX12_ship_X12_isPlace : GoodIn wsX12_ship (va_wsS RX12 127 yX12_isPlace wsX12_isPlace) := goodIn_app (goodIn_of _ (by decide +kernel)) ggX12_ship_X12_isPlace
set_option maxRecDepth 20000 in
theorem ggX12_ship_X12_in : GoodIn wsX12_ship wsX12_in := goodIn_r _ [12] (by decide +kernel) (by decide +kernel)
set_option maxRecDepth 20000 in
theorem gX12_ship_X12_in : GoodIn wsX12_ship (va_wsS RX12 123 yX12_in wsX12_in) := goodIn_app (goodIn_of _ (by decide +kernel)) ggX12_ship_X12_in
theorem dX12_ship_0 : decode cX12_ship 0 = .ok (.iload_n 1, 1) := by decide +kernel
theorem dX12_ship_1 : decode cX12_ship 1 = .ok (.iload_n 2, 1) := by decide +kernel
theorem dX12_ship_2 : decode cX12_ship 2 = .ok (.invokestatic 127, 3) := by decide +kernel
theorem dX12_ship_5 : decode cX12_ship 5 = .ok (.ifCond .eq 26, 3) := by decide +kernel
theorem dX12_ship_8 : decode cX12_ship 8 = .ok (.iload_n 3, 1) := by decide +kernel
theorem dX12_ship_9 : decode cX12_ship 9 = .ok (.bipush (-20), 2) := by decide +kernel
theorem dX12_ship_11 : decode cX12_ship 11 = .ok (.bipush 20, 2) := by decide +kernel
theorem dX12_ship_13 : decode cX12_ship 13 = .ok (.invokestatic 123, 3) := by decide +kernel
theorem dX12_ship_16 : decode cX12_ship 16 = .ok (.ifCond .eq 15, 3) := by decide +kernel
theorem dX12_ship_19 : decode cX12_ship 19 = .ok (.iload 4, 2) := by decide +kernel
theorem dX12_ship_21 : decode cX12_ship 21 = .ok (.bipush (-20), 2) := by decide +kernel
theorem dX12_ship_23 : decode cX12_ship 23 = .ok (.bipush 20, 2) := by decide +kernel
theorem dX12_ship_25 : decode cX12_ship 25 = .ok (.invokestatic 123, 3) := by decide +kernel
theorem dX12_ship_28 : decode cX12_ship 28 = .ok (.ifCond .ne 5, 3) := by decide +kernel
theorem dX12_ship_31 : decode cX12_ship 31 = .ok (.iconst (-1), 1) := by decide +kernel
theorem dX12_ship_32 : decode cX12_ship 32 = .ok (.ireturn, 1) := by decide +kernel
theorem dX12_ship_33 : decode cX12_ship 33 = .ok (.aload_n 0, 1) := by decide +kernel
theorem dX12_ship_34 : decode cX12_ship 34 = .ok (.getfield 168, 3) := by decide +kernel
theorem dX12_ship_37 : decode cX12_ship 37 = .ok (.bipush 8, 2) := by decide +kernel
theorem dX12_ship_39 : decode cX12_ship 39 = .ok (.if_icmp .ne 6, 3) := by decide +kernel
theorem dX12_ship_42 : decode cX12_ship 42 = .ok (.bipush (-2), 2) := by decide +kernel
theorem dX12_ship_44 : decode cX12_ship 44 = .ok (.ireturn, 1) := by decide +kernel
theorem dX12_ship_45 : decode cX12_ship 45 = .ok (.aload_n 0, 1) := by decide +kernel
theorem dX12_ship_46 : decode cX12_ship 46 = .ok (.getfield 54, 3) := by decide +kernel
theorem dX12_ship_49 : decode cX12_ship 49 = .ok (.aload_n 0, 1) := by decide +kernel
theorem dX12_ship_50 : decode cX12_ship 50 = .ok (.getfield 168, 3) := by decide +kernel
theorem dX12_ship_53 : decode cX12_ship 53 = .ok (.iload_n 1, 1) := by decide +kernel
theorem dX12_ship_54 : decode cX12_ship 54 = .ok (.iastore, 1) := by decide +kernel
theorem dX12_ship_55 : decode cX12_ship 55 = .ok (.aload_n 0, 1) := by decide +kernel
theorem dX12_ship_56 : decode cX12_ship 56 = .ok (.getfield 57, 3) := by decide +kernel
theorem dX12_ship_59 : decode cX12_ship 59 = .ok (.aload_n 0, 1) := by decide +kernel
theorem dX12_ship_60 : decode cX12_ship 60 = .ok (.getfield 168, 3) := by decide +kernel
theorem dX12_ship_63 : decode cX12_ship 63 = .ok (.iload_n 2, 1) := by decide +kernel
theorem dX12_ship_64 : decode cX12_ship 64 = .ok (.iastore, 1) := by decide +kernel
theorem dX12_ship_65 : decode cX12_ship 65 = .ok (.aload_n 0, 1) := by decide +kernel
theorem dX12_ship_66 : decode cX12_ship 66 = .ok (.getfield 60, 3) := by decide +kernel
theorem dX12_ship_69 : decode cX12_ship 69 = .ok (.aload_n 0, 1) := by decide +kernel
theorem dX12_ship_70 : decode cX12_ship 70 = .ok (.getfield 168, 3) := by decide +kernel
theorem dX12_ship_73 : decode cX12_ship 73 = .ok (.iload_n 3, 1) := by decide +kernel
theorem dX12_ship_74 : decode cX12_ship 74 = .ok (.iastore, 1) := by decide +kernel
theorem dX12_ship_75 : decode cX12_ship 75 = .ok (.aload_n 0, 1) := by decide +kernel
theorem dX12_ship_76 : decode cX12_ship 76 = .ok (.getfield 63, 3) := by decide +kernel
theorem dX12_ship_79 : decode cX12_ship 79 = .ok (.aload_n 0, 1) := by decide +kernel
theorem dX12_ship_80 : decode cX12_ship 80 = .ok (.getfield 168, 3) := by decide +kernel
theorem dX12_ship_83 : decode cX12_ship 83 = .ok (.iload 4, 2) := by decide +kernel
theorem dX12_ship_85 : decode cX12_ship 85 = .ok (.iastore, 1) := by decide +kernel
theorem dX12_ship_86 : decode cX12_ship 86 = .ok (.aload_n 0, 1) := by decide +kernel
theorem dX12_ship_87 : decode cX12_ship 87 = .ok (.dup, 1) := by decide +kernel
theorem dX12_ship_88 : decode cX12_ship 88 = .ok (.getfield 168, 3) := by decide +kernel
theorem dX12_ship_91 : decode cX12_ship 91 = .ok (.iconst 1, 1) := by decide +kernel
theorem dX12_ship_92 : decode cX12_ship 92 = .ok (.iadd, 1) := by decide +kernel
theorem dX12_ship_93 : decode cX12_ship 93 = .ok (.putfield 168, 3) := by decide +kernel
theorem dX12_ship_96 : decode cX12_ship 96 = .ok (.aload_n 0, 1) := by decide +kernel
theorem dX12_ship_97 : decode cX12_ship 97 = .ok (.getfield 168, 3) := by decide +kernel
theorem dX12_ship_100 : decode cX12_ship 100 = .ok (.iconst 1, 1) := by decide +kernel
theorem dX12_ship_101 : decode cX12_ship 101 = .ok (.isub, 1) := by decide +kernel
theorem dX12_ship_102 : decode cX12_ship 102 = .ok (.ireturn, 1) := by decide +kernel
theorem dX12_apart_0 : decode cX12_apart 0 = .ok (.iload_n 0, 1) := by decide +kernel
theorem dX12_apart_1 : decode cX12_apart 1 = .ok (.iload_n 1, 1) := by decide +kernel
theorem dX12_apart_2 : decode cX12_apart 2 = .ok (.if_icmp .le 9, 3) := by decide +kernel
theorem dX12_apart_5 : decode cX12_apart 5 = .ok (.iload_n 0, 1) := by decide +kernel
theorem dX12_apart_6 : decode cX12_apart 6 = .ok (.iload_n 1, 1) := by decide +kernel
theorem dX12_apart_7 : decode cX12_apart 7 = .ok (.isub, 1) := by decide +kernel
theorem dX12_apart_8 : decode cX12_apart 8 = .ok (.goto 6, 3) := by decide +kernel
theorem dX12_apart_11 : decode cX12_apart 11 = .ok (.iload_n 1, 1) := by decide +kernel
theorem dX12_apart_12 : decode cX12_apart 12 = .ok (.iload_n 0, 1) := by decide +kernel
theorem dX12_apart_13 : decode cX12_apart 13 = .ok (.isub, 1) := by decide +kernel
theorem dX12_apart_14 : decode cX12_apart 14 = .ok (.ireturn, 1) := by decide +kernel
set_option maxRecDepth 20000 in
theorem ggX12_nearFirst_X12_apart : GoodIn wsX12_nearFirst wsX12_apart := goodIn_r _ [12] (by decide +kernel) (by decide +kernel)
set_option maxRecDepth 20000 in
theorem gX12_nearFirst_X12_apart : GoodIn wsX12_nearFirst (va_wsS RX12 171 yX12_apart wsX12_apart) := goodIn_app (goodIn_of _ (by decide +kernel)) ggX12_nearFirst_X12_apart
theorem dX12_nearFirst_0 : decode cX12_nearFirst 0 = .ok (.iconst 0, 1) := by decide +kernel
theorem dX12_nearFirst_1 : decode cX12_nearFirst 1 = .ok (.istore_n 2, 1) := by decide +kernel
theorem dX12_nearFirst_2 : decode cX12_nearFirst 2 = .ok (.iload_n 2, 1) := by decide +kernel
theorem dX12_nearFirst_3 : decode cX12_nearFirst 3 = .ok (.aload_n 0, 1) := by decide +kernel
theorem dX12_nearFirst_4 : decode cX12_nearFirst 4 = .ok (.getfield 45, 3) := by decide +kernel
theorem dX12_nearFirst_7 : decode cX12_nearFirst 7 = .ok (.iconst 0, 1) := by decide +kernel
theorem dX12_nearFirst_8 : decode cX12_nearFirst 8 = .ok (.iaload, 1) := by decide +kernel
theorem dX12_nearFirst_9 : decode cX12_nearFirst 9 = .ok (.if_icmp .ge 87, 3) := by decide +kernel
theorem dX12_nearFirst_12 : decode cX12_nearFirst 12 = .ok (.aload_n 0, 1) := by decide +kernel
theorem dX12_nearFirst_13 : decode cX12_nearFirst 13 = .ok (.getfield 54, 3) := by decide +kernel
theorem dX12_nearFirst_16 : decode cX12_nearFirst 16 = .ok (.iload_n 1, 1) := by decide +kernel
theorem dX12_nearFirst_17 : decode cX12_nearFirst 17 = .ok (.iaload, 1) := by decide +kernel
theorem dX12_nearFirst_18 : decode cX12_nearFirst 18 = .ok (.iload_n 2, 1) := by decide +kernel
theorem dX12_nearFirst_19 : decode cX12_nearFirst 19 = .ok (.iconst 1, 1) := by decide +kernel
theorem dX12_nearFirst_20 : decode cX12_nearFirst 20 = .ok (.iadd, 1) := by decide +kernel
theorem dX12_nearFirst_21 : decode cX12_nearFirst 21 = .ok (.aload_n 0, 1) := by decide +kernel
theorem dX12_nearFirst_22 : decode cX12_nearFirst 22 = .ok (.getfield 60, 3) := by decide +kernel
theorem dX12_nearFirst_25 : decode cX12_nearFirst 25 = .ok (.iload_n 1, 1) := by decide +kernel
theorem dX12_nearFirst_26 : decode cX12_nearFirst 26 = .ok (.iaload, 1) := by decide +kernel
theorem dX12_nearFirst_27 : decode cX12_nearFirst 27 = .ok (.imul, 1) := by decide +kernel
theorem dX12_nearFirst_28 : decode cX12_nearFirst 28 = .ok (.iadd, 1) := by decide +kernel
theorem dX12_nearFirst_29 : decode cX12_nearFirst 29 = .ok (.istore_n 3, 1) := by decide +kernel
theorem dX12_nearFirst_30 : decode cX12_nearFirst 30 = .ok (.aload_n 0, 1) := by decide +kernel
theorem dX12_nearFirst_31 : decode cX12_nearFirst 31 = .ok (.getfield 57, 3) := by decide +kernel
theorem dX12_nearFirst_34 : decode cX12_nearFirst 34 = .ok (.iload_n 1, 1) := by decide +kernel
theorem dX12_nearFirst_35 : decode cX12_nearFirst 35 = .ok (.iaload, 1) := by decide +kernel
theorem dX12_nearFirst_36 : decode cX12_nearFirst 36 = .ok (.iload_n 2, 1) := by decide +kernel
theorem dX12_nearFirst_37 : decode cX12_nearFirst 37 = .ok (.iconst 1, 1) := by decide +kernel
theorem dX12_nearFirst_38 : decode cX12_nearFirst 38 = .ok (.iadd, 1) := by decide +kernel
theorem dX12_nearFirst_39 : decode cX12_nearFirst 39 = .ok (.aload_n 0, 1) := by decide +kernel
theorem dX12_nearFirst_40 : decode cX12_nearFirst 40 = .ok (.getfield 63, 3) := by decide +kernel
theorem dX12_nearFirst_43 : decode cX12_nearFirst 43 = .ok (.iload_n 1, 1) := by decide +kernel
theorem dX12_nearFirst_44 : decode cX12_nearFirst 44 = .ok (.iaload, 1) := by decide +kernel
theorem dX12_nearFirst_45 : decode cX12_nearFirst 45 = .ok (.imul, 1) := by decide +kernel
theorem dX12_nearFirst_46 : decode cX12_nearFirst 46 = .ok (.iadd, 1) := by decide +kernel
theorem dX12_nearFirst_47 : decode cX12_nearFirst 47 = .ok (.istore 4, 2) := by decide +kernel
theorem dX12_nearFirst_49 : decode cX12_nearFirst 49 = .ok (.iload_n 3, 1) := by decide +kernel
theorem dX12_nearFirst_50 : decode cX12_nearFirst 50 = .ok (.aload_n 0, 1) := by decide +kernel
theorem dX12_nearFirst_51 : decode cX12_nearFirst 51 = .ok (.getfield 39, 3) := by decide +kernel
theorem dX12_nearFirst_54 : decode cX12_nearFirst 54 = .ok (.iload_n 2, 1) := by decide +kernel
theorem dX12_nearFirst_55 : decode cX12_nearFirst 55 = .ok (.iconst 1, 1) := by decide +kernel
theorem dX12_nearFirst_56 : decode cX12_nearFirst 56 = .ok (.iadd, 1) := by decide +kernel
theorem dX12_nearFirst_57 : decode cX12_nearFirst 57 = .ok (.iaload, 1) := by decide +kernel
theorem dX12_nearFirst_58 : decode cX12_nearFirst 58 = .ok (.invokestatic 171, 3) := by decide +kernel
theorem dX12_nearFirst_61 : decode cX12_nearFirst 61 = .ok (.aload_n 0, 1) := by decide +kernel
theorem dX12_nearFirst_62 : decode cX12_nearFirst 62 = .ok (.getfield 24, 3) := by decide +kernel
theorem dX12_nearFirst_65 : decode cX12_nearFirst 65 = .ok (.if_icmp .ge 25, 3) := by decide +kernel
theorem dX12_nearFirst_68 : decode cX12_nearFirst 68 = .ok (.iload 4, 2) := by decide +kernel
theorem dX12_nearFirst_70 : decode cX12_nearFirst 70 = .ok (.aload_n 0, 1) := by decide +kernel
theorem dX12_nearFirst_71 : decode cX12_nearFirst 71 = .ok (.getfield 42, 3) := by decide +kernel
theorem dX12_nearFirst_74 : decode cX12_nearFirst 74 = .ok (.iload_n 2, 1) := by decide +kernel
theorem dX12_nearFirst_75 : decode cX12_nearFirst 75 = .ok (.iconst 1, 1) := by decide +kernel
theorem dX12_nearFirst_76 : decode cX12_nearFirst 76 = .ok (.iadd, 1) := by decide +kernel
theorem dX12_nearFirst_77 : decode cX12_nearFirst 77 = .ok (.iaload, 1) := by decide +kernel
theorem dX12_nearFirst_78 : decode cX12_nearFirst 78 = .ok (.invokestatic 171, 3) := by decide +kernel
theorem dX12_nearFirst_81 : decode cX12_nearFirst 81 = .ok (.aload_n 0, 1) := by decide +kernel
theorem dX12_nearFirst_82 : decode cX12_nearFirst 82 = .ok (.getfield 24, 3) := by decide +kernel
theorem dX12_nearFirst_85 : decode cX12_nearFirst 85 = .ok (.if_icmp .ge 5, 3) := by decide +kernel
theorem dX12_nearFirst_88 : decode cX12_nearFirst 88 = .ok (.iload_n 2, 1) := by decide +kernel
theorem dX12_nearFirst_89 : decode cX12_nearFirst 89 = .ok (.ireturn, 1) := by decide +kernel
theorem dX12_nearFirst_90 : decode cX12_nearFirst 90 = .ok (.iinc 2 1, 3) := by decide +kernel
theorem dX12_nearFirst_93 : decode cX12_nearFirst 93 = .ok (.goto (-91), 3) := by decide +kernel
theorem dX12_nearFirst_96 : decode cX12_nearFirst 96 = .ok (.bipush (-4), 2) := by decide +kernel
theorem dX12_nearFirst_98 : decode cX12_nearFirst 98 = .ok (.ireturn, 1) := by decide +kernel
set_option maxRecDepth 20000 in
theorem ggX12_near_X12_in : GoodIn wsX12_near wsX12_in := goodIn_r _ [6] (by decide +kernel) (by decide +kernel)
set_option maxRecDepth 20000 in
theorem gX12_near_X12_in : GoodIn wsX12_near (va_wsS RX12 123 yX12_in wsX12_in) := goodIn_app (goodIn_of _ (by decide +kernel)) ggX12_near_X12_in
set_option maxRecDepth 20000 in
theorem ggX12_near_X12_nearFirst : GoodIn wsX12_near wsX12_nearFirst := goodIn_r _ [10, 11, 12, 13, 14, 15, 16, 17, 18, 19, 20, 5, 21, 22, 23, 24, 25, 26, 27, 28, 29, 30, 31, 32, 33, 34, 35, 36, 37, 38, 39, 40, 41, 42, 43, 44, 45, 46, 47, 48, 49, 50, 51, 52, 53, 54, 55, 56, 57, 58, 59, 60, 61, 62, 63] (by decide +kernel) (by decide +kernel)
set_option maxRecDepth 20000 in
theorem gX12_near_X12_nearFirst : GoodIn wsX12_near (wsV RX12 174 RX12 yX12_nearFirst wsX12_nearFirst) := goodIn_app (goodIn_of _ (by decide +kernel)) ggX12_near_X12_nearFirst
theorem dX12_near_0 : decode cX12_near 0 = .ok (.iload_n 1, 1) := by decide +kernel
theorem dX12_near_1 : decode cX12_near 1 = .ok (.iconst 0, 1) := by decide +kernel
theorem dX12_near_2 : decode cX12_near 2 = .ok (.aload_n 0, 1) := by decide +kernel
theorem dX12_near_3 : decode cX12_near 3 = .ok (.getfield 168, 3) := by decide +kernel
theorem dX12_near_6 : decode cX12_near 6 = .ok (.iconst 1, 1) := by decide +kernel
theorem dX12_near_7 : decode cX12_near 7 = .ok (.isub, 1) := by decide +kernel
theorem dX12_near_8 : decode cX12_near 8 = .ok (.invokestatic 123, 3) := by decide +kernel
theorem dX12_near_11 : decode cX12_near 11 = .ok (.ifCond .ne 5, 3) := by decide +kernel
theorem dX12_near_14 : decode cX12_near 14 = .ok (.iconst (-1), 1) := by decide +kernel
theorem dX12_near_15 : decode cX12_near 15 = .ok (.ireturn, 1) := by decide +kernel
theorem dX12_near_16 : decode cX12_near 16 = .ok (.aload_n 0, 1) := by decide +kernel
theorem dX12_near_17 : decode cX12_near 17 = .ok (.getfield 51, 3) := by decide +kernel
theorem dX12_near_20 : decode cX12_near 20 = .ok (.iconst (-1), 1) := by decide +kernel
theorem dX12_near_21 : decode cX12_near 21 = .ok (.if_icmp .ne 8, 3) := by decide +kernel
theorem dX12_near_24 : decode cX12_near 24 = .ok (.bipush (-3), 2) := by decide +kernel
theorem dX12_near_26 : decode cX12_near 26 = .ok (.goto 8, 3) := by decide +kernel
theorem dX12_near_29 : decode cX12_near 29 = .ok (.aload_n 0, 1) := by decide +kernel
theorem dX12_near_30 : decode cX12_near 30 = .ok (.iload_n 1, 1) := by decide +kernel
theorem dX12_near_31 : decode cX12_near 31 = .ok (.invokevirtual 174, 3) := by decide +kernel
theorem dX12_near_34 : decode cX12_near 34 = .ok (.ireturn, 1) := by decide +kernel
set_option maxRecDepth 20000 in
theorem ggX12_lanes_X12_nearFirst : GoodIn wsX12_lanes wsX12_nearFirst := goodIn_r _ [7, 8, 9, 10, 11, 12, 13, 14, 15, 16, 17, 6, 18, 19, 20, 21, 22, 23, 24, 25, 26, 27, 28, 29, 30, 31, 32, 33, 34, 35, 36, 37, 38, 39, 40, 41, 42, 43, 44, 45, 46, 47, 48, 49, 50, 51, 52, 53, 54, 55, 56, 57, 58, 59, 60] (by decide +kernel) (by decide +kernel)
set_option maxRecDepth 20000 in
theorem gX12_lanes_X12_nearFirst : GoodIn wsX12_lanes (wsV RX12 174 RX12 yX12_nearFirst wsX12_nearFirst) := goodIn_app (goodIn_of _ (by decide +kernel)) ggX12_lanes_X12_nearFirst
theorem dX12_lanes_0 : decode cX12_lanes 0 = .ok (.aload_n 0, 1) := by decide +kernel
theorem dX12_lanes_1 : decode cX12_lanes 1 = .ok (.getfield 51, 3) := by decide +kernel
theorem dX12_lanes_4 : decode cX12_lanes 4 = .ok (.iconst (-1), 1) := by decide +kernel
theorem dX12_lanes_5 : decode cX12_lanes 5 = .ok (.if_icmp .ne 6, 3) := by decide +kernel
theorem dX12_lanes_8 : decode cX12_lanes 8 = .ok (.bipush (-3), 2) := by decide +kernel
theorem dX12_lanes_10 : decode cX12_lanes 10 = .ok (.ireturn, 1) := by decide +kernel
theorem dX12_lanes_11 : decode cX12_lanes 11 = .ok (.iconst 0, 1) := by decide +kernel
theorem dX12_lanes_12 : decode cX12_lanes 12 = .ok (.istore_n 1, 1) := by decide +kernel
theorem dX12_lanes_13 : decode cX12_lanes 13 = .ok (.iconst 0, 1) := by decide +kernel
theorem dX12_lanes_14 : decode cX12_lanes 14 = .ok (.istore_n 2, 1) := by decide +kernel
theorem dX12_lanes_15 : decode cX12_lanes 15 = .ok (.iload_n 2, 1) := by decide +kernel
theorem dX12_lanes_16 : decode cX12_lanes 16 = .ok (.aload_n 0, 1) := by decide +kernel
theorem dX12_lanes_17 : decode cX12_lanes 17 = .ok (.getfield 168, 3) := by decide +kernel
theorem dX12_lanes_20 : decode cX12_lanes 20 = .ok (.if_icmp .ge 29, 3) := by decide +kernel
theorem dX12_lanes_23 : decode cX12_lanes 23 = .ok (.iload_n 1, 1) := by decide +kernel
theorem dX12_lanes_24 : decode cX12_lanes 24 = .ok (.aload_n 0, 1) := by decide +kernel
theorem dX12_lanes_25 : decode cX12_lanes 25 = .ok (.iload_n 2, 1) := by decide +kernel
theorem dX12_lanes_26 : decode cX12_lanes 26 = .ok (.invokevirtual 174, 3) := by decide +kernel
theorem dX12_lanes_29 : decode cX12_lanes 29 = .ok (.bipush (-4), 2) := by decide +kernel
theorem dX12_lanes_31 : decode cX12_lanes 31 = .ok (.if_icmp .eq 9, 3) := by decide +kernel
theorem dX12_lanes_34 : decode cX12_lanes 34 = .ok (.iconst 1, 1) := by decide +kernel
theorem dX12_lanes_35 : decode cX12_lanes 35 = .ok (.iload_n 2, 1) := by decide +kernel
theorem dX12_lanes_36 : decode cX12_lanes 36 = .ok (.ishl, 1) := by decide +kernel
theorem dX12_lanes_37 : decode cX12_lanes 37 = .ok (.goto 4, 3) := by decide +kernel
theorem dX12_lanes_40 : decode cX12_lanes 40 = .ok (.iconst 0, 1) := by decide +kernel
theorem dX12_lanes_41 : decode cX12_lanes 41 = .ok (.ior, 1) := by decide +kernel
theorem dX12_lanes_42 : decode cX12_lanes 42 = .ok (.istore_n 1, 1) := by decide +kernel
theorem dX12_lanes_43 : decode cX12_lanes 43 = .ok (.iinc 2 1, 3) := by decide +kernel
theorem dX12_lanes_46 : decode cX12_lanes 46 = .ok (.goto (-31), 3) := by decide +kernel
theorem dX12_lanes_49 : decode cX12_lanes 49 = .ok (.iload_n 1, 1) := by decide +kernel
theorem dX12_lanes_50 : decode cX12_lanes 50 = .ok (.ireturn, 1) := by decide +kernel
set_option maxRecDepth 20000 in
theorem ggX12_stroke_X12_in : GoodIn wsX12_stroke wsX12_in := goodIn_r _ [6] (by decide +kernel) (by decide +kernel)
set_option maxRecDepth 20000 in
theorem gX12_stroke_X12_in : GoodIn wsX12_stroke (va_wsS RX12 123 yX12_in wsX12_in) := goodIn_app (goodIn_of _ (by decide +kernel)) ggX12_stroke_X12_in
theorem dX12_stroke_0 : decode cX12_stroke 0 = .ok (.iload_n 1, 1) := by decide +kernel
theorem dX12_stroke_1 : decode cX12_stroke 1 = .ok (.iconst 0, 1) := by decide +kernel
theorem dX12_stroke_2 : decode cX12_stroke 2 = .ok (.bipush 99, 2) := by decide +kernel
theorem dX12_stroke_4 : decode cX12_stroke 4 = .ok (.invokestatic 123, 3) := by decide +kernel
theorem dX12_stroke_7 : decode cX12_stroke 7 = .ok (.ifCond .ne 5, 3) := by decide +kernel
theorem dX12_stroke_10 : decode cX12_stroke 10 = .ok (.iconst (-1), 1) := by decide +kernel
theorem dX12_stroke_11 : decode cX12_stroke 11 = .ok (.ireturn, 1) := by decide +kernel
theorem dX12_stroke_12 : decode cX12_stroke 12 = .ok (.aload_n 0, 1) := by decide +kernel
theorem dX12_stroke_13 : decode cX12_stroke 13 = .ok (.getfield 177, 3) := by decide +kernel
theorem dX12_stroke_16 : decode cX12_stroke 16 = .ok (.bipush 60, 2) := by decide +kernel
theorem dX12_stroke_18 : decode cX12_stroke 18 = .ok (.if_icmp .ne 6, 3) := by decide +kernel
theorem dX12_stroke_21 : decode cX12_stroke 21 = .ok (.bipush (-2), 2) := by decide +kernel
theorem dX12_stroke_23 : decode cX12_stroke 23 = .ok (.ireturn, 1) := by decide +kernel
theorem dX12_stroke_24 : decode cX12_stroke 24 = .ok (.aload_n 0, 1) := by decide +kernel
theorem dX12_stroke_25 : decode cX12_stroke 25 = .ok (.getfield 66, 3) := by decide +kernel
theorem dX12_stroke_28 : decode cX12_stroke 28 = .ok (.aload_n 0, 1) := by decide +kernel
theorem dX12_stroke_29 : decode cX12_stroke 29 = .ok (.getfield 177, 3) := by decide +kernel
theorem dX12_stroke_32 : decode cX12_stroke 32 = .ok (.iload_n 1, 1) := by decide +kernel
theorem dX12_stroke_33 : decode cX12_stroke 33 = .ok (.iastore, 1) := by decide +kernel
theorem dX12_stroke_34 : decode cX12_stroke 34 = .ok (.aload_n 0, 1) := by decide +kernel
theorem dX12_stroke_35 : decode cX12_stroke 35 = .ok (.dup, 1) := by decide +kernel
theorem dX12_stroke_36 : decode cX12_stroke 36 = .ok (.getfield 177, 3) := by decide +kernel
theorem dX12_stroke_39 : decode cX12_stroke 39 = .ok (.iconst 1, 1) := by decide +kernel
theorem dX12_stroke_40 : decode cX12_stroke 40 = .ok (.iadd, 1) := by decide +kernel
theorem dX12_stroke_41 : decode cX12_stroke 41 = .ok (.putfield 177, 3) := by decide +kernel
theorem dX12_stroke_44 : decode cX12_stroke 44 = .ok (.aload_n 0, 1) := by decide +kernel
theorem dX12_stroke_45 : decode cX12_stroke 45 = .ok (.getfield 177, 3) := by decide +kernel
theorem dX12_stroke_48 : decode cX12_stroke 48 = .ok (.ireturn, 1) := by decide +kernel
theorem dX12_strokes_0 : decode cX12_strokes 0 = .ok (.aload_n 0, 1) := by decide +kernel
theorem dX12_strokes_1 : decode cX12_strokes 1 = .ok (.getfield 177, 3) := by decide +kernel
theorem dX12_strokes_4 : decode cX12_strokes 4 = .ok (.istore_n 1, 1) := by decide +kernel
theorem dX12_strokes_5 : decode cX12_strokes 5 = .ok (.aload_n 0, 1) := by decide +kernel
theorem dX12_strokes_6 : decode cX12_strokes 6 = .ok (.iconst 0, 1) := by decide +kernel
theorem dX12_strokes_7 : decode cX12_strokes 7 = .ok (.putfield 177, 3) := by decide +kernel
theorem dX12_strokes_10 : decode cX12_strokes 10 = .ok (.iload_n 1, 1) := by decide +kernel
theorem dX12_strokes_11 : decode cX12_strokes 11 = .ok (.ireturn, 1) := by decide +kernel
theorem dX12_stopAt_0 : decode cX12_stopAt 0 = .ok (.iconst 0, 1) := by decide +kernel
theorem dX12_stopAt_1 : decode cX12_stopAt 1 = .ok (.istore_n 3, 1) := by decide +kernel
theorem dX12_stopAt_2 : decode cX12_stopAt 2 = .ok (.iconst 0, 1) := by decide +kernel
theorem dX12_stopAt_3 : decode cX12_stopAt 3 = .ok (.istore 4, 2) := by decide +kernel
theorem dX12_stopAt_5 : decode cX12_stopAt 5 = .ok (.iload 4, 2) := by decide +kernel
theorem dX12_stopAt_7 : decode cX12_stopAt 7 = .ok (.aload_n 0, 1) := by decide +kernel
theorem dX12_stopAt_8 : decode cX12_stopAt 8 = .ok (.getfield 177, 3) := by decide +kernel
theorem dX12_stopAt_11 : decode cX12_stopAt 11 = .ok (.if_icmp .ge 36, 3) := by decide +kernel
theorem dX12_stopAt_14 : decode cX12_stopAt 14 = .ok (.aload_n 0, 1) := by decide +kernel
theorem dX12_stopAt_15 : decode cX12_stopAt 15 = .ok (.getfield 66, 3) := by decide +kernel
theorem dX12_stopAt_18 : decode cX12_stopAt 18 = .ok (.iload 4, 2) := by decide +kernel
theorem dX12_stopAt_20 : decode cX12_stopAt 20 = .ok (.iaload, 1) := by decide +kernel
theorem dX12_stopAt_21 : decode cX12_stopAt 21 = .ok (.iload_n 1, 1) := by decide +kernel
theorem dX12_stopAt_22 : decode cX12_stopAt 22 = .ok (.if_icmp .ge 9, 3) := by decide +kernel
theorem dX12_stopAt_25 : decode cX12_stopAt 25 = .ok (.iload_n 3, 1) := by decide +kernel
theorem dX12_stopAt_26 : decode cX12_stopAt 26 = .ok (.iconst 1, 1) := by decide +kernel
theorem dX12_stopAt_27 : decode cX12_stopAt 27 = .ok (.iadd, 1) := by decide +kernel
theorem dX12_stopAt_28 : decode cX12_stopAt 28 = .ok (.goto 4, 3) := by decide +kernel
theorem dX12_stopAt_31 : decode cX12_stopAt 31 = .ok (.iconst 0, 1) := by decide +kernel
theorem dX12_stopAt_32 : decode cX12_stopAt 32 = .ok (.istore_n 3, 1) := by decide +kernel
theorem dX12_stopAt_33 : decode cX12_stopAt 33 = .ok (.iload_n 3, 1) := by decide +kernel
theorem dX12_stopAt_34 : decode cX12_stopAt 34 = .ok (.iload_n 2, 1) := by decide +kernel
theorem dX12_stopAt_35 : decode cX12_stopAt 35 = .ok (.if_icmp .ne 6, 3) := by decide +kernel
theorem dX12_stopAt_38 : decode cX12_stopAt 38 = .ok (.iload 4, 2) := by decide +kernel
theorem dX12_stopAt_40 : decode cX12_stopAt 40 = .ok (.ireturn, 1) := by decide +kernel
theorem dX12_stopAt_41 : decode cX12_stopAt 41 = .ok (.iinc 4 1, 3) := by decide +kernel
theorem dX12_stopAt_44 : decode cX12_stopAt 44 = .ok (.goto (-39), 3) := by decide +kernel
theorem dX12_stopAt_47 : decode cX12_stopAt 47 = .ok (.bipush (-4), 2) := by decide +kernel
theorem dX12_stopAt_49 : decode cX12_stopAt 49 = .ok (.ireturn, 1) := by decide +kernel
set_option maxRecDepth 20000 in
theorem ggX12_stop_X12_in : GoodIn wsX12_stop wsX12_in := goodIn_r _ [4] (by decide +kernel) (by decide +kernel)
set_option maxRecDepth 20000 in
theorem gX12_stop_X12_in : GoodIn wsX12_stop (va_wsS RX12 123 yX12_in wsX12_in) := goodIn_app (goodIn_of _ (by decide +kernel)) ggX12_stop_X12_in
set_option maxRecDepth 20000 in
theorem ggX12_stop_X12_stopAt : GoodIn wsX12_stop wsX12_stopAt := goodIn_r _ [8, 9, 10, 11, 12, 13, 14, 15, 16, 17, 18, 19, 20, 21, 22, 23, 24, 25, 26, 27, 28, 29, 30, 31, 32, 33, 34, 35, 36, 37, 38, 39, 40, 41, 42, 43, 44, 45, 46, 47, 48, 49, 50, 51, 52] (by decide +kernel) (by decide +kernel)
set_option maxRecDepth 20000 in
theorem gX12_stop_X12_stopAt : GoodIn wsX12_stop (wsV RX12 180 RX12 yX12_stopAt wsX12_stopAt) := goodIn_app (goodIn_of _ (by decide +kernel)) ggX12_stop_X12_stopAt
theorem dX12_stop_0 : decode cX12_stop 0 = .ok (.iload_n 1, 1) := by decide +kernel
theorem dX12_stop_1 : decode cX12_stop 1 = .ok (.iconst 0, 1) := by decide +kernel
theorem dX12_stop_2 : decode cX12_stop 2 = .ok (.bipush 99, 2) := by decide +kernel
theorem dX12_stop_4 : decode cX12_stop 4 = .ok (.invokestatic 123, 3) := by decide +kernel
theorem dX12_stop_7 : decode cX12_stop 7 = .ok (.ifCond .eq 22, 3) := by decide +kernel
theorem dX12_stop_10 : decode cX12_stop 10 = .ok (.iload_n 2, 1) := by decide +kernel
theorem dX12_stop_11 : decode cX12_stop 11 = .ok (.iconst 1, 1) := by decide +kernel
theorem dX12_stop_12 : decode cX12_stop 12 = .ok (.bipush 10, 2) := by decide +kernel
theorem dX12_stop_14 : decode cX12_stop 14 = .ok (.invokestatic 123, 3) := by decide +kernel
theorem dX12_stop_17 : decode cX12_stop 17 = .ok (.ifCond .eq 12, 3) := by decide +kernel
theorem dX12_stop_20 : decode cX12_stop 20 = .ok (.aload_n 0, 1) := by decide +kernel
theorem dX12_stop_21 : decode cX12_stop 21 = .ok (.iload_n 1, 1) := by decide +kernel
theorem dX12_stop_22 : decode cX12_stop 22 = .ok (.iload_n 2, 1) := by decide +kernel
theorem dX12_stop_23 : decode cX12_stop 23 = .ok (.invokevirtual 180, 3) := by decide +kernel
theorem dX12_stop_26 : decode cX12_stop 26 = .ok (.goto 4, 3) := by decide +kernel
theorem dX12_stop_29 : decode cX12_stop 29 = .ok (.iconst (-1), 1) := by decide +kernel
theorem dX12_stop_30 : decode cX12_stop 30 = .ok (.ireturn, 1) := by decide +kernel
set_option maxRecDepth 20000 in
theorem ggX12_floor_X12_in : GoodIn wsX12_floor wsX12_in := goodIn_r _ [4] (by decide +kernel) (by decide +kernel)
set_option maxRecDepth 20000 in
theorem gX12_floor_X12_in : GoodIn wsX12_floor (va_wsS RX12 123 yX12_in wsX12_in) := goodIn_app (goodIn_of _ (by decide +kernel)) ggX12_floor_X12_in
set_option maxRecDepth 20000 in
theorem ggX12_floor_X12_stopAt : GoodIn wsX12_floor wsX12_stopAt := goodIn_r _ [8, 9, 10, 11, 12, 13, 14, 15, 16, 17, 18, 19, 20, 21, 22, 23, 24, 25, 26, 27, 28, 29, 30, 31, 32, 33, 34, 35, 36, 37, 38, 39, 40, 41, 42, 43, 44, 45, 46, 47, 48, 49, 50, 51, 52] (by decide +kernel) (by decide +kernel)
set_option maxRecDepth 20000 in
theorem gX12_floor_X12_stopAt : GoodIn wsX12_floor (wsV RX12 180 RX12 yX12_stopAt wsX12_stopAt) := goodIn_app (goodIn_of _ (by decide +kernel)) ggX12_floor_X12_stopAt
theorem dX12_floor_0 : decode cX12_floor 0 = .ok (.iload_n 1, 1) := by decide +kernel
theorem dX12_floor_1 : decode cX12_floor 1 = .ok (.iconst 1, 1) := by decide +kernel
theorem dX12_floor_2 : decode cX12_floor 2 = .ok (.bipush 10, 2) := by decide +kernel
theorem dX12_floor_4 : decode cX12_floor 4 = .ok (.invokestatic 123, 3) := by decide +kernel
theorem dX12_floor_7 : decode cX12_floor 7 = .ok (.ifCond .ne 5, 3) := by decide +kernel
theorem dX12_floor_10 : decode cX12_floor 10 = .ok (.iconst (-1), 1) := by decide +kernel
theorem dX12_floor_11 : decode cX12_floor 11 = .ok (.ireturn, 1) := by decide +kernel
theorem dX12_floor_12 : decode cX12_floor 12 = .ok (.iconst 0, 1) := by decide +kernel
theorem dX12_floor_13 : decode cX12_floor 13 = .ok (.istore_n 2, 1) := by decide +kernel
theorem dX12_floor_14 : decode cX12_floor 14 = .ok (.iload_n 2, 1) := by decide +kernel
theorem dX12_floor_15 : decode cX12_floor 15 = .ok (.bipush 100, 2) := by decide +kernel
theorem dX12_floor_17 : decode cX12_floor 17 = .ok (.if_icmp .ge 22, 3) := by decide +kernel
theorem dX12_floor_20 : decode cX12_floor 20 = .ok (.aload_n 0, 1) := by decide +kernel
theorem dX12_floor_21 : decode cX12_floor 21 = .ok (.iload_n 2, 1) := by decide +kernel
theorem dX12_floor_22 : decode cX12_floor 22 = .ok (.iload_n 1, 1) := by decide +kernel
theorem dX12_floor_23 : decode cX12_floor 23 = .ok (.invokevirtual 180, 3) := by decide +kernel
theorem dX12_floor_26 : decode cX12_floor 26 = .ok (.bipush (-4), 2) := by decide +kernel
theorem dX12_floor_28 : decode cX12_floor 28 = .ok (.if_icmp .eq 5, 3) := by decide +kernel
theorem dX12_floor_31 : decode cX12_floor 31 = .ok (.iload_n 2, 1) := by decide +kernel
theorem dX12_floor_32 : decode cX12_floor 32 = .ok (.ireturn, 1) := by decide +kernel
theorem dX12_floor_33 : decode cX12_floor 33 = .ok (.iinc 2 1, 3) := by decide +kernel
theorem dX12_floor_36 : decode cX12_floor 36 = .ok (.goto (-22), 3) := by decide +kernel
theorem dX12_floor_39 : decode cX12_floor 39 = .ok (.bipush (-4), 2) := by decide +kernel
theorem dX12_floor_41 : decode cX12_floor 41 = .ok (.ireturn, 1) := by decide +kernel
set_option maxRecDepth 20000 in
theorem ggX12_order_X12_isSwimmer : GoodIn wsX12_order wsX12_isSwimmer := goodIn_r _ [8, 9, 10, 11, 7, 12, 13, 14, 15, 16, 17, 18, 19, 20, 21, 22, 23, 24, 25, 26, 27, 28, 29, 30, 31, 32, 33, 34, 35, 36, 37, 38, 39, 40, 41, 42, 43, 44, 45, 46, 47, 48, 49, 50, 51, 52, 53, 54] (by decide +kernel) (by decide +kernel)
set_option maxRecDepth 20000 in
theorem gX12_order_X12_isSwimmer : GoodIn wsX12_order (wsV RX12 141 RX12 yX12_isSwimmer wsX12_isSwimmer) := goodIn_app (goodIn_of _ (by decide +kernel)) ggX12_order_X12_isSwimmer
theorem dX12_order_0 : decode cX12_order 0 = .ok (.iload_n 1, 1) := by decide +kernel
theorem dX12_order_1 : decode cX12_order 1 = .ok (.ifCond .ge 5, 3) := by decide +kernel
theorem dX12_order_4 : decode cX12_order 4 = .ok (.iconst (-1), 1) := by decide +kernel
theorem dX12_order_5 : decode cX12_order 5 = .ok (.ireturn, 1) := by decide +kernel
theorem dX12_order_6 : decode cX12_order 6 = .ok (.iconst 0, 1) := by decide +kernel
theorem dX12_order_7 : decode cX12_order 7 = .ok (.istore_n 2, 1) := by decide +kernel
theorem dX12_order_8 : decode cX12_order 8 = .ok (.iconst 0, 1) := by decide +kernel
theorem dX12_order_9 : decode cX12_order 9 = .ok (.istore_n 3, 1) := by decide +kernel
theorem dX12_order_10 : decode cX12_order 10 = .ok (.iload_n 1, 1) := by decide +kernel
theorem dX12_order_11 : decode cX12_order 11 = .ok (.istore 4, 2) := by decide +kernel
theorem dX12_order_13 : decode cX12_order 13 = .ok (.iload 4, 2) := by decide +kernel
theorem dX12_order_15 : decode cX12_order 15 = .ok (.ifCond .le 58, 3) := by decide +kernel
theorem dX12_order_18 : decode cX12_order 18 = .ok (.iload 4, 2) := by decide +kernel
theorem dX12_order_20 : decode cX12_order 20 = .ok (.bipush 15, 2) := by decide +kernel
theorem dX12_order_22 : decode cX12_order 22 = .ok (.iand, 1) := by decide +kernel
theorem dX12_order_23 : decode cX12_order 23 = .ok (.iconst 1, 1) := by decide +kernel
theorem dX12_order_24 : decode cX12_order 24 = .ok (.isub, 1) := by decide +kernel
theorem dX12_order_25 : decode cX12_order 25 = .ok (.istore 5, 2) := by decide +kernel
theorem dX12_order_27 : decode cX12_order 27 = .ok (.iload_n 2, 1) := by decide +kernel
theorem dX12_order_28 : decode cX12_order 28 = .ok (.bipush 6, 2) := by decide +kernel
theorem dX12_order_30 : decode cX12_order 30 = .ok (.if_icmp .eq 22, 3) := by decide +kernel
theorem dX12_order_33 : decode cX12_order 33 = .ok (.aload_n 0, 1) := by decide +kernel
theorem dX12_order_34 : decode cX12_order 34 = .ok (.iload 5, 2) := by decide +kernel
theorem dX12_order_36 : decode cX12_order 36 = .ok (.invokevirtual 141, 3) := by decide +kernel
theorem dX12_order_39 : decode cX12_order 39 = .ok (.ifCond .eq 13, 3) := by decide +kernel
theorem dX12_order_42 : decode cX12_order 42 = .ok (.iload_n 3, 1) := by decide +kernel
theorem dX12_order_43 : decode cX12_order 43 = .ok (.iload 5, 2) := by decide +kernel
theorem dX12_order_45 : decode cX12_order 45 = .ok (.ishr, 1) := by decide +kernel
theorem dX12_order_46 : decode cX12_order 46 = .ok (.iconst 1, 1) := by decide +kernel
theorem dX12_order_47 : decode cX12_order 47 = .ok (.iand, 1) := by decide +kernel
theorem dX12_order_48 : decode cX12_order 48 = .ok (.iconst 1, 1) := by decide +kernel
theorem dX12_order_49 : decode cX12_order 49 = .ok (.if_icmp .ne 5, 3) := by decide +kernel
theorem dX12_order_52 : decode cX12_order 52 = .ok (.iconst (-1), 1) := by decide +kernel
theorem dX12_order_53 : decode cX12_order 53 = .ok (.ireturn, 1) := by decide +kernel
theorem dX12_order_54 : decode cX12_order 54 = .ok (.iload_n 3, 1) := by decide +kernel
theorem dX12_order_55 : decode cX12_order 55 = .ok (.iconst 1, 1) := by decide +kernel
theorem dX12_order_56 : decode cX12_order 56 = .ok (.iload 5, 2) := by decide +kernel
theorem dX12_order_58 : decode cX12_order 58 = .ok (.ishl, 1) := by decide +kernel
theorem dX12_order_59 : decode cX12_order 59 = .ok (.ior, 1) := by decide +kernel
theorem dX12_order_60 : decode cX12_order 60 = .ok (.istore_n 3, 1) := by decide +kernel
theorem dX12_order_61 : decode cX12_order 61 = .ok (.iinc 2 1, 3) := by decide +kernel
theorem dX12_order_64 : decode cX12_order 64 = .ok (.iload 4, 2) := by decide +kernel
theorem dX12_order_66 : decode cX12_order 66 = .ok (.iconst 4, 1) := by decide +kernel
theorem dX12_order_67 : decode cX12_order 67 = .ok (.ishr, 1) := by decide +kernel
theorem dX12_order_68 : decode cX12_order 68 = .ok (.istore 4, 2) := by decide +kernel
theorem dX12_order_70 : decode cX12_order 70 = .ok (.goto (-57), 3) := by decide +kernel
theorem dX12_order_73 : decode cX12_order 73 = .ok (.iload_n 2, 1) := by decide +kernel
theorem dX12_order_74 : decode cX12_order 74 = .ok (.iconst 2, 1) := by decide +kernel
theorem dX12_order_75 : decode cX12_order 75 = .ok (.if_icmp .ge 5, 3) := by decide +kernel
theorem dX12_order_78 : decode cX12_order 78 = .ok (.iconst (-1), 1) := by decide +kernel
theorem dX12_order_79 : decode cX12_order 79 = .ok (.ireturn, 1) := by decide +kernel
theorem dX12_order_80 : decode cX12_order 80 = .ok (.iconst 0, 1) := by decide +kernel
theorem dX12_order_81 : decode cX12_order 81 = .ok (.istore 4, 2) := by decide +kernel
theorem dX12_order_83 : decode cX12_order 83 = .ok (.iload 4, 2) := by decide +kernel
theorem dX12_order_85 : decode cX12_order 85 = .ok (.iload_n 2, 1) := by decide +kernel
theorem dX12_order_86 : decode cX12_order 86 = .ok (.if_icmp .ge 27, 3) := by decide +kernel
theorem dX12_order_89 : decode cX12_order 89 = .ok (.aload_n 0, 1) := by decide +kernel
theorem dX12_order_90 : decode cX12_order 90 = .ok (.getfield 69, 3) := by decide +kernel
theorem dX12_order_93 : decode cX12_order 93 = .ok (.iload 4, 2) := by decide +kernel
theorem dX12_order_95 : decode cX12_order 95 = .ok (.iload_n 1, 1) := by decide +kernel
theorem dX12_order_96 : decode cX12_order 96 = .ok (.iconst 4, 1) := by decide +kernel
theorem dX12_order_97 : decode cX12_order 97 = .ok (.iload 4, 2) := by decide +kernel
theorem dX12_order_99 : decode cX12_order 99 = .ok (.imul, 1) := by decide +kernel
theorem dX12_order_100 : decode cX12_order 100 = .ok (.ishr, 1) := by decide +kernel
theorem dX12_order_101 : decode cX12_order 101 = .ok (.bipush 15, 2) := by decide +kernel
theorem dX12_order_103 : decode cX12_order 103 = .ok (.iand, 1) := by decide +kernel
theorem dX12_order_104 : decode cX12_order 104 = .ok (.iconst 1, 1) := by decide +kernel
theorem dX12_order_105 : decode cX12_order 105 = .ok (.isub, 1) := by decide +kernel
theorem dX12_order_106 : decode cX12_order 106 = .ok (.iastore, 1) := by decide +kernel
theorem dX12_order_107 : decode cX12_order 107 = .ok (.iinc 4 1, 3) := by decide +kernel
theorem dX12_order_110 : decode cX12_order 110 = .ok (.goto (-27), 3) := by decide +kernel
theorem dX12_order_113 : decode cX12_order 113 = .ok (.aload_n 0, 1) := by decide +kernel
theorem dX12_order_114 : decode cX12_order 114 = .ok (.iload_n 2, 1) := by decide +kernel
theorem dX12_order_115 : decode cX12_order 115 = .ok (.putfield 183, 3) := by decide +kernel
theorem dX12_order_118 : decode cX12_order 118 = .ok (.aload_n 0, 1) := by decide +kernel
theorem dX12_order_119 : decode cX12_order 119 = .ok (.iconst 0, 1) := by decide +kernel
theorem dX12_order_120 : decode cX12_order 120 = .ok (.putfield 186, 3) := by decide +kernel
theorem dX12_order_123 : decode cX12_order 123 = .ok (.iload_n 2, 1) := by decide +kernel
theorem dX12_order_124 : decode cX12_order 124 = .ok (.ireturn, 1) := by decide +kernel
set_option maxRecDepth 20000 in
theorem ggX12_turn_X12_isSwimmer : GoodIn wsX12_turn wsX12_isSwimmer := goodIn_r _ [8, 9, 10, 11, 7, 12, 13, 14, 15, 16, 17, 18, 19, 20, 21, 22, 23, 24, 25, 26, 27, 28, 29, 30, 31, 32, 33, 34, 35, 36, 37, 38, 39, 40, 41, 42, 43, 44, 45, 46, 47, 48, 49, 50, 51, 52, 53, 54] (by decide +kernel) (by decide +kernel)
set_option maxRecDepth 20000 in
theorem gX12_turn_X12_isSwimmer : GoodIn wsX12_turn (wsV RX12 141 RX12 yX12_isSwimmer wsX12_isSwimmer) := goodIn_app (goodIn_of _ (by decide +kernel)) ggX12_turn_X12_isSwimmer
theorem dX12_turn_0 : decode cX12_turn 0 = .ok (.aload_n 0, 1) := by decide +kernel
theorem dX12_turn_1 : decode cX12_turn 1 = .ok (.iload_n 1, 1) := by decide +kernel
theorem dX12_turn_2 : decode cX12_turn 2 = .ok (.invokevirtual 141, 3) := by decide +kernel
theorem dX12_turn_5 : decode cX12_turn 5 = .ok (.ifCond .ne 5, 3) := by decide +kernel
theorem dX12_turn_8 : decode cX12_turn 8 = .ok (.iconst (-1), 1) := by decide +kernel
theorem dX12_turn_9 : decode cX12_turn 9 = .ok (.ireturn, 1) := by decide +kernel
theorem dX12_turn_10 : decode cX12_turn 10 = .ok (.aload_n 0, 1) := by decide +kernel
theorem dX12_turn_11 : decode cX12_turn 11 = .ok (.getfield 186, 3) := by decide +kernel
theorem dX12_turn_14 : decode cX12_turn 14 = .ok (.bipush 40, 2) := by decide +kernel
theorem dX12_turn_16 : decode cX12_turn 16 = .ok (.if_icmp .ne 6, 3) := by decide +kernel
theorem dX12_turn_19 : decode cX12_turn 19 = .ok (.bipush (-2), 2) := by decide +kernel
theorem dX12_turn_21 : decode cX12_turn 21 = .ok (.ireturn, 1) := by decide +kernel
theorem dX12_turn_22 : decode cX12_turn 22 = .ok (.aload_n 0, 1) := by decide +kernel
theorem dX12_turn_23 : decode cX12_turn 23 = .ok (.getfield 183, 3) := by decide +kernel
theorem dX12_turn_26 : decode cX12_turn 26 = .ok (.ifCond .ne 6, 3) := by decide +kernel
theorem dX12_turn_29 : decode cX12_turn 29 = .ok (.bipush (-3), 2) := by decide +kernel
theorem dX12_turn_31 : decode cX12_turn 31 = .ok (.ireturn, 1) := by decide +kernel
theorem dX12_turn_32 : decode cX12_turn 32 = .ok (.aload_n 0, 1) := by decide +kernel
theorem dX12_turn_33 : decode cX12_turn 33 = .ok (.getfield 72, 3) := by decide +kernel
theorem dX12_turn_36 : decode cX12_turn 36 = .ok (.aload_n 0, 1) := by decide +kernel
theorem dX12_turn_37 : decode cX12_turn 37 = .ok (.getfield 186, 3) := by decide +kernel
theorem dX12_turn_40 : decode cX12_turn 40 = .ok (.iload_n 1, 1) := by decide +kernel
theorem dX12_turn_41 : decode cX12_turn 41 = .ok (.iastore, 1) := by decide +kernel
theorem dX12_turn_42 : decode cX12_turn 42 = .ok (.aload_n 0, 1) := by decide +kernel
theorem dX12_turn_43 : decode cX12_turn 43 = .ok (.dup, 1) := by decide +kernel
theorem dX12_turn_44 : decode cX12_turn 44 = .ok (.getfield 186, 3) := by decide +kernel
theorem dX12_turn_47 : decode cX12_turn 47 = .ok (.iconst 1, 1) := by decide +kernel
theorem dX12_turn_48 : decode cX12_turn 48 = .ok (.iadd, 1) := by decide +kernel
theorem dX12_turn_49 : decode cX12_turn 49 = .ok (.putfield 186, 3) := by decide +kernel
theorem dX12_turn_52 : decode cX12_turn 52 = .ok (.aload_n 0, 1) := by decide +kernel
theorem dX12_turn_53 : decode cX12_turn 53 = .ok (.getfield 186, 3) := by decide +kernel
theorem dX12_turn_56 : decode cX12_turn 56 = .ok (.ireturn, 1) := by decide +kernel
theorem dX12_voided_0 : decode cX12_voided 0 = .ok (.aload_n 0, 1) := by decide +kernel
theorem dX12_voided_1 : decode cX12_voided 1 = .ok (.getfield 183, 3) := by decide +kernel
theorem dX12_voided_4 : decode cX12_voided 4 = .ok (.ifCond .ne 6, 3) := by decide +kernel
theorem dX12_voided_7 : decode cX12_voided 7 = .ok (.bipush (-3), 2) := by decide +kernel
theorem dX12_voided_9 : decode cX12_voided 9 = .ok (.ireturn, 1) := by decide +kernel
theorem dX12_voided_10 : decode cX12_voided 10 = .ok (.iconst 0, 1) := by decide +kernel
theorem dX12_voided_11 : decode cX12_voided 11 = .ok (.istore_n 1, 1) := by decide +kernel
theorem dX12_voided_12 : decode cX12_voided 12 = .ok (.iload_n 1, 1) := by decide +kernel
theorem dX12_voided_13 : decode cX12_voided 13 = .ok (.aload_n 0, 1) := by decide +kernel
theorem dX12_voided_14 : decode cX12_voided 14 = .ok (.getfield 186, 3) := by decide +kernel
theorem dX12_voided_17 : decode cX12_voided 17 = .ok (.if_icmp .ge 31, 3) := by decide +kernel
theorem dX12_voided_20 : decode cX12_voided 20 = .ok (.aload_n 0, 1) := by decide +kernel
theorem dX12_voided_21 : decode cX12_voided 21 = .ok (.getfield 72, 3) := by decide +kernel
theorem dX12_voided_24 : decode cX12_voided 24 = .ok (.iload_n 1, 1) := by decide +kernel
theorem dX12_voided_25 : decode cX12_voided 25 = .ok (.iaload, 1) := by decide +kernel
theorem dX12_voided_26 : decode cX12_voided 26 = .ok (.aload_n 0, 1) := by decide +kernel
theorem dX12_voided_27 : decode cX12_voided 27 = .ok (.getfield 69, 3) := by decide +kernel
theorem dX12_voided_30 : decode cX12_voided 30 = .ok (.iload_n 1, 1) := by decide +kernel
theorem dX12_voided_31 : decode cX12_voided 31 = .ok (.aload_n 0, 1) := by decide +kernel
theorem dX12_voided_32 : decode cX12_voided 32 = .ok (.getfield 183, 3) := by decide +kernel
theorem dX12_voided_35 : decode cX12_voided 35 = .ok (.irem, 1) := by decide +kernel
theorem dX12_voided_36 : decode cX12_voided 36 = .ok (.iaload, 1) := by decide +kernel
theorem dX12_voided_37 : decode cX12_voided 37 = .ok (.if_icmp .eq 5, 3) := by decide +kernel
theorem dX12_voided_40 : decode cX12_voided 40 = .ok (.iload_n 1, 1) := by decide +kernel
theorem dX12_voided_41 : decode cX12_voided 41 = .ok (.ireturn, 1) := by decide +kernel
theorem dX12_voided_42 : decode cX12_voided 42 = .ok (.iinc 1 1, 3) := by decide +kernel
theorem dX12_voided_45 : decode cX12_voided 45 = .ok (.goto (-33), 3) := by decide +kernel
theorem dX12_voided_48 : decode cX12_voided 48 = .ok (.bipush (-4), 2) := by decide +kernel
theorem dX12_voided_50 : decode cX12_voided 50 = .ok (.ireturn, 1) := by decide +kernel
set_option maxRecDepth 20000 in
theorem ggX12_calm_X12_in : GoodIn wsX12_calm wsX12_in := goodIn_r _ [5] (by decide +kernel) (by decide +kernel)
set_option maxRecDepth 20000 in
theorem gX12_calm_X12_in : GoodIn wsX12_calm (va_wsS RX12 123 yX12_in wsX12_in) := goodIn_app (goodIn_of _ (by decide +kernel)) ggX12_calm_X12_in
theorem dX12_calm_0 : decode cX12_calm 0 = .ok (.iload_n 1, 1) := by decide +kernel
theorem dX12_calm_1 : decode cX12_calm 1 = .ok (.iconst 0, 1) := by decide +kernel
theorem dX12_calm_2 : decode cX12_calm 2 = .ok (.bipush 15, 2) := by decide +kernel
theorem dX12_calm_4 : decode cX12_calm 4 = .ok (.invokestatic 123, 3) := by decide +kernel
theorem dX12_calm_7 : decode cX12_calm 7 = .ok (.ifCond .ne 5, 3) := by decide +kernel
theorem dX12_calm_10 : decode cX12_calm 10 = .ok (.iconst (-1), 1) := by decide +kernel
theorem dX12_calm_11 : decode cX12_calm 11 = .ok (.ireturn, 1) := by decide +kernel
theorem dX12_calm_12 : decode cX12_calm 12 = .ok (.aload_n 0, 1) := by decide +kernel
theorem dX12_calm_13 : decode cX12_calm 13 = .ok (.getfield 75, 3) := by decide +kernel
theorem dX12_calm_16 : decode cX12_calm 16 = .ok (.iload_n 1, 1) := by decide +kernel
theorem dX12_calm_17 : decode cX12_calm 17 = .ok (.baload, 1) := by decide +kernel
theorem dX12_calm_18 : decode cX12_calm 18 = .ok (.iload_n 2, 1) := by decide +kernel
theorem dX12_calm_19 : decode cX12_calm 19 = .ok (.if_icmp .eq 7, 3) := by decide +kernel
theorem dX12_calm_22 : decode cX12_calm 22 = .ok (.iconst 1, 1) := by decide +kernel
theorem dX12_calm_23 : decode cX12_calm 23 = .ok (.goto 4, 3) := by decide +kernel
theorem dX12_calm_26 : decode cX12_calm 26 = .ok (.iconst 0, 1) := by decide +kernel
theorem dX12_calm_27 : decode cX12_calm 27 = .ok (.istore_n 3, 1) := by decide +kernel
theorem dX12_calm_28 : decode cX12_calm 28 = .ok (.aload_n 0, 1) := by decide +kernel
theorem dX12_calm_29 : decode cX12_calm 29 = .ok (.getfield 75, 3) := by decide +kernel
theorem dX12_calm_32 : decode cX12_calm 32 = .ok (.iload_n 1, 1) := by decide +kernel
theorem dX12_calm_33 : decode cX12_calm 33 = .ok (.iload_n 2, 1) := by decide +kernel
theorem dX12_calm_34 : decode cX12_calm 34 = .ok (.bastore, 1) := by decide +kernel
theorem dX12_calm_35 : decode cX12_calm 35 = .ok (.iload_n 3, 1) := by decide +kernel
theorem dX12_calm_36 : decode cX12_calm 36 = .ok (.ireturn, 1) := by decide +kernel
set_option maxRecDepth 20000 in
theorem ggX12_slot_X12_isSwimmer : GoodIn wsX12_slot wsX12_isSwimmer := goodIn_r _ [9, 10, 11, 12, 8, 13, 14, 15, 16, 17, 18, 19, 20, 21, 22, 23, 24, 25, 26, 27, 28, 29, 30, 31, 32, 33, 34, 35, 36, 37, 38, 39, 40, 41, 42, 43, 44, 45, 46, 47, 48, 49, 50, 51, 52, 53, 54, 55] (by decide +kernel) (by decide +kernel)
set_option maxRecDepth 20000 in
theorem gX12_slot_X12_isSwimmer : GoodIn wsX12_slot (wsV RX12 141 RX12 yX12_isSwimmer wsX12_isSwimmer) := goodIn_app (goodIn_of _ (by decide +kernel)) ggX12_slot_X12_isSwimmer
set_option maxRecDepth 20000 in
theorem ggX12_slot_X12_in : GoodIn wsX12_slot wsX12_in := goodIn_r _ [13] (by decide +kernel) (by decide +kernel)
set_option maxRecDepth 20000 in
theorem gX12_slot_X12_in : GoodIn wsX12_slot (va_wsS RX12 123 yX12_in wsX12_in) := goodIn_app (goodIn_of _ (by decide +kernel)) ggX12_slot_X12_in
theorem dX12_slot_0 : decode cX12_slot 0 = .ok (.aload_n 0, 1) := by decide +kernel
theorem dX12_slot_1 : decode cX12_slot 1 = .ok (.iload_n 1, 1) := by decide +kernel
theorem dX12_slot_2 : decode cX12_slot 2 = .ok (.invokevirtual 141, 3) := by decide +kernel
theorem dX12_slot_5 : decode cX12_slot 5 = .ok (.ifCond .eq 32, 3) := by decide +kernel
theorem dX12_slot_8 : decode cX12_slot 8 = .ok (.iload_n 2, 1) := by decide +kernel
theorem dX12_slot_9 : decode cX12_slot 9 = .ok (.iconst 0, 1) := by decide +kernel
theorem dX12_slot_10 : decode cX12_slot 10 = .ok (.iconst 3, 1) := by decide +kernel
theorem dX12_slot_11 : decode cX12_slot 11 = .ok (.invokestatic 123, 3) := by decide +kernel
theorem dX12_slot_14 : decode cX12_slot 14 = .ok (.ifCond .eq 23, 3) := by decide +kernel
theorem dX12_slot_17 : decode cX12_slot 17 = .ok (.iload_n 3, 1) := by decide +kernel
theorem dX12_slot_18 : decode cX12_slot 18 = .ok (.iconst 1, 1) := by decide +kernel
theorem dX12_slot_19 : decode cX12_slot 19 = .ok (.iconst 4, 1) := by decide +kernel
theorem dX12_slot_20 : decode cX12_slot 20 = .ok (.invokestatic 123, 3) := by decide +kernel
theorem dX12_slot_23 : decode cX12_slot 23 = .ok (.ifCond .eq 14, 3) := by decide +kernel
theorem dX12_slot_26 : decode cX12_slot 26 = .ok (.iload 4, 2) := by decide +kernel
theorem dX12_slot_28 : decode cX12_slot 28 = .ok (.iconst 0, 1) := by decide +kernel
theorem dX12_slot_29 : decode cX12_slot 29 = .ok (.ldc 189, 2) := by decide +kernel
theorem dX12_slot_31 : decode cX12_slot 31 = .ok (.invokestatic 123, 3) := by decide +kernel
theorem dX12_slot_34 : decode cX12_slot 34 = .ok (.ifCond .ne 5, 3) := by decide +kernel
theorem dX12_slot_37 : decode cX12_slot 37 = .ok (.iconst (-1), 1) := by decide +kernel
theorem dX12_slot_38 : decode cX12_slot 38 = .ok (.ireturn, 1) := by decide +kernel
theorem dX12_slot_39 : decode cX12_slot 39 = .ok (.aload_n 0, 1) := by decide +kernel
theorem dX12_slot_40 : decode cX12_slot 40 = .ok (.getfield 81, 3) := by decide +kernel
theorem dX12_slot_43 : decode cX12_slot 43 = .ok (.iload_n 1, 1) := by decide +kernel
theorem dX12_slot_44 : decode cX12_slot 44 = .ok (.iaload, 1) := by decide +kernel
theorem dX12_slot_45 : decode cX12_slot 45 = .ok (.ifCond .ne 7, 3) := by decide +kernel
theorem dX12_slot_48 : decode cX12_slot 48 = .ok (.iconst 1, 1) := by decide +kernel
theorem dX12_slot_49 : decode cX12_slot 49 = .ok (.goto 4, 3) := by decide +kernel
theorem dX12_slot_52 : decode cX12_slot 52 = .ok (.iconst 0, 1) := by decide +kernel
theorem dX12_slot_53 : decode cX12_slot 53 = .ok (.istore 5, 2) := by decide +kernel
theorem dX12_slot_55 : decode cX12_slot 55 = .ok (.aload_n 0, 1) := by decide +kernel
theorem dX12_slot_56 : decode cX12_slot 56 = .ok (.getfield 78, 3) := by decide +kernel
theorem dX12_slot_59 : decode cX12_slot 59 = .ok (.iload_n 1, 1) := by decide +kernel
theorem dX12_slot_60 : decode cX12_slot 60 = .ok (.iload_n 2, 1) := by decide +kernel
theorem dX12_slot_61 : decode cX12_slot 61 = .ok (.iastore, 1) := by decide +kernel
theorem dX12_slot_62 : decode cX12_slot 62 = .ok (.aload_n 0, 1) := by decide +kernel
theorem dX12_slot_63 : decode cX12_slot 63 = .ok (.getfield 81, 3) := by decide +kernel
theorem dX12_slot_66 : decode cX12_slot 66 = .ok (.iload_n 1, 1) := by decide +kernel
theorem dX12_slot_67 : decode cX12_slot 67 = .ok (.iload_n 3, 1) := by decide +kernel
theorem dX12_slot_68 : decode cX12_slot 68 = .ok (.iastore, 1) := by decide +kernel
theorem dX12_slot_69 : decode cX12_slot 69 = .ok (.aload_n 0, 1) := by decide +kernel
theorem dX12_slot_70 : decode cX12_slot 70 = .ok (.getfield 84, 3) := by decide +kernel
theorem dX12_slot_73 : decode cX12_slot 73 = .ok (.iload_n 1, 1) := by decide +kernel
theorem dX12_slot_74 : decode cX12_slot 74 = .ok (.iload 4, 2) := by decide +kernel
theorem dX12_slot_76 : decode cX12_slot 76 = .ok (.iastore, 1) := by decide +kernel
theorem dX12_slot_77 : decode cX12_slot 77 = .ok (.iload 5, 2) := by decide +kernel
theorem dX12_slot_79 : decode cX12_slot 79 = .ok (.ireturn, 1) := by decide +kernel
theorem dX12_mayGo_0 : decode cX12_mayGo 0 = .ok (.aload_n 0, 1) := by decide +kernel
theorem dX12_mayGo_1 : decode cX12_mayGo 1 = .ok (.getfield 81, 3) := by decide +kernel
theorem dX12_mayGo_4 : decode cX12_mayGo 4 = .ok (.iload_n 1, 1) := by decide +kernel
theorem dX12_mayGo_5 : decode cX12_mayGo 5 = .ok (.iaload, 1) := by decide +kernel
theorem dX12_mayGo_6 : decode cX12_mayGo 6 = .ok (.ifCond .le 40, 3) := by decide +kernel
theorem dX12_mayGo_9 : decode cX12_mayGo 9 = .ok (.aload_n 0, 1) := by decide +kernel
theorem dX12_mayGo_10 : decode cX12_mayGo 10 = .ok (.getfield 78, 3) := by decide +kernel
theorem dX12_mayGo_13 : decode cX12_mayGo 13 = .ok (.iload_n 1, 1) := by decide +kernel
theorem dX12_mayGo_14 : decode cX12_mayGo 14 = .ok (.iaload, 1) := by decide +kernel
theorem dX12_mayGo_15 : decode cX12_mayGo 15 = .ok (.iload_n 3, 1) := by decide +kernel
theorem dX12_mayGo_16 : decode cX12_mayGo 16 = .ok (.if_icmp .ne 30, 3) := by decide +kernel
theorem dX12_mayGo_19 : decode cX12_mayGo 19 = .ok (.aload_n 0, 1) := by decide +kernel
theorem dX12_mayGo_20 : decode cX12_mayGo 20 = .ok (.getfield 75, 3) := by decide +kernel
theorem dX12_mayGo_23 : decode cX12_mayGo 23 = .ok (.iload_n 2, 1) := by decide +kernel
theorem dX12_mayGo_24 : decode cX12_mayGo 24 = .ok (.baload, 1) := by decide +kernel
theorem dX12_mayGo_25 : decode cX12_mayGo 25 = .ok (.ifCond .eq 21, 3) := by decide +kernel
theorem dX12_mayGo_28 : decode cX12_mayGo 28 = .ok (.aload_n 0, 1) := by decide +kernel
theorem dX12_mayGo_29 : decode cX12_mayGo 29 = .ok (.getfield 84, 3) := by decide +kernel
theorem dX12_mayGo_32 : decode cX12_mayGo 32 = .ok (.iload_n 1, 1) := by decide +kernel
theorem dX12_mayGo_33 : decode cX12_mayGo 33 = .ok (.iaload, 1) := by decide +kernel
theorem dX12_mayGo_34 : decode cX12_mayGo 34 = .ok (.iload_n 2, 1) := by decide +kernel
theorem dX12_mayGo_35 : decode cX12_mayGo 35 = .ok (.ishr, 1) := by decide +kernel
theorem dX12_mayGo_36 : decode cX12_mayGo 36 = .ok (.iconst 1, 1) := by decide +kernel
theorem dX12_mayGo_37 : decode cX12_mayGo 37 = .ok (.iand, 1) := by decide +kernel
theorem dX12_mayGo_38 : decode cX12_mayGo 38 = .ok (.iconst 1, 1) := by decide +kernel
theorem dX12_mayGo_39 : decode cX12_mayGo 39 = .ok (.if_icmp .ne 7, 3) := by decide +kernel
theorem dX12_mayGo_42 : decode cX12_mayGo 42 = .ok (.iconst 1, 1) := by decide +kernel
theorem dX12_mayGo_43 : decode cX12_mayGo 43 = .ok (.goto 4, 3) := by decide +kernel
theorem dX12_mayGo_46 : decode cX12_mayGo 46 = .ok (.iconst 0, 1) := by decide +kernel
theorem dX12_mayGo_47 : decode cX12_mayGo 47 = .ok (.ireturn, 1) := by decide +kernel
set_option maxRecDepth 20000 in
theorem ggX12_brings_X12_mayGo : GoodIn wsX12_brings wsX12_mayGo := goodIn_r _ [9, 10, 11, 12, 13, 14, 15, 16, 17, 18, 19, 20, 21, 22, 23, 24, 25, 26, 27, 28, 29, 30, 31, 32, 33, 34, 35, 36, 37, 38, 39, 40, 41, 42, 43, 44, 45, 46, 47, 48, 49, 50, 51, 52, 53, 54, 55] (by decide +kernel) (by decide +kernel)
set_option maxRecDepth 20000 in
theorem gX12_brings_X12_mayGo : GoodIn wsX12_brings (wsV RX12 190 RX12 yX12_mayGo wsX12_mayGo) := goodIn_app (goodIn_of _ (by decide +kernel)) ggX12_brings_X12_mayGo
theorem dX12_brings_0 : decode cX12_brings 0 = .ok (.iconst 0, 1) := by decide +kernel
theorem dX12_brings_1 : decode cX12_brings 1 = .ok (.istore 4, 2) := by decide +kernel
theorem dX12_brings_3 : decode cX12_brings 3 = .ok (.iload 4, 2) := by decide +kernel
theorem dX12_brings_5 : decode cX12_brings 5 = .ok (.bipush 16, 2) := by decide +kernel
theorem dX12_brings_7 : decode cX12_brings 7 = .ok (.if_icmp .ge 17, 3) := by decide +kernel
theorem dX12_brings_10 : decode cX12_brings 10 = .ok (.aload_n 0, 1) := by decide +kernel
theorem dX12_brings_11 : decode cX12_brings 11 = .ok (.getfield 93, 3) := by decide +kernel
theorem dX12_brings_14 : decode cX12_brings 14 = .ok (.iload 4, 2) := by decide +kernel
theorem dX12_brings_16 : decode cX12_brings 16 = .ok (.iconst 0, 1) := by decide +kernel
theorem dX12_brings_17 : decode cX12_brings 17 = .ok (.bastore, 1) := by decide +kernel
theorem dX12_brings_18 : decode cX12_brings 18 = .ok (.iinc 4 1, 3) := by decide +kernel
theorem dX12_brings_21 : decode cX12_brings 21 = .ok (.goto (-18), 3) := by decide +kernel
theorem dX12_brings_24 : decode cX12_brings 24 = .ok (.iconst 0, 1) := by decide +kernel
theorem dX12_brings_25 : decode cX12_brings 25 = .ok (.istore 4, 2) := by decide +kernel
theorem dX12_brings_27 : decode cX12_brings 27 = .ok (.iconst 0, 1) := by decide +kernel
theorem dX12_brings_28 : decode cX12_brings 28 = .ok (.istore 5, 2) := by decide +kernel
theorem dX12_brings_30 : decode cX12_brings 30 = .ok (.iload_n 1, 1) := by decide +kernel
theorem dX12_brings_31 : decode cX12_brings 31 = .ok (.istore 6, 2) := by decide +kernel
theorem dX12_brings_33 : decode cX12_brings 33 = .ok (.iload_n 3, 1) := by decide +kernel
theorem dX12_brings_34 : decode cX12_brings 34 = .ok (.istore 7, 2) := by decide +kernel
theorem dX12_brings_36 : decode cX12_brings 36 = .ok (.iload 7, 2) := by decide +kernel
theorem dX12_brings_38 : decode cX12_brings 38 = .ok (.bipush 16, 2) := by decide +kernel
theorem dX12_brings_40 : decode cX12_brings 40 = .ok (.if_icmp .ge 63, 3) := by decide +kernel
theorem dX12_brings_43 : decode cX12_brings 43 = .ok (.aload_n 0, 1) := by decide +kernel
theorem dX12_brings_44 : decode cX12_brings 44 = .ok (.getfield 93, 3) := by decide +kernel
theorem dX12_brings_47 : decode cX12_brings 47 = .ok (.iload 7, 2) := by decide +kernel
theorem dX12_brings_49 : decode cX12_brings 49 = .ok (.baload, 1) := by decide +kernel
theorem dX12_brings_50 : decode cX12_brings 50 = .ok (.ifCond .ne 47, 3) := by decide +kernel
theorem dX12_brings_53 : decode cX12_brings 53 = .ok (.aload_n 0, 1) := by decide +kernel
theorem dX12_brings_54 : decode cX12_brings 54 = .ok (.iload 6, 2) := by decide +kernel
theorem dX12_brings_56 : decode cX12_brings 56 = .ok (.iload 7, 2) := by decide +kernel
theorem dX12_brings_58 : decode cX12_brings 58 = .ok (.iload_n 2, 1) := by decide +kernel
theorem dX12_brings_59 : decode cX12_brings 59 = .ok (.invokevirtual 190, 3) := by decide +kernel
theorem dX12_brings_62 : decode cX12_brings 62 = .ok (.ifCond .ne 6, 3) := by decide +kernel
theorem dX12_brings_65 : decode cX12_brings 65 = .ok (.goto 32, 3) := by decide +kernel
theorem dX12_brings_68 : decode cX12_brings 68 = .ok (.aload_n 0, 1) := by decide +kernel
theorem dX12_brings_69 : decode cX12_brings 69 = .ok (.getfield 93, 3) := by decide +kernel
theorem dX12_brings_72 : decode cX12_brings 72 = .ok (.iload 7, 2) := by decide +kernel
theorem dX12_brings_74 : decode cX12_brings 74 = .ok (.iconst 1, 1) := by decide +kernel
theorem dX12_brings_75 : decode cX12_brings 75 = .ok (.bastore, 1) := by decide +kernel
theorem dX12_brings_76 : decode cX12_brings 76 = .ok (.aload_n 0, 1) := by decide +kernel
theorem dX12_brings_77 : decode cX12_brings 77 = .ok (.getfield 96, 3) := by decide +kernel
theorem dX12_brings_80 : decode cX12_brings 80 = .ok (.iload 7, 2) := by decide +kernel
theorem dX12_brings_82 : decode cX12_brings 82 = .ok (.iload 6, 2) := by decide +kernel
theorem dX12_brings_84 : decode cX12_brings 84 = .ok (.iastore, 1) := by decide +kernel
theorem dX12_brings_85 : decode cX12_brings 85 = .ok (.aload_n 0, 1) := by decide +kernel
theorem dX12_brings_86 : decode cX12_brings 86 = .ok (.getfield 99, 3) := by decide +kernel
theorem dX12_brings_89 : decode cX12_brings 89 = .ok (.iload 4, 2) := by decide +kernel
theorem dX12_brings_91 : decode cX12_brings 91 = .ok (.iload 7, 2) := by decide +kernel
theorem dX12_brings_93 : decode cX12_brings 93 = .ok (.iastore, 1) := by decide +kernel
theorem dX12_brings_94 : decode cX12_brings 94 = .ok (.iinc 4 1, 3) := by decide +kernel
theorem dX12_brings_97 : decode cX12_brings 97 = .ok (.iinc 7 1, 3) := by decide +kernel
theorem dX12_brings_100 : decode cX12_brings 100 = .ok (.goto (-64), 3) := by decide +kernel
theorem dX12_brings_103 : decode cX12_brings 103 = .ok (.iload 5, 2) := by decide +kernel
theorem dX12_brings_105 : decode cX12_brings 105 = .ok (.iload 4, 2) := by decide +kernel
theorem dX12_brings_107 : decode cX12_brings 107 = .ok (.if_icmp .ne 5, 3) := by decide +kernel
theorem dX12_brings_110 : decode cX12_brings 110 = .ok (.iconst 0, 1) := by decide +kernel
theorem dX12_brings_111 : decode cX12_brings 111 = .ok (.ireturn, 1) := by decide +kernel
theorem dX12_brings_112 : decode cX12_brings 112 = .ok (.aload_n 0, 1) := by decide +kernel
theorem dX12_brings_113 : decode cX12_brings 113 = .ok (.getfield 99, 3) := by decide +kernel
theorem dX12_brings_116 : decode cX12_brings 116 = .ok (.iload 5, 2) := by decide +kernel
theorem dX12_brings_118 : decode cX12_brings 118 = .ok (.iaload, 1) := by decide +kernel
theorem dX12_brings_119 : decode cX12_brings 119 = .ok (.istore 7, 2) := by decide +kernel
theorem dX12_brings_121 : decode cX12_brings 121 = .ok (.iinc 5 1, 3) := by decide +kernel
theorem dX12_brings_124 : decode cX12_brings 124 = .ok (.aload_n 0, 1) := by decide +kernel
theorem dX12_brings_125 : decode cX12_brings 125 = .ok (.getfield 87, 3) := by decide +kernel
theorem dX12_brings_128 : decode cX12_brings 128 = .ok (.iload 7, 2) := by decide +kernel
theorem dX12_brings_130 : decode cX12_brings 130 = .ok (.iaload, 1) := by decide +kernel
theorem dX12_brings_131 : decode cX12_brings 131 = .ok (.iconst (-1), 1) := by decide +kernel
theorem dX12_brings_132 : decode cX12_brings 132 = .ok (.if_icmp .eq 15, 3) := by decide +kernel
theorem dX12_brings_135 : decode cX12_brings 135 = .ok (.aload_n 0, 1) := by decide +kernel
theorem dX12_brings_136 : decode cX12_brings 136 = .ok (.getfield 87, 3) := by decide +kernel
theorem dX12_brings_139 : decode cX12_brings 139 = .ok (.iload 7, 2) := by decide +kernel
theorem dX12_brings_141 : decode cX12_brings 141 = .ok (.iaload, 1) := by decide +kernel
theorem dX12_brings_142 : decode cX12_brings 142 = .ok (.istore 6, 2) := by decide +kernel
theorem dX12_brings_144 : decode cX12_brings 144 = .ok (.goto (-111), 3) := by decide +kernel
theorem dX12_brings_147 : decode cX12_brings 147 = .ok (.iload 7, 2) := by decide +kernel
theorem dX12_brings_149 : decode cX12_brings 149 = .ok (.istore 8, 2) := by decide +kernel
theorem dX12_brings_151 : decode cX12_brings 151 = .ok (.iload 8, 2) := by decide +kernel
theorem dX12_brings_153 : decode cX12_brings 153 = .ok (.iconst (-1), 1) := by decide +kernel
theorem dX12_brings_154 : decode cX12_brings 154 = .ok (.if_icmp .eq 91, 3) := by decide +kernel
theorem dX12_brings_157 : decode cX12_brings 157 = .ok (.aload_n 0, 1) := by decide +kernel
theorem dX12_brings_158 : decode cX12_brings 158 = .ok (.getfield 96, 3) := by decide +kernel
theorem dX12_brings_161 : decode cX12_brings 161 = .ok (.iload 8, 2) := by decide +kernel
theorem dX12_brings_163 : decode cX12_brings 163 = .ok (.iaload, 1) := by decide +kernel
theorem dX12_brings_164 : decode cX12_brings 164 = .ok (.istore 9, 2) := by decide +kernel
theorem dX12_brings_166 : decode cX12_brings 166 = .ok (.iconst (-1), 1) := by decide +kernel
theorem dX12_brings_167 : decode cX12_brings 167 = .ok (.istore 10, 2) := by decide +kernel
theorem dX12_brings_169 : decode cX12_brings 169 = .ok (.iload_n 3, 1) := by decide +kernel
theorem dX12_brings_170 : decode cX12_brings 170 = .ok (.istore 11, 2) := by decide +kernel
theorem dX12_brings_172 : decode cX12_brings 172 = .ok (.iload 11, 2) := by decide +kernel
theorem dX12_brings_174 : decode cX12_brings 174 = .ok (.bipush 16, 2) := by decide +kernel
theorem dX12_brings_176 : decode cX12_brings 176 = .ok (.if_icmp .ge 43, 3) := by decide +kernel
theorem dX12_brings_179 : decode cX12_brings 179 = .ok (.iload 9, 2) := by decide +kernel
theorem dX12_brings_181 : decode cX12_brings 181 = .ok (.iload_n 1, 1) := by decide +kernel
theorem dX12_brings_182 : decode cX12_brings 182 = .ok (.if_icmp .eq 37, 3) := by decide +kernel
theorem dX12_brings_185 : decode cX12_brings 185 = .ok (.aload_n 0, 1) := by decide +kernel
theorem dX12_brings_186 : decode cX12_brings 186 = .ok (.getfield 87, 3) := by decide +kernel
theorem dX12_brings_189 : decode cX12_brings 189 = .ok (.iload 11, 2) := by decide +kernel
theorem dX12_brings_191 : decode cX12_brings 191 = .ok (.iaload, 1) := by decide +kernel
theorem dX12_brings_192 : decode cX12_brings 192 = .ok (.iload 9, 2) := by decide +kernel
theorem dX12_brings_194 : decode cX12_brings 194 = .ok (.if_icmp .ne 15, 3) := by decide +kernel
theorem dX12_brings_197 : decode cX12_brings 197 = .ok (.iload 11, 2) := by decide +kernel
theorem dX12_brings_199 : decode cX12_brings 199 = .ok (.iload 8, 2) := by decide +kernel
theorem dX12_brings_201 : decode cX12_brings 201 = .ok (.if_icmp .eq 8, 3) := by decide +kernel
theorem dX12_brings_204 : decode cX12_brings 204 = .ok (.iload 11, 2) := by decide +kernel
theorem dX12_brings_206 : decode cX12_brings 206 = .ok (.goto 5, 3) := by decide +kernel
theorem dX12_brings_209 : decode cX12_brings 209 = .ok (.iload 10, 2) := by decide +kernel
theorem dX12_brings_211 : decode cX12_brings 211 = .ok (.istore 10, 2) := by decide +kernel
theorem dX12_brings_213 : decode cX12_brings 213 = .ok (.iinc 11 1, 3) := by decide +kernel
theorem dX12_brings_216 : decode cX12_brings 216 = .ok (.goto (-44), 3) := by decide +kernel
theorem dX12_brings_219 : decode cX12_brings 219 = .ok (.aload_n 0, 1) := by decide +kernel
theorem dX12_brings_220 : decode cX12_brings 220 = .ok (.getfield 87, 3) := by decide +kernel
theorem dX12_brings_223 : decode cX12_brings 223 = .ok (.iload 8, 2) := by decide +kernel
theorem dX12_brings_225 : decode cX12_brings 225 = .ok (.iload 9, 2) := by decide +kernel
theorem dX12_brings_227 : decode cX12_brings 227 = .ok (.iastore, 1) := by decide +kernel
theorem dX12_brings_228 : decode cX12_brings 228 = .ok (.iload 9, 2) := by decide +kernel
theorem dX12_brings_230 : decode cX12_brings 230 = .ok (.iload_n 1, 1) := by decide +kernel
theorem dX12_brings_231 : decode cX12_brings 231 = .ok (.if_icmp .ne 7, 3) := by decide +kernel
theorem dX12_brings_234 : decode cX12_brings 234 = .ok (.iconst (-1), 1) := by decide +kernel
theorem dX12_brings_235 : decode cX12_brings 235 = .ok (.goto 5, 3) := by decide +kernel
theorem dX12_brings_238 : decode cX12_brings 238 = .ok (.iload 10, 2) := by decide +kernel
theorem dX12_brings_240 : decode cX12_brings 240 = .ok (.istore 8, 2) := by decide +kernel
theorem dX12_brings_242 : decode cX12_brings 242 = .ok (.goto (-91), 3) := by decide +kernel
theorem dX12_brings_245 : decode cX12_brings 245 = .ok (.iconst 1, 1) := by decide +kernel
theorem dX12_brings_246 : decode cX12_brings 246 = .ok (.ireturn, 1) := by decide +kernel
set_option maxRecDepth 20000 in
theorem ggX12_mostFrom_X12_brings : GoodIn wsX12_mostFrom wsX12_brings := goodIn_r _ [10, 11, 12, 13, 1, 14, 15, 16, 9, 17, 4, 5, 18, 19, 20, 21, 22, 23, 24, 25, 26, 27, 28, 29, 30, 31, 32, 33, 34, 35, 36, 37, 38, 39, 40, 41, 42, 43, 44, 45, 46, 47, 48, 49, 50, 51, 52, 53, 54, 55, 56, 57, 58, 59, 60, 61] (by decide +kernel) (by decide +kernel)
set_option maxRecDepth 20000 in
theorem gX12_mostFrom_X12_brings : GoodIn wsX12_mostFrom (wsV RX12 193 RX12 yX12_brings wsX12_brings) := goodIn_app (goodIn_of _ (by decide +kernel)) ggX12_mostFrom_X12_brings
theorem dX12_mostFrom_0 : decode cX12_mostFrom 0 = .ok (.iload_n 2, 1) := by decide +kernel
theorem dX12_mostFrom_1 : decode cX12_mostFrom 1 = .ok (.istore_n 3, 1) := by decide +kernel
theorem dX12_mostFrom_2 : decode cX12_mostFrom 2 = .ok (.iload_n 3, 1) := by decide +kernel
theorem dX12_mostFrom_3 : decode cX12_mostFrom 3 = .ok (.bipush 16, 2) := by decide +kernel
theorem dX12_mostFrom_5 : decode cX12_mostFrom 5 = .ok (.if_icmp .ge 16, 3) := by decide +kernel
theorem dX12_mostFrom_8 : decode cX12_mostFrom 8 = .ok (.aload_n 0, 1) := by decide +kernel
theorem dX12_mostFrom_9 : decode cX12_mostFrom 9 = .ok (.getfield 87, 3) := by decide +kernel
theorem dX12_mostFrom_12 : decode cX12_mostFrom 12 = .ok (.iload_n 3, 1) := by decide +kernel
theorem dX12_mostFrom_13 : decode cX12_mostFrom 13 = .ok (.iconst (-1), 1) := by decide +kernel
theorem dX12_mostFrom_14 : decode cX12_mostFrom 14 = .ok (.iastore, 1) := by decide +kernel
theorem dX12_mostFrom_15 : decode cX12_mostFrom 15 = .ok (.iinc 3 1, 3) := by decide +kernel
theorem dX12_mostFrom_18 : decode cX12_mostFrom 18 = .ok (.goto (-16), 3) := by decide +kernel
theorem dX12_mostFrom_21 : decode cX12_mostFrom 21 = .ok (.iconst 0, 1) := by decide +kernel
theorem dX12_mostFrom_22 : decode cX12_mostFrom 22 = .ok (.istore_n 3, 1) := by decide +kernel
theorem dX12_mostFrom_23 : decode cX12_mostFrom 23 = .ok (.iconst 0, 1) := by decide +kernel
theorem dX12_mostFrom_24 : decode cX12_mostFrom 24 = .ok (.istore 4, 2) := by decide +kernel
theorem dX12_mostFrom_26 : decode cX12_mostFrom 26 = .ok (.iload 4, 2) := by decide +kernel
theorem dX12_mostFrom_28 : decode cX12_mostFrom 28 = .ok (.aload_n 0, 1) := by decide +kernel
theorem dX12_mostFrom_29 : decode cX12_mostFrom 29 = .ok (.getfield 138, 3) := by decide +kernel
theorem dX12_mostFrom_32 : decode cX12_mostFrom 32 = .ok (.if_icmp .ge 54, 3) := by decide +kernel
theorem dX12_mostFrom_35 : decode cX12_mostFrom 35 = .ok (.aload_n 0, 1) := by decide +kernel
theorem dX12_mostFrom_36 : decode cX12_mostFrom 36 = .ok (.getfield 90, 3) := by decide +kernel
theorem dX12_mostFrom_39 : decode cX12_mostFrom 39 = .ok (.iload 4, 2) := by decide +kernel
theorem dX12_mostFrom_41 : decode cX12_mostFrom 41 = .ok (.baload, 1) := by decide +kernel
theorem dX12_mostFrom_42 : decode cX12_mostFrom 42 = .ok (.ifCond .ne 38, 3) := by decide +kernel
theorem dX12_mostFrom_45 : decode cX12_mostFrom 45 = .ok (.aload_n 0, 1) := by decide +kernel
theorem dX12_mostFrom_46 : decode cX12_mostFrom 46 = .ok (.getfield 81, 3) := by decide +kernel
theorem dX12_mostFrom_49 : decode cX12_mostFrom 49 = .ok (.iload 4, 2) := by decide +kernel
theorem dX12_mostFrom_51 : decode cX12_mostFrom 51 = .ok (.iaload, 1) := by decide +kernel
theorem dX12_mostFrom_52 : decode cX12_mostFrom 52 = .ok (.ifCond .le 28, 3) := by decide +kernel
theorem dX12_mostFrom_55 : decode cX12_mostFrom 55 = .ok (.aload_n 0, 1) := by decide +kernel
theorem dX12_mostFrom_56 : decode cX12_mostFrom 56 = .ok (.getfield 78, 3) := by decide +kernel
theorem dX12_mostFrom_59 : decode cX12_mostFrom 59 = .ok (.iload 4, 2) := by decide +kernel
theorem dX12_mostFrom_61 : decode cX12_mostFrom 61 = .ok (.iaload, 1) := by decide +kernel
theorem dX12_mostFrom_62 : decode cX12_mostFrom 62 = .ok (.iload_n 1, 1) := by decide +kernel
theorem dX12_mostFrom_63 : decode cX12_mostFrom 63 = .ok (.if_icmp .ne 17, 3) := by decide +kernel
theorem dX12_mostFrom_66 : decode cX12_mostFrom 66 = .ok (.aload_n 0, 1) := by decide +kernel
theorem dX12_mostFrom_67 : decode cX12_mostFrom 67 = .ok (.iload 4, 2) := by decide +kernel
theorem dX12_mostFrom_69 : decode cX12_mostFrom 69 = .ok (.iload_n 1, 1) := by decide +kernel
theorem dX12_mostFrom_70 : decode cX12_mostFrom 70 = .ok (.iload_n 2, 1) := by decide +kernel
theorem dX12_mostFrom_71 : decode cX12_mostFrom 71 = .ok (.invokevirtual 193, 3) := by decide +kernel
theorem dX12_mostFrom_74 : decode cX12_mostFrom 74 = .ok (.ifCond .eq 6, 3) := by decide +kernel
theorem dX12_mostFrom_77 : decode cX12_mostFrom 77 = .ok (.iinc 3 1, 3) := by decide +kernel
theorem dX12_mostFrom_80 : decode cX12_mostFrom 80 = .ok (.iinc 4 1, 3) := by decide +kernel
theorem dX12_mostFrom_83 : decode cX12_mostFrom 83 = .ok (.goto (-57), 3) := by decide +kernel
theorem dX12_mostFrom_86 : decode cX12_mostFrom 86 = .ok (.iload_n 3, 1) := by decide +kernel
theorem dX12_mostFrom_87 : decode cX12_mostFrom 87 = .ok (.ireturn, 1) := by decide +kernel
theorem dX12_none_0 : decode cX12_none 0 = .ok (.iconst 0, 1) := by decide +kernel
theorem dX12_none_1 : decode cX12_none 1 = .ok (.istore_n 1, 1) := by decide +kernel
theorem dX12_none_2 : decode cX12_none 2 = .ok (.iload_n 1, 1) := by decide +kernel
theorem dX12_none_3 : decode cX12_none 3 = .ok (.bipush 10, 2) := by decide +kernel
theorem dX12_none_5 : decode cX12_none 5 = .ok (.if_icmp .ge 16, 3) := by decide +kernel
theorem dX12_none_8 : decode cX12_none 8 = .ok (.aload_n 0, 1) := by decide +kernel
theorem dX12_none_9 : decode cX12_none 9 = .ok (.getfield 90, 3) := by decide +kernel
theorem dX12_none_12 : decode cX12_none 12 = .ok (.iload_n 1, 1) := by decide +kernel
theorem dX12_none_13 : decode cX12_none 13 = .ok (.iconst 0, 1) := by decide +kernel
theorem dX12_none_14 : decode cX12_none 14 = .ok (.bastore, 1) := by decide +kernel
theorem dX12_none_15 : decode cX12_none 15 = .ok (.iinc 1 1, 3) := by decide +kernel
theorem dX12_none_18 : decode cX12_none 18 = .ok (.goto (-16), 3) := by decide +kernel
theorem dX12_none_21 : decode cX12_none 21 = .ok (.return_, 1) := by decide +kernel
set_option maxRecDepth 20000 in
theorem ggX12_done_X12_none : GoodIn wsX12_done wsX12_none := goodIn_r _ [5, 6, 28, 29, 30, 31, 32, 33, 34, 35, 36, 37, 38, 39, 40, 41, 42, 43, 44, 45, 46, 47, 48, 49, 50, 51, 52, 53, 54, 55, 56, 57, 58, 59, 60, 61, 62, 63, 64, 65, 66, 67, 68, 69] (by decide +kernel) (by decide +kernel)
set_option maxRecDepth 20000 in
theorem gX12_done_X12_none : GoodIn wsX12_done (wsV RX12 196 RX12 yX12_none wsX12_none) := goodIn_app (goodIn_of _ (by decide +kernel)) ggX12_done_X12_none
set_option maxRecDepth 20000 in
theorem ggX12_done_X12_mostFrom : GoodIn wsX12_done wsX12_mostFrom := goodIn_r _ [10, 11, 12, 6, 13, 14, 15, 16, 17, 4, 18, 19, 20, 21, 22, 23, 24, 25, 26, 27, 28, 29, 30, 31, 32, 33, 34, 35, 36, 37, 38, 39, 40, 41, 42, 43, 44, 45, 46, 47, 48, 49, 50, 51, 52, 53, 54, 55, 56, 57, 58, 59, 60, 61, 62, 63, 64, 65, 66, 67, 68, 69] (by decide +kernel) (by decide +kernel)
set_option maxRecDepth 20000 in
theorem gX12_done_X12_mostFrom : GoodIn wsX12_done (wsV RX12 199 RX12 yX12_mostFrom wsX12_mostFrom) := goodIn_app (goodIn_of _ (by decide +kernel)) ggX12_done_X12_mostFrom
theorem dX12_done_0 : decode cX12_done 0 = .ok (.iconst 0, 1) := by decide +kernel
theorem dX12_done_1 : decode cX12_done 1 = .ok (.istore_n 1, 1) := by decide +kernel
theorem dX12_done_2 : decode cX12_done 2 = .ok (.aload_n 0, 1) := by decide +kernel
theorem dX12_done_3 : decode cX12_done 3 = .ok (.invokevirtual 196, 3) := by decide +kernel
theorem dX12_done_6 : decode cX12_done 6 = .ok (.iconst 0, 1) := by decide +kernel
theorem dX12_done_7 : decode cX12_done 7 = .ok (.istore_n 2, 1) := by decide +kernel
theorem dX12_done_8 : decode cX12_done 8 = .ok (.iload_n 2, 1) := by decide +kernel
theorem dX12_done_9 : decode cX12_done 9 = .ok (.iconst 4, 1) := by decide +kernel
theorem dX12_done_10 : decode cX12_done 10 = .ok (.if_icmp .ge 18, 3) := by decide +kernel
theorem dX12_done_13 : decode cX12_done 13 = .ok (.iload_n 1, 1) := by decide +kernel
theorem dX12_done_14 : decode cX12_done 14 = .ok (.aload_n 0, 1) := by decide +kernel
theorem dX12_done_15 : decode cX12_done 15 = .ok (.iload_n 2, 1) := by decide +kernel
theorem dX12_done_16 : decode cX12_done 16 = .ok (.iconst 0, 1) := by decide +kernel
theorem dX12_done_17 : decode cX12_done 17 = .ok (.invokevirtual 199, 3) := by decide +kernel
theorem dX12_done_20 : decode cX12_done 20 = .ok (.iadd, 1) := by decide +kernel
theorem dX12_done_21 : decode cX12_done 21 = .ok (.istore_n 1, 1) := by decide +kernel
theorem dX12_done_22 : decode cX12_done 22 = .ok (.iinc 2 1, 3) := by decide +kernel
theorem dX12_done_25 : decode cX12_done 25 = .ok (.goto (-17), 3) := by decide +kernel
theorem dX12_done_28 : decode cX12_done 28 = .ok (.iload_n 1, 1) := by decide +kernel
theorem dX12_done_29 : decode cX12_done 29 = .ok (.ireturn, 1) := by decide +kernel
set_option maxRecDepth 20000 in
theorem ggX12_goesOn_X12_mayGo : GoodIn wsX12_goesOn wsX12_mayGo := goodIn_r _ [8, 3, 9, 10, 11, 24, 25, 26, 27, 28, 29, 30, 31, 32, 33, 34, 35, 36, 37, 38, 39, 40, 41, 42, 43, 44, 45, 46, 47, 48, 49, 50, 51, 52, 53, 54, 55, 56, 57, 58, 59, 60, 61, 62, 63, 64, 65] (by decide +kernel) (by decide +kernel)
set_option maxRecDepth 20000 in
theorem gX12_goesOn_X12_mayGo : GoodIn wsX12_goesOn (wsV RX12 190 RX12 yX12_mayGo wsX12_mayGo) := goodIn_app (goodIn_of _ (by decide +kernel)) ggX12_goesOn_X12_mayGo
set_option maxRecDepth 20000 in
theorem ggX12_goesOn_X12_mostFrom : GoodIn wsX12_goesOn wsX12_mostFrom := goodIn_r _ [15, 16, 1, 2, 3, 9, 17, 18, 19, 7, 20, 21, 22, 23, 4, 5, 6, 8, 10, 11, 24, 25, 26, 27, 28, 29, 30, 31, 32, 33, 34, 35, 36, 37, 38, 39, 40, 41, 42, 43, 44, 45, 46, 47, 48, 49, 50, 51, 52, 53, 54, 55, 56, 57, 58, 59, 60, 61, 62, 63, 64, 65] (by decide +kernel) (by decide +kernel)
set_option maxRecDepth 20000 in
theorem gX12_goesOn_X12_mostFrom : GoodIn wsX12_goesOn (wsV RX12 199 RX12 yX12_mostFrom wsX12_mostFrom) := goodIn_app (goodIn_of _ (by decide +kernel)) ggX12_goesOn_X12_mostFrom
theorem dX12_goesOn_0 : decode cX12_goesOn 0 = .ok (.bipush (-2), 2) := by decide +kernel
theorem dX12_goesOn_2 : decode cX12_goesOn 2 = .ok (.istore 4, 2) := by decide +kernel
theorem dX12_goesOn_4 : decode cX12_goesOn 4 = .ok (.iconst 0, 1) := by decide +kernel
theorem dX12_goesOn_5 : decode cX12_goesOn 5 = .ok (.istore 5, 2) := by decide +kernel
theorem dX12_goesOn_7 : decode cX12_goesOn 7 = .ok (.iload 5, 2) := by decide +kernel
theorem dX12_goesOn_9 : decode cX12_goesOn 9 = .ok (.aload_n 0, 1) := by decide +kernel
theorem dX12_goesOn_10 : decode cX12_goesOn 10 = .ok (.getfield 138, 3) := by decide +kernel
theorem dX12_goesOn_13 : decode cX12_goesOn 13 = .ok (.if_icmp .ge 89, 3) := by decide +kernel
theorem dX12_goesOn_16 : decode cX12_goesOn 16 = .ok (.aload_n 0, 1) := by decide +kernel
theorem dX12_goesOn_17 : decode cX12_goesOn 17 = .ok (.getfield 90, 3) := by decide +kernel
theorem dX12_goesOn_20 : decode cX12_goesOn 20 = .ok (.iload 5, 2) := by decide +kernel
theorem dX12_goesOn_22 : decode cX12_goesOn 22 = .ok (.baload, 1) := by decide +kernel
theorem dX12_goesOn_23 : decode cX12_goesOn 23 = .ok (.ifCond .ne 73, 3) := by decide +kernel
theorem dX12_goesOn_26 : decode cX12_goesOn 26 = .ok (.aload_n 0, 1) := by decide +kernel
theorem dX12_goesOn_27 : decode cX12_goesOn 27 = .ok (.iload 5, 2) := by decide +kernel
theorem dX12_goesOn_29 : decode cX12_goesOn 29 = .ok (.iload_n 1, 1) := by decide +kernel
theorem dX12_goesOn_30 : decode cX12_goesOn 30 = .ok (.iload_n 2, 1) := by decide +kernel
theorem dX12_goesOn_31 : decode cX12_goesOn 31 = .ok (.invokevirtual 190, 3) := by decide +kernel
theorem dX12_goesOn_34 : decode cX12_goesOn 34 = .ok (.ifCond .eq 62, 3) := by decide +kernel
theorem dX12_goesOn_37 : decode cX12_goesOn 37 = .ok (.iload 4, 2) := by decide +kernel
theorem dX12_goesOn_39 : decode cX12_goesOn 39 = .ok (.ifCond .lt 23, 3) := by decide +kernel
theorem dX12_goesOn_42 : decode cX12_goesOn 42 = .ok (.aload_n 0, 1) := by decide +kernel
theorem dX12_goesOn_43 : decode cX12_goesOn 43 = .ok (.getfield 81, 3) := by decide +kernel
theorem dX12_goesOn_46 : decode cX12_goesOn 46 = .ok (.iload 5, 2) := by decide +kernel
theorem dX12_goesOn_48 : decode cX12_goesOn 48 = .ok (.iaload, 1) := by decide +kernel
theorem dX12_goesOn_49 : decode cX12_goesOn 49 = .ok (.aload_n 0, 1) := by decide +kernel
theorem dX12_goesOn_50 : decode cX12_goesOn 50 = .ok (.getfield 81, 3) := by decide +kernel
theorem dX12_goesOn_53 : decode cX12_goesOn 53 = .ok (.iload 4, 2) := by decide +kernel
theorem dX12_goesOn_55 : decode cX12_goesOn 55 = .ok (.iaload, 1) := by decide +kernel
theorem dX12_goesOn_56 : decode cX12_goesOn 56 = .ok (.if_icmp .lt 6, 3) := by decide +kernel
theorem dX12_goesOn_59 : decode cX12_goesOn 59 = .ok (.goto 37, 3) := by decide +kernel
theorem dX12_goesOn_62 : decode cX12_goesOn 62 = .ok (.aload_n 0, 1) := by decide +kernel
theorem dX12_goesOn_63 : decode cX12_goesOn 63 = .ok (.getfield 90, 3) := by decide +kernel
theorem dX12_goesOn_66 : decode cX12_goesOn 66 = .ok (.iload 5, 2) := by decide +kernel
theorem dX12_goesOn_68 : decode cX12_goesOn 68 = .ok (.iconst 1, 1) := by decide +kernel
theorem dX12_goesOn_69 : decode cX12_goesOn 69 = .ok (.bastore, 1) := by decide +kernel
theorem dX12_goesOn_70 : decode cX12_goesOn 70 = .ok (.iconst 1, 1) := by decide +kernel
theorem dX12_goesOn_71 : decode cX12_goesOn 71 = .ok (.aload_n 0, 1) := by decide +kernel
theorem dX12_goesOn_72 : decode cX12_goesOn 72 = .ok (.iload_n 2, 1) := by decide +kernel
theorem dX12_goesOn_73 : decode cX12_goesOn 73 = .ok (.iload_n 1, 1) := by decide +kernel
theorem dX12_goesOn_74 : decode cX12_goesOn 74 = .ok (.iconst 1, 1) := by decide +kernel
theorem dX12_goesOn_75 : decode cX12_goesOn 75 = .ok (.iadd, 1) := by decide +kernel
theorem dX12_goesOn_76 : decode cX12_goesOn 76 = .ok (.invokevirtual 199, 3) := by decide +kernel
theorem dX12_goesOn_79 : decode cX12_goesOn 79 = .ok (.iadd, 1) := by decide +kernel
theorem dX12_goesOn_80 : decode cX12_goesOn 80 = .ok (.iload_n 3, 1) := by decide +kernel
theorem dX12_goesOn_81 : decode cX12_goesOn 81 = .ok (.if_icmp .ne 7, 3) := by decide +kernel
theorem dX12_goesOn_84 : decode cX12_goesOn 84 = .ok (.iload 5, 2) := by decide +kernel
theorem dX12_goesOn_86 : decode cX12_goesOn 86 = .ok (.istore 4, 2) := by decide +kernel
theorem dX12_goesOn_88 : decode cX12_goesOn 88 = .ok (.aload_n 0, 1) := by decide +kernel
theorem dX12_goesOn_89 : decode cX12_goesOn 89 = .ok (.getfield 90, 3) := by decide +kernel
theorem dX12_goesOn_92 : decode cX12_goesOn 92 = .ok (.iload 5, 2) := by decide +kernel
theorem dX12_goesOn_94 : decode cX12_goesOn 94 = .ok (.iconst 0, 1) := by decide +kernel
theorem dX12_goesOn_95 : decode cX12_goesOn 95 = .ok (.bastore, 1) := by decide +kernel
theorem dX12_goesOn_96 : decode cX12_goesOn 96 = .ok (.iinc 5 1, 3) := by decide +kernel
theorem dX12_goesOn_99 : decode cX12_goesOn 99 = .ok (.goto (-92), 3) := by decide +kernel
theorem dX12_goesOn_102 : decode cX12_goesOn 102 = .ok (.iload 4, 2) := by decide +kernel
theorem dX12_goesOn_104 : decode cX12_goesOn 104 = .ok (.ireturn, 1) := by decide +kernel
set_option maxRecDepth 20000 in
theorem ggX12_goes_X12_in : GoodIn wsX12_goes wsX12_in := goodIn_r _ [5] (by decide +kernel) (by decide +kernel)
set_option maxRecDepth 20000 in
theorem gX12_goes_X12_in : GoodIn wsX12_goes (va_wsS RX12 123 yX12_in wsX12_in) := goodIn_app (goodIn_of _ (by decide +kernel)) ggX12_goes_X12_in
set_option maxRecDepth 20000 in
theorem ggX12_goes_X12_none : GoodIn wsX12_goes wsX12_none := goodIn_r _ [9, 1, 35, 36, 37, 38, 39, 40, 41, 42, 43, 44, 45, 46, 47, 48, 49, 50, 51, 52, 53, 54, 55, 56, 57, 58, 59, 60, 61, 62, 63, 64, 65, 66, 67, 68, 69, 70, 71, 72, 73, 74, 75, 76] (by decide +kernel) (by decide +kernel)
set_option maxRecDepth 20000 in
theorem gX12_goes_X12_none : GoodIn wsX12_goes (wsV RX12 196 RX12 yX12_none wsX12_none) := goodIn_app (goodIn_of _ (by decide +kernel)) ggX12_goes_X12_none
set_option maxRecDepth 20000 in
theorem ggX12_goes_X12_mostFrom : GoodIn wsX12_goes wsX12_mostFrom := goodIn_r _ [13, 14, 15, 1, 16, 17, 18, 19, 20, 4, 21, 22, 23, 24, 25, 26, 27, 28, 29, 30, 35, 36, 37, 38, 39, 40, 41, 42, 43, 44, 45, 46, 47, 48, 49, 50, 51, 52, 53, 54, 55, 56, 57, 58, 59, 60, 61, 62, 63, 64, 65, 66, 67, 68, 69, 70, 71, 72, 73, 74, 75, 76] (by decide +kernel) (by decide +kernel)
set_option maxRecDepth 20000 in
theorem gX12_goes_X12_mostFrom : GoodIn wsX12_goes (wsV RX12 199 RX12 yX12_mostFrom wsX12_mostFrom) := goodIn_app (goodIn_of _ (by decide +kernel)) ggX12_goes_X12_mostFrom
set_option maxRecDepth 20000 in
theorem ggX12_goes_X12_goesOn : GoodIn wsX12_goes wsX12_goesOn := goodIn_r _ [34, 15, 1, 16, 25, 26, 27, 4, 28, 17, 29, 30, 10, 11, 12, 13, 14, 18, 19, 20, 21, 22, 23, 24, 35, 36, 37, 38, 39, 40, 41, 42, 43, 44, 45, 46, 47, 48, 49, 50, 51, 52, 53, 54, 55, 56, 57, 58, 59, 60, 61, 62, 63, 64, 65, 66, 67, 68, 69, 70, 71, 72, 73, 74, 75, 76] (by decide +kernel) (by decide +kernel)
set_option maxRecDepth 20000 in
theorem gX12_goes_X12_goesOn : GoodIn wsX12_goes (wsV RX12 202 RX12 yX12_goesOn wsX12_goesOn) := goodIn_app (goodIn_of _ (by decide +kernel)) ggX12_goes_X12_goesOn
theorem dX12_goes_0 : decode cX12_goes 0 = .ok (.iload_n 1, 1) := by decide +kernel
theorem dX12_goes_1 : decode cX12_goes 1 = .ok (.iconst 0, 1) := by decide +kernel
theorem dX12_goes_2 : decode cX12_goes 2 = .ok (.bipush 15, 2) := by decide +kernel
theorem dX12_goes_4 : decode cX12_goes 4 = .ok (.invokestatic 123, 3) := by decide +kernel
theorem dX12_goes_7 : decode cX12_goes 7 = .ok (.ifCond .eq 12, 3) := by decide +kernel
theorem dX12_goes_10 : decode cX12_goes 10 = .ok (.iload_n 2, 1) := by decide +kernel
theorem dX12_goes_11 : decode cX12_goes 11 = .ok (.iconst 0, 1) := by decide +kernel
theorem dX12_goes_12 : decode cX12_goes 12 = .ok (.iconst 3, 1) := by decide +kernel
theorem dX12_goes_13 : decode cX12_goes 13 = .ok (.invokestatic 123, 3) := by decide +kernel
theorem dX12_goes_16 : decode cX12_goes 16 = .ok (.ifCond .ne 5, 3) := by decide +kernel
theorem dX12_goes_19 : decode cX12_goes 19 = .ok (.iconst (-1), 1) := by decide +kernel
theorem dX12_goes_20 : decode cX12_goes 20 = .ok (.ireturn, 1) := by decide +kernel
theorem dX12_goes_21 : decode cX12_goes 21 = .ok (.aload_n 0, 1) := by decide +kernel
theorem dX12_goes_22 : decode cX12_goes 22 = .ok (.invokevirtual 196, 3) := by decide +kernel
theorem dX12_goes_25 : decode cX12_goes 25 = .ok (.aload_n 0, 1) := by decide +kernel
theorem dX12_goes_26 : decode cX12_goes 26 = .ok (.iload_n 2, 1) := by decide +kernel
theorem dX12_goes_27 : decode cX12_goes 27 = .ok (.iconst 0, 1) := by decide +kernel
theorem dX12_goes_28 : decode cX12_goes 28 = .ok (.invokevirtual 199, 3) := by decide +kernel
theorem dX12_goes_31 : decode cX12_goes 31 = .ok (.istore_n 3, 1) := by decide +kernel
theorem dX12_goes_32 : decode cX12_goes 32 = .ok (.bipush (-2), 2) := by decide +kernel
theorem dX12_goes_34 : decode cX12_goes 34 = .ok (.istore 4, 2) := by decide +kernel
theorem dX12_goes_36 : decode cX12_goes 36 = .ok (.iconst 0, 1) := by decide +kernel
theorem dX12_goes_37 : decode cX12_goes 37 = .ok (.istore 5, 2) := by decide +kernel
theorem dX12_goes_39 : decode cX12_goes 39 = .ok (.iload 5, 2) := by decide +kernel
theorem dX12_goes_41 : decode cX12_goes 41 = .ok (.iload_n 1, 1) := by decide +kernel
theorem dX12_goes_42 : decode cX12_goes 42 = .ok (.if_icmp .gt 35, 3) := by decide +kernel
theorem dX12_goes_45 : decode cX12_goes 45 = .ok (.aload_n 0, 1) := by decide +kernel
theorem dX12_goes_46 : decode cX12_goes 46 = .ok (.iload 5, 2) := by decide +kernel
theorem dX12_goes_48 : decode cX12_goes 48 = .ok (.iload_n 2, 1) := by decide +kernel
theorem dX12_goes_49 : decode cX12_goes 49 = .ok (.iload_n 3, 1) := by decide +kernel
theorem dX12_goes_50 : decode cX12_goes 50 = .ok (.invokevirtual 202, 3) := by decide +kernel
theorem dX12_goes_53 : decode cX12_goes 53 = .ok (.istore 4, 2) := by decide +kernel
theorem dX12_goes_55 : decode cX12_goes 55 = .ok (.iload 4, 2) := by decide +kernel
theorem dX12_goes_57 : decode cX12_goes 57 = .ok (.ifCond .lt 14, 3) := by decide +kernel
theorem dX12_goes_60 : decode cX12_goes 60 = .ok (.aload_n 0, 1) := by decide +kernel
theorem dX12_goes_61 : decode cX12_goes 61 = .ok (.getfield 90, 3) := by decide +kernel
theorem dX12_goes_64 : decode cX12_goes 64 = .ok (.iload 4, 2) := by decide +kernel
theorem dX12_goes_66 : decode cX12_goes 66 = .ok (.iconst 1, 1) := by decide +kernel
theorem dX12_goes_67 : decode cX12_goes 67 = .ok (.bastore, 1) := by decide +kernel
theorem dX12_goes_68 : decode cX12_goes 68 = .ok (.iinc 3 (-1), 3) := by decide +kernel
theorem dX12_goes_71 : decode cX12_goes 71 = .ok (.iinc 5 1, 3) := by decide +kernel
theorem dX12_goes_74 : decode cX12_goes 74 = .ok (.goto (-35), 3) := by decide +kernel
theorem dX12_goes_77 : decode cX12_goes 77 = .ok (.iload 4, 2) := by decide +kernel
theorem dX12_goes_79 : decode cX12_goes 79 = .ok (.ireturn, 1) := by decide +kernel
theorem dX12_count_0 : decode cX12_count 0 = .ok (.iconst 0, 1) := by decide +kernel
theorem dX12_count_1 : decode cX12_count 1 = .ok (.istore_n 2, 1) := by decide +kernel
theorem dX12_count_2 : decode cX12_count 2 = .ok (.iload_n 1, 1) := by decide +kernel
theorem dX12_count_3 : decode cX12_count 3 = .ok (.tableswitch 124 0 5 #[37, 42, 76, 81, 86, 91], 37) := by decide +kernel
theorem dX12_count_40 : decode cX12_count 40 = .ok (.aload_n 0, 1) := by decide +kernel
theorem dX12_count_41 : decode cX12_count 41 = .ok (.getfield 138, 3) := by decide +kernel
theorem dX12_count_44 : decode cX12_count 44 = .ok (.ireturn, 1) := by decide +kernel
theorem dX12_count_45 : decode cX12_count 45 = .ok (.iconst 0, 1) := by decide +kernel
theorem dX12_count_46 : decode cX12_count 46 = .ok (.istore_n 3, 1) := by decide +kernel
theorem dX12_count_47 : decode cX12_count 47 = .ok (.iload_n 3, 1) := by decide +kernel
theorem dX12_count_48 : decode cX12_count 48 = .ok (.sipush 288, 3) := by decide +kernel
theorem dX12_count_51 : decode cX12_count 51 = .ok (.if_icmp .ge 26, 3) := by decide +kernel
theorem dX12_count_54 : decode cX12_count 54 = .ok (.iload_n 2, 1) := by decide +kernel
theorem dX12_count_55 : decode cX12_count 55 = .ok (.aload_n 0, 1) := by decide +kernel
theorem dX12_count_56 : decode cX12_count 56 = .ok (.getfield 7, 3) := by decide +kernel
theorem dX12_count_59 : decode cX12_count 59 = .ok (.iload_n 3, 1) := by decide +kernel
theorem dX12_count_60 : decode cX12_count 60 = .ok (.baload, 1) := by decide +kernel
theorem dX12_count_61 : decode cX12_count 61 = .ok (.ifCond .eq 7, 3) := by decide +kernel
theorem dX12_count_64 : decode cX12_count 64 = .ok (.iconst 1, 1) := by decide +kernel
theorem dX12_count_65 : decode cX12_count 65 = .ok (.goto 4, 3) := by decide +kernel
theorem dX12_count_68 : decode cX12_count 68 = .ok (.iconst 0, 1) := by decide +kernel
theorem dX12_count_69 : decode cX12_count 69 = .ok (.iadd, 1) := by decide +kernel
theorem dX12_count_70 : decode cX12_count 70 = .ok (.istore_n 2, 1) := by decide +kernel
theorem dX12_count_71 : decode cX12_count 71 = .ok (.iinc 3 1, 3) := by decide +kernel
theorem dX12_count_74 : decode cX12_count 74 = .ok (.goto (-27), 3) := by decide +kernel
theorem dX12_count_77 : decode cX12_count 77 = .ok (.iload_n 2, 1) := by decide +kernel
theorem dX12_count_78 : decode cX12_count 78 = .ok (.ireturn, 1) := by decide +kernel
theorem dX12_count_79 : decode cX12_count 79 = .ok (.aload_n 0, 1) := by decide +kernel
theorem dX12_count_80 : decode cX12_count 80 = .ok (.getfield 168, 3) := by decide +kernel
theorem dX12_count_83 : decode cX12_count 83 = .ok (.ireturn, 1) := by decide +kernel
theorem dX12_count_84 : decode cX12_count 84 = .ok (.aload_n 0, 1) := by decide +kernel
theorem dX12_count_85 : decode cX12_count 85 = .ok (.getfield 177, 3) := by decide +kernel
theorem dX12_count_88 : decode cX12_count 88 = .ok (.ireturn, 1) := by decide +kernel
theorem dX12_count_89 : decode cX12_count 89 = .ok (.aload_n 0, 1) := by decide +kernel
theorem dX12_count_90 : decode cX12_count 90 = .ok (.getfield 186, 3) := by decide +kernel
theorem dX12_count_93 : decode cX12_count 93 = .ok (.ireturn, 1) := by decide +kernel
theorem dX12_count_94 : decode cX12_count 94 = .ok (.iconst 0, 1) := by decide +kernel
theorem dX12_count_95 : decode cX12_count 95 = .ok (.istore_n 3, 1) := by decide +kernel
theorem dX12_count_96 : decode cX12_count 96 = .ok (.iload_n 3, 1) := by decide +kernel
theorem dX12_count_97 : decode cX12_count 97 = .ok (.bipush 16, 2) := by decide +kernel
theorem dX12_count_99 : decode cX12_count 99 = .ok (.if_icmp .ge 26, 3) := by decide +kernel
theorem dX12_count_102 : decode cX12_count 102 = .ok (.iload_n 2, 1) := by decide +kernel
theorem dX12_count_103 : decode cX12_count 103 = .ok (.aload_n 0, 1) := by decide +kernel
theorem dX12_count_104 : decode cX12_count 104 = .ok (.getfield 75, 3) := by decide +kernel
theorem dX12_count_107 : decode cX12_count 107 = .ok (.iload_n 3, 1) := by decide +kernel
theorem dX12_count_108 : decode cX12_count 108 = .ok (.baload, 1) := by decide +kernel
theorem dX12_count_109 : decode cX12_count 109 = .ok (.ifCond .eq 7, 3) := by decide +kernel
theorem dX12_count_112 : decode cX12_count 112 = .ok (.iconst 1, 1) := by decide +kernel
theorem dX12_count_113 : decode cX12_count 113 = .ok (.goto 4, 3) := by decide +kernel
theorem dX12_count_116 : decode cX12_count 116 = .ok (.iconst 0, 1) := by decide +kernel
theorem dX12_count_117 : decode cX12_count 117 = .ok (.iadd, 1) := by decide +kernel
theorem dX12_count_118 : decode cX12_count 118 = .ok (.istore_n 2, 1) := by decide +kernel
theorem dX12_count_119 : decode cX12_count 119 = .ok (.iinc 3 1, 3) := by decide +kernel
theorem dX12_count_122 : decode cX12_count 122 = .ok (.goto (-26), 3) := by decide +kernel
theorem dX12_count_125 : decode cX12_count 125 = .ok (.iload_n 2, 1) := by decide +kernel
theorem dX12_count_126 : decode cX12_count 126 = .ok (.ireturn, 1) := by decide +kernel
theorem dX12_count_127 : decode cX12_count 127 = .ok (.iconst (-1), 1) := by decide +kernel
theorem dX12_count_128 : decode cX12_count 128 = .ok (.ireturn, 1) := by decide +kernel
set_option maxRecDepth 20000 in
theorem ggX12_isShelf_X12_in : GoodIn wsX12_isShelf wsX12_in := goodIn_r _ [4] (by decide +kernel) (by decide +kernel)
set_option maxRecDepth 20000 in
theorem gX12_isShelf_X12_in : GoodIn wsX12_isShelf (va_wsS RX12 123 yX12_in wsX12_in) := goodIn_app (goodIn_of _ (by decide +kernel)) ggX12_isShelf_X12_in
theorem dX12_isShelf_0 : decode cX12_isShelf 0 = .ok (.iload_n 0, 1) := by decide +kernel
theorem dX12_isShelf_1 : decode cX12_isShelf 1 = .ok (.iconst 0, 1) := by decide +kernel
theorem dX12_isShelf_2 : decode cX12_isShelf 2 = .ok (.bipush 7, 2) := by decide +kernel
theorem dX12_isShelf_4 : decode cX12_isShelf 4 = .ok (.invokestatic 123, 3) := by decide +kernel
theorem dX12_isShelf_7 : decode cX12_isShelf 7 = .ok (.ireturn, 1) := by decide +kernel
theorem dX12_weightOf_0 : decode cX12_weightOf 0 = .ok (.bipush 10, 2) := by decide +kernel
theorem dX12_weightOf_2 : decode cX12_weightOf 2 = .ok (.aload_n 0, 1) := by decide +kernel
theorem dX12_weightOf_3 : decode cX12_weightOf 3 = .ok (.getfield 30, 3) := by decide +kernel
theorem dX12_weightOf_6 : decode cX12_weightOf 6 = .ok (.iload_n 1, 1) := by decide +kernel
theorem dX12_weightOf_7 : decode cX12_weightOf 7 = .ok (.iaload, 1) := by decide +kernel
theorem dX12_weightOf_8 : decode cX12_weightOf 8 = .ok (.iadd, 1) := by decide +kernel
theorem dX12_weightOf_9 : decode cX12_weightOf 9 = .ok (.aload_n 0, 1) := by decide +kernel
theorem dX12_weightOf_10 : decode cX12_weightOf 10 = .ok (.getfield 36, 3) := by decide +kernel
theorem dX12_weightOf_13 : decode cX12_weightOf 13 = .ok (.iload_n 1, 1) := by decide +kernel
theorem dX12_weightOf_14 : decode cX12_weightOf 14 = .ok (.iaload, 1) := by decide +kernel
theorem dX12_weightOf_15 : decode cX12_weightOf 15 = .ok (.iadd, 1) := by decide +kernel
theorem dX12_weightOf_16 : decode cX12_weightOf 16 = .ok (.istore_n 2, 1) := by decide +kernel
theorem dX12_weightOf_17 : decode cX12_weightOf 17 = .ok (.aload_n 0, 1) := by decide +kernel
theorem dX12_weightOf_18 : decode cX12_weightOf 18 = .ok (.getfield 27, 3) := by decide +kernel
theorem dX12_weightOf_21 : decode cX12_weightOf 21 = .ok (.iload_n 1, 1) := by decide +kernel
theorem dX12_weightOf_22 : decode cX12_weightOf 22 = .ok (.iaload, 1) := by decide +kernel
theorem dX12_weightOf_23 : decode cX12_weightOf 23 = .ok (.ifCond .ne 7, 3) := by decide +kernel
theorem dX12_weightOf_26 : decode cX12_weightOf 26 = .ok (.iload_n 2, 1) := by decide +kernel
theorem dX12_weightOf_27 : decode cX12_weightOf 27 = .ok (.goto 47, 3) := by decide +kernel
theorem dX12_weightOf_30 : decode cX12_weightOf 30 = .ok (.aload_n 0, 1) := by decide +kernel
theorem dX12_weightOf_31 : decode cX12_weightOf 31 = .ok (.getfield 27, 3) := by decide +kernel
theorem dX12_weightOf_34 : decode cX12_weightOf 34 = .ok (.iload_n 1, 1) := by decide +kernel
theorem dX12_weightOf_35 : decode cX12_weightOf 35 = .ok (.iaload, 1) := by decide +kernel
theorem dX12_weightOf_36 : decode cX12_weightOf 36 = .ok (.iconst 2, 1) := by decide +kernel
theorem dX12_weightOf_37 : decode cX12_weightOf 37 = .ok (.if_icmp .ne 14, 3) := by decide +kernel
theorem dX12_weightOf_40 : decode cX12_weightOf 40 = .ok (.iload_n 2, 1) := by decide +kernel
theorem dX12_weightOf_41 : decode cX12_weightOf 41 = .ok (.aload_n 0, 1) := by decide +kernel
theorem dX12_weightOf_42 : decode cX12_weightOf 42 = .ok (.getfield 33, 3) := by decide +kernel
theorem dX12_weightOf_45 : decode cX12_weightOf 45 = .ok (.iload_n 1, 1) := by decide +kernel
theorem dX12_weightOf_46 : decode cX12_weightOf 46 = .ok (.iaload, 1) := by decide +kernel
theorem dX12_weightOf_47 : decode cX12_weightOf 47 = .ok (.iadd, 1) := by decide +kernel
theorem dX12_weightOf_48 : decode cX12_weightOf 48 = .ok (.goto 26, 3) := by decide +kernel
theorem dX12_weightOf_51 : decode cX12_weightOf 51 = .ok (.aload_n 0, 1) := by decide +kernel
theorem dX12_weightOf_52 : decode cX12_weightOf 52 = .ok (.getfield 27, 3) := by decide +kernel
theorem dX12_weightOf_55 : decode cX12_weightOf 55 = .ok (.iload_n 1, 1) := by decide +kernel
theorem dX12_weightOf_56 : decode cX12_weightOf 56 = .ok (.iaload, 1) := by decide +kernel
theorem dX12_weightOf_57 : decode cX12_weightOf 57 = .ok (.iconst 1, 1) := by decide +kernel
theorem dX12_weightOf_58 : decode cX12_weightOf 58 = .ok (.if_icmp .ne 10, 3) := by decide +kernel
theorem dX12_weightOf_61 : decode cX12_weightOf 61 = .ok (.iload_n 2, 1) := by decide +kernel
theorem dX12_weightOf_62 : decode cX12_weightOf 62 = .ok (.bipush 100, 2) := by decide +kernel
theorem dX12_weightOf_64 : decode cX12_weightOf 64 = .ok (.iadd, 1) := by decide +kernel
theorem dX12_weightOf_65 : decode cX12_weightOf 65 = .ok (.goto 9, 3) := by decide +kernel
theorem dX12_weightOf_68 : decode cX12_weightOf 68 = .ok (.iconst 2, 1) := by decide +kernel
theorem dX12_weightOf_69 : decode cX12_weightOf 69 = .ok (.iload_n 2, 1) := by decide +kernel
theorem dX12_weightOf_70 : decode cX12_weightOf 70 = .ok (.bipush 100, 2) := by decide +kernel
theorem dX12_weightOf_72 : decode cX12_weightOf 72 = .ok (.iadd, 1) := by decide +kernel
theorem dX12_weightOf_73 : decode cX12_weightOf 73 = .ok (.imul, 1) := by decide +kernel
theorem dX12_weightOf_74 : decode cX12_weightOf 74 = .ok (.ireturn, 1) := by decide +kernel
set_option maxRecDepth 20000 in
theorem ggX12_keep_X12_isShelf : GoodIn wsX12_keep wsX12_isShelf := goodIn_r _ [17, 18, 19, 16, 20] (by decide +kernel) (by decide +kernel)
set_option maxRecDepth 20000 in
theorem gX12_keep_X12_isShelf : GoodIn wsX12_keep (va_wsS RX12 206 yX12_isShelf wsX12_isShelf) := goodIn_app (goodIn_of _ (by decide +kernel)) ggX12_keep_X12_isShelf
set_option maxRecDepth 20000 in
theorem ggX12_keep_X12_in : GoodIn wsX12_keep wsX12_in := goodIn_r _ [20] (by decide +kernel) (by decide +kernel)
set_option maxRecDepth 20000 in
theorem gX12_keep_X12_in : GoodIn wsX12_keep (va_wsS RX12 123 yX12_in wsX12_in) := goodIn_app (goodIn_of _ (by decide +kernel)) ggX12_keep_X12_in
set_option maxRecDepth 20000 in
theorem ggX12_keep_X12_isSwimmer : GoodIn wsX12_keep wsX12_isSwimmer := goodIn_r _ [24, 25, 18, 19, 16, 20, 33, 34, 35, 36, 37, 38, 39, 40, 41, 42, 43, 44, 45, 46, 47, 48, 49, 50, 51, 52, 53, 54, 55, 56, 57, 58, 59, 60, 61, 62, 63, 64, 65, 66, 67, 68, 69, 70, 71, 72, 73, 74] (by decide +kernel) (by decide +kernel)
set_option maxRecDepth 20000 in
theorem gX12_keep_X12_isSwimmer : GoodIn wsX12_keep (wsV RX12 141 RX12 yX12_isSwimmer wsX12_isSwimmer) := goodIn_app (goodIn_of _ (by decide +kernel)) ggX12_keep_X12_isSwimmer
set_option maxRecDepth 20000 in
theorem ggX12_keep_X12_weightOf : GoodIn wsX12_keep wsX12_weightOf := goodIn_r _ [29, 30, 31, 4, 32, 33, 34, 35, 36, 37, 38, 39, 40, 41, 42, 43, 44, 45, 46, 47, 48, 49, 50, 51, 52, 53, 54, 55, 56, 57, 58, 59, 60, 61, 62, 63, 64, 65, 66, 67, 68, 69, 70, 71, 72, 73, 74] (by decide +kernel) (by decide +kernel)
set_option maxRecDepth 20000 in
theorem gX12_keep_X12_weightOf : GoodIn wsX12_keep (wsV RX12 209 RX12 yX12_weightOf wsX12_weightOf) := goodIn_app (goodIn_of _ (by decide +kernel)) ggX12_keep_X12_weightOf
theorem dX12_keep_0 : decode cX12_keep 0 = .ok (.iload_n 1, 1) := by decide +kernel
theorem dX12_keep_1 : decode cX12_keep 1 = .ok (.invokestatic 206, 3) := by decide +kernel
theorem dX12_keep_4 : decode cX12_keep 4 = .ok (.ifCond .eq 30, 3) := by decide +kernel
theorem dX12_keep_7 : decode cX12_keep 7 = .ok (.iload_n 2, 1) := by decide +kernel
theorem dX12_keep_8 : decode cX12_keep 8 = .ok (.iconst 0, 1) := by decide +kernel
theorem dX12_keep_9 : decode cX12_keep 9 = .ok (.iconst 4, 1) := by decide +kernel
theorem dX12_keep_10 : decode cX12_keep 10 = .ok (.invokestatic 123, 3) := by decide +kernel
theorem dX12_keep_13 : decode cX12_keep 13 = .ok (.ifCond .eq 21, 3) := by decide +kernel
theorem dX12_keep_16 : decode cX12_keep 16 = .ok (.iload_n 2, 1) := by decide +kernel
theorem dX12_keep_17 : decode cX12_keep 17 = .ok (.iconst 2, 1) := by decide +kernel
theorem dX12_keep_18 : decode cX12_keep 18 = .ok (.if_icmp .eq 16, 3) := by decide +kernel
theorem dX12_keep_21 : decode cX12_keep 21 = .ok (.iload_n 2, 1) := by decide +kernel
theorem dX12_keep_22 : decode cX12_keep 22 = .ok (.iconst 1, 1) := by decide +kernel
theorem dX12_keep_23 : decode cX12_keep 23 = .ok (.if_icmp .ne 13, 3) := by decide +kernel
theorem dX12_keep_26 : decode cX12_keep 26 = .ok (.aload_n 0, 1) := by decide +kernel
theorem dX12_keep_27 : decode cX12_keep 27 = .ok (.iload_n 3, 1) := by decide +kernel
theorem dX12_keep_28 : decode cX12_keep 28 = .ok (.invokevirtual 141, 3) := by decide +kernel
theorem dX12_keep_31 : decode cX12_keep 31 = .ok (.ifCond .ne 5, 3) := by decide +kernel
theorem dX12_keep_34 : decode cX12_keep 34 = .ok (.iconst (-1), 1) := by decide +kernel
theorem dX12_keep_35 : decode cX12_keep 35 = .ok (.ireturn, 1) := by decide +kernel
theorem dX12_keep_36 : decode cX12_keep 36 = .ok (.aload_n 0, 1) := by decide +kernel
theorem dX12_keep_37 : decode cX12_keep 37 = .ok (.getfield 102, 3) := by decide +kernel
theorem dX12_keep_40 : decode cX12_keep 40 = .ok (.iload_n 1, 1) := by decide +kernel
theorem dX12_keep_41 : decode cX12_keep 41 = .ok (.iload_n 2, 1) := by decide +kernel
theorem dX12_keep_42 : decode cX12_keep 42 = .ok (.iastore, 1) := by decide +kernel
theorem dX12_keep_43 : decode cX12_keep 43 = .ok (.iload_n 2, 1) := by decide +kernel
theorem dX12_keep_44 : decode cX12_keep 44 = .ok (.iconst 1, 1) := by decide +kernel
theorem dX12_keep_45 : decode cX12_keep 45 = .ok (.if_icmp .ne 33, 3) := by decide +kernel
theorem dX12_keep_48 : decode cX12_keep 48 = .ok (.aload_n 0, 1) := by decide +kernel
theorem dX12_keep_49 : decode cX12_keep 49 = .ok (.getfield 105, 3) := by decide +kernel
theorem dX12_keep_52 : decode cX12_keep 52 = .ok (.iload_n 1, 1) := by decide +kernel
theorem dX12_keep_53 : decode cX12_keep 53 = .ok (.iload_n 3, 1) := by decide +kernel
theorem dX12_keep_54 : decode cX12_keep 54 = .ok (.iastore, 1) := by decide +kernel
theorem dX12_keep_55 : decode cX12_keep 55 = .ok (.aload_n 0, 1) := by decide +kernel
theorem dX12_keep_56 : decode cX12_keep 56 = .ok (.getfield 108, 3) := by decide +kernel
theorem dX12_keep_59 : decode cX12_keep 59 = .ok (.iload_n 1, 1) := by decide +kernel
theorem dX12_keep_60 : decode cX12_keep 60 = .ok (.aload_n 0, 1) := by decide +kernel
theorem dX12_keep_61 : decode cX12_keep 61 = .ok (.getfield 27, 3) := by decide +kernel
theorem dX12_keep_64 : decode cX12_keep 64 = .ok (.iload_n 3, 1) := by decide +kernel
theorem dX12_keep_65 : decode cX12_keep 65 = .ok (.iaload, 1) := by decide +kernel
theorem dX12_keep_66 : decode cX12_keep 66 = .ok (.iastore, 1) := by decide +kernel
theorem dX12_keep_67 : decode cX12_keep 67 = .ok (.aload_n 0, 1) := by decide +kernel
theorem dX12_keep_68 : decode cX12_keep 68 = .ok (.getfield 111, 3) := by decide +kernel
theorem dX12_keep_71 : decode cX12_keep 71 = .ok (.iload_n 1, 1) := by decide +kernel
theorem dX12_keep_72 : decode cX12_keep 72 = .ok (.aload_n 0, 1) := by decide +kernel
theorem dX12_keep_73 : decode cX12_keep 73 = .ok (.iload_n 3, 1) := by decide +kernel
theorem dX12_keep_74 : decode cX12_keep 74 = .ok (.invokevirtual 209, 3) := by decide +kernel
theorem dX12_keep_77 : decode cX12_keep 77 = .ok (.iastore, 1) := by decide +kernel
theorem dX12_keep_78 : decode cX12_keep 78 = .ok (.iload_n 2, 1) := by decide +kernel
theorem dX12_keep_79 : decode cX12_keep 79 = .ok (.iconst 3, 1) := by decide +kernel
theorem dX12_keep_80 : decode cX12_keep 80 = .ok (.if_icmp .ne 92, 3) := by decide +kernel
theorem dX12_keep_83 : decode cX12_keep 83 = .ok (.aload_n 0, 1) := by decide +kernel
theorem dX12_keep_84 : decode cX12_keep 84 = .ok (.getfield 114, 3) := by decide +kernel
theorem dX12_keep_87 : decode cX12_keep 87 = .ok (.iload_n 1, 1) := by decide +kernel
theorem dX12_keep_88 : decode cX12_keep 88 = .ok (.aload_n 0, 1) := by decide +kernel
theorem dX12_keep_89 : decode cX12_keep 89 = .ok (.getfield 51, 3) := by decide +kernel
theorem dX12_keep_92 : decode cX12_keep 92 = .ok (.iconst (-1), 1) := by decide +kernel
theorem dX12_keep_93 : decode cX12_keep 93 = .ok (.if_icmp .ne 7, 3) := by decide +kernel
theorem dX12_keep_96 : decode cX12_keep 96 = .ok (.iconst 0, 1) := by decide +kernel
theorem dX12_keep_97 : decode cX12_keep 97 = .ok (.goto 13, 3) := by decide +kernel
theorem dX12_keep_100 : decode cX12_keep 100 = .ok (.iconst 2, 1) := by decide +kernel
theorem dX12_keep_101 : decode cX12_keep 101 = .ok (.aload_n 0, 1) := by decide +kernel
theorem dX12_keep_102 : decode cX12_keep 102 = .ok (.getfield 45, 3) := by decide +kernel
theorem dX12_keep_105 : decode cX12_keep 105 = .ok (.iconst 0, 1) := by decide +kernel
theorem dX12_keep_106 : decode cX12_keep 106 = .ok (.iaload, 1) := by decide +kernel
theorem dX12_keep_107 : decode cX12_keep 107 = .ok (.imul, 1) := by decide +kernel
theorem dX12_keep_108 : decode cX12_keep 108 = .ok (.iconst 2, 1) := by decide +kernel
theorem dX12_keep_109 : decode cX12_keep 109 = .ok (.iadd, 1) := by decide +kernel
theorem dX12_keep_110 : decode cX12_keep 110 = .ok (.iastore, 1) := by decide +kernel
theorem dX12_keep_111 : decode cX12_keep 111 = .ok (.iconst 0, 1) := by decide +kernel
theorem dX12_keep_112 : decode cX12_keep 112 = .ok (.istore 4, 2) := by decide +kernel
theorem dX12_keep_114 : decode cX12_keep 114 = .ok (.iload 4, 2) := by decide +kernel
theorem dX12_keep_116 : decode cX12_keep 116 = .ok (.aload_n 0, 1) := by decide +kernel
theorem dX12_keep_117 : decode cX12_keep 117 = .ok (.getfield 114, 3) := by decide +kernel
theorem dX12_keep_120 : decode cX12_keep 120 = .ok (.iload_n 1, 1) := by decide +kernel
theorem dX12_keep_121 : decode cX12_keep 121 = .ok (.iaload, 1) := by decide +kernel
theorem dX12_keep_122 : decode cX12_keep 122 = .ok (.if_icmp .ge 50, 3) := by decide +kernel
theorem dX12_keep_125 : decode cX12_keep 125 = .ok (.aload_n 0, 1) := by decide +kernel
theorem dX12_keep_126 : decode cX12_keep 126 = .ok (.getfield 117, 3) := by decide +kernel
theorem dX12_keep_129 : decode cX12_keep 129 = .ok (.sipush 202, 3) := by decide +kernel
theorem dX12_keep_132 : decode cX12_keep 132 = .ok (.iload_n 1, 1) := by decide +kernel
theorem dX12_keep_133 : decode cX12_keep 133 = .ok (.imul, 1) := by decide +kernel
theorem dX12_keep_134 : decode cX12_keep 134 = .ok (.iload 4, 2) := by decide +kernel
theorem dX12_keep_136 : decode cX12_keep 136 = .ok (.iadd, 1) := by decide +kernel
theorem dX12_keep_137 : decode cX12_keep 137 = .ok (.iload 4, 2) := by decide +kernel
theorem dX12_keep_139 : decode cX12_keep 139 = .ok (.iconst 2, 1) := by decide +kernel
theorem dX12_keep_140 : decode cX12_keep 140 = .ok (.irem, 1) := by decide +kernel
theorem dX12_keep_141 : decode cX12_keep 141 = .ok (.ifCond .ne 15, 3) := by decide +kernel
theorem dX12_keep_144 : decode cX12_keep 144 = .ok (.aload_n 0, 1) := by decide +kernel
theorem dX12_keep_145 : decode cX12_keep 145 = .ok (.getfield 39, 3) := by decide +kernel
theorem dX12_keep_148 : decode cX12_keep 148 = .ok (.iload 4, 2) := by decide +kernel
theorem dX12_keep_150 : decode cX12_keep 150 = .ok (.iconst 2, 1) := by decide +kernel
theorem dX12_keep_151 : decode cX12_keep 151 = .ok (.idiv, 1) := by decide +kernel
theorem dX12_keep_152 : decode cX12_keep 152 = .ok (.iaload, 1) := by decide +kernel
theorem dX12_keep_153 : decode cX12_keep 153 = .ok (.goto 12, 3) := by decide +kernel
theorem dX12_keep_156 : decode cX12_keep 156 = .ok (.aload_n 0, 1) := by decide +kernel
theorem dX12_keep_157 : decode cX12_keep 157 = .ok (.getfield 42, 3) := by decide +kernel
theorem dX12_keep_160 : decode cX12_keep 160 = .ok (.iload 4, 2) := by decide +kernel
theorem dX12_keep_162 : decode cX12_keep 162 = .ok (.iconst 2, 1) := by decide +kernel
theorem dX12_keep_163 : decode cX12_keep 163 = .ok (.idiv, 1) := by decide +kernel
theorem dX12_keep_164 : decode cX12_keep 164 = .ok (.iaload, 1) := by decide +kernel
theorem dX12_keep_165 : decode cX12_keep 165 = .ok (.iastore, 1) := by decide +kernel
theorem dX12_keep_166 : decode cX12_keep 166 = .ok (.iinc 4 1, 3) := by decide +kernel
theorem dX12_keep_169 : decode cX12_keep 169 = .ok (.goto (-55), 3) := by decide +kernel
theorem dX12_keep_172 : decode cX12_keep 172 = .ok (.iload_n 2, 1) := by decide +kernel
theorem dX12_keep_173 : decode cX12_keep 173 = .ok (.iconst 4, 1) := by decide +kernel
theorem dX12_keep_174 : decode cX12_keep 174 = .ok (.if_icmp .ne 51, 3) := by decide +kernel
theorem dX12_keep_177 : decode cX12_keep 177 = .ok (.aload_n 0, 1) := by decide +kernel
theorem dX12_keep_178 : decode cX12_keep 178 = .ok (.getfield 114, 3) := by decide +kernel
theorem dX12_keep_181 : decode cX12_keep 181 = .ok (.iload_n 1, 1) := by decide +kernel
theorem dX12_keep_182 : decode cX12_keep 182 = .ok (.aload_n 0, 1) := by decide +kernel
theorem dX12_keep_183 : decode cX12_keep 183 = .ok (.getfield 177, 3) := by decide +kernel
theorem dX12_keep_186 : decode cX12_keep 186 = .ok (.iastore, 1) := by decide +kernel
theorem dX12_keep_187 : decode cX12_keep 187 = .ok (.iconst 0, 1) := by decide +kernel
theorem dX12_keep_188 : decode cX12_keep 188 = .ok (.istore 4, 2) := by decide +kernel
theorem dX12_keep_190 : decode cX12_keep 190 = .ok (.iload 4, 2) := by decide +kernel
theorem dX12_keep_192 : decode cX12_keep 192 = .ok (.aload_n 0, 1) := by decide +kernel
theorem dX12_keep_193 : decode cX12_keep 193 = .ok (.getfield 177, 3) := by decide +kernel
theorem dX12_keep_196 : decode cX12_keep 196 = .ok (.if_icmp .ge 29, 3) := by decide +kernel
theorem dX12_keep_199 : decode cX12_keep 199 = .ok (.aload_n 0, 1) := by decide +kernel
theorem dX12_keep_200 : decode cX12_keep 200 = .ok (.getfield 117, 3) := by decide +kernel
theorem dX12_keep_203 : decode cX12_keep 203 = .ok (.sipush 202, 3) := by decide +kernel
theorem dX12_keep_206 : decode cX12_keep 206 = .ok (.iload_n 1, 1) := by decide +kernel
theorem dX12_keep_207 : decode cX12_keep 207 = .ok (.imul, 1) := by decide +kernel
theorem dX12_keep_208 : decode cX12_keep 208 = .ok (.iload 4, 2) := by decide +kernel
theorem dX12_keep_210 : decode cX12_keep 210 = .ok (.iadd, 1) := by decide +kernel
theorem dX12_keep_211 : decode cX12_keep 211 = .ok (.aload_n 0, 1) := by decide +kernel
theorem dX12_keep_212 : decode cX12_keep 212 = .ok (.getfield 66, 3) := by decide +kernel
theorem dX12_keep_215 : decode cX12_keep 215 = .ok (.iload 4, 2) := by decide +kernel
theorem dX12_keep_217 : decode cX12_keep 217 = .ok (.iaload, 1) := by decide +kernel
theorem dX12_keep_218 : decode cX12_keep 218 = .ok (.iastore, 1) := by decide +kernel
theorem dX12_keep_219 : decode cX12_keep 219 = .ok (.iinc 4 1, 3) := by decide +kernel
theorem dX12_keep_222 : decode cX12_keep 222 = .ok (.goto (-32), 3) := by decide +kernel
theorem dX12_keep_225 : decode cX12_keep 225 = .ok (.iconst 0, 1) := by decide +kernel
theorem dX12_keep_226 : decode cX12_keep 226 = .ok (.ireturn, 1) := by decide +kernel
set_option maxRecDepth 20000 in
theorem ggX12_make_X12_isShelf : GoodIn wsX12_make wsX12_isShelf := goodIn_r _ [7, 8, 9, 6, 10] (by decide +kernel) (by decide +kernel)
set_option maxRecDepth 20000 in
theorem gX12_make_X12_isShelf : GoodIn wsX12_make (va_wsS RX12 206 yX12_isShelf wsX12_isShelf) := goodIn_app (goodIn_of _ (by decide +kernel)) ggX12_make_X12_isShelf
set_option maxRecDepth 20000 in
theorem ggX12_make_X12_in : GoodIn wsX12_make wsX12_in := goodIn_r _ [10] (by decide +kernel) (by decide +kernel)
set_option maxRecDepth 20000 in
theorem gX12_make_X12_in : GoodIn wsX12_make (va_wsS RX12 123 yX12_in wsX12_in) := goodIn_app (goodIn_of _ (by decide +kernel)) ggX12_make_X12_in
theorem dX12_make_0 : decode cX12_make 0 = .ok (.iload_n 1, 1) := by decide +kernel
theorem dX12_make_1 : decode cX12_make 1 = .ok (.invokestatic 206, 3) := by decide +kernel
theorem dX12_make_4 : decode cX12_make 4 = .ok (.ifCond .eq 18, 3) := by decide +kernel
theorem dX12_make_7 : decode cX12_make 7 = .ok (.iload_n 2, 1) := by decide +kernel
theorem dX12_make_8 : decode cX12_make 8 = .ok (.iconst 3, 1) := by decide +kernel
theorem dX12_make_9 : decode cX12_make 9 = .ok (.iconst 4, 1) := by decide +kernel
theorem dX12_make_10 : decode cX12_make 10 = .ok (.invokestatic 123, 3) := by decide +kernel
theorem dX12_make_13 : decode cX12_make 13 = .ok (.ifCond .eq 9, 3) := by decide +kernel
theorem dX12_make_16 : decode cX12_make 16 = .ok (.iload_n 3, 1) := by decide +kernel
theorem dX12_make_17 : decode cX12_make 17 = .ok (.bipush 60, 2) := by decide +kernel
theorem dX12_make_19 : decode cX12_make 19 = .ok (.if_icmp .le 5, 3) := by decide +kernel
theorem dX12_make_22 : decode cX12_make 22 = .ok (.iconst (-1), 1) := by decide +kernel
theorem dX12_make_23 : decode cX12_make 23 = .ok (.ireturn, 1) := by decide +kernel
theorem dX12_make_24 : decode cX12_make 24 = .ok (.iload_n 3, 1) := by decide +kernel
theorem dX12_make_25 : decode cX12_make 25 = .ok (.ifCond .ge 6, 3) := by decide +kernel
theorem dX12_make_28 : decode cX12_make 28 = .ok (.bipush (-14), 2) := by decide +kernel
theorem dX12_make_30 : decode cX12_make 30 = .ok (.ireturn, 1) := by decide +kernel
theorem dX12_make_31 : decode cX12_make 31 = .ok (.aload_n 0, 1) := by decide +kernel
theorem dX12_make_32 : decode cX12_make 32 = .ok (.getfield 102, 3) := by decide +kernel
theorem dX12_make_35 : decode cX12_make 35 = .ok (.iload_n 1, 1) := by decide +kernel
theorem dX12_make_36 : decode cX12_make 36 = .ok (.iload_n 2, 1) := by decide +kernel
theorem dX12_make_37 : decode cX12_make 37 = .ok (.iastore, 1) := by decide +kernel
theorem dX12_make_38 : decode cX12_make 38 = .ok (.aload_n 0, 1) := by decide +kernel
theorem dX12_make_39 : decode cX12_make 39 = .ok (.getfield 114, 3) := by decide +kernel
theorem dX12_make_42 : decode cX12_make 42 = .ok (.iload_n 1, 1) := by decide +kernel
theorem dX12_make_43 : decode cX12_make 43 = .ok (.iload_n 3, 1) := by decide +kernel
theorem dX12_make_44 : decode cX12_make 44 = .ok (.iastore, 1) := by decide +kernel
theorem dX12_make_45 : decode cX12_make 45 = .ok (.iconst 0, 1) := by decide +kernel
theorem dX12_make_46 : decode cX12_make 46 = .ok (.istore 4, 2) := by decide +kernel
theorem dX12_make_48 : decode cX12_make 48 = .ok (.iload 4, 2) := by decide +kernel
theorem dX12_make_50 : decode cX12_make 50 = .ok (.iload_n 3, 1) := by decide +kernel
theorem dX12_make_51 : decode cX12_make 51 = .ok (.if_icmp .ge 23, 3) := by decide +kernel
theorem dX12_make_54 : decode cX12_make 54 = .ok (.aload_n 0, 1) := by decide +kernel
theorem dX12_make_55 : decode cX12_make 55 = .ok (.getfield 117, 3) := by decide +kernel
theorem dX12_make_58 : decode cX12_make 58 = .ok (.sipush 202, 3) := by decide +kernel
theorem dX12_make_61 : decode cX12_make 61 = .ok (.iload_n 1, 1) := by decide +kernel
theorem dX12_make_62 : decode cX12_make 62 = .ok (.imul, 1) := by decide +kernel
theorem dX12_make_63 : decode cX12_make 63 = .ok (.iload 4, 2) := by decide +kernel
theorem dX12_make_65 : decode cX12_make 65 = .ok (.iadd, 1) := by decide +kernel
theorem dX12_make_66 : decode cX12_make 66 = .ok (.iconst 0, 1) := by decide +kernel
theorem dX12_make_67 : decode cX12_make 67 = .ok (.iastore, 1) := by decide +kernel
theorem dX12_make_68 : decode cX12_make 68 = .ok (.iinc 4 1, 3) := by decide +kernel
theorem dX12_make_71 : decode cX12_make 71 = .ok (.goto (-23), 3) := by decide +kernel
theorem dX12_make_74 : decode cX12_make 74 = .ok (.iconst 0, 1) := by decide +kernel
theorem dX12_make_75 : decode cX12_make 75 = .ok (.ireturn, 1) := by decide +kernel
set_option maxRecDepth 20000 in
theorem ggX12_element_X12_isShelf : GoodIn wsX12_element wsX12_isShelf := goodIn_r _ [8, 9, 10, 7, 11] (by decide +kernel) (by decide +kernel)
set_option maxRecDepth 20000 in
theorem gX12_element_X12_isShelf : GoodIn wsX12_element (va_wsS RX12 206 yX12_isShelf wsX12_isShelf) := goodIn_app (goodIn_of _ (by decide +kernel)) ggX12_element_X12_isShelf
set_option maxRecDepth 20000 in
theorem ggX12_element_X12_in : GoodIn wsX12_element wsX12_in := goodIn_r _ [11] (by decide +kernel) (by decide +kernel)
set_option maxRecDepth 20000 in
theorem gX12_element_X12_in : GoodIn wsX12_element (va_wsS RX12 123 yX12_in wsX12_in) := goodIn_app (goodIn_of _ (by decide +kernel)) ggX12_element_X12_in
theorem dX12_element_0 : decode cX12_element 0 = .ok (.aload_n 0, 1) := by decide +kernel
theorem dX12_element_1 : decode cX12_element 1 = .ok (.iload_n 1, 1) := by decide +kernel
theorem dX12_element_2 : decode cX12_element 2 = .ok (.invokestatic 206, 3) := by decide +kernel
theorem dX12_element_5 : decode cX12_element 5 = .ok (.ifCond .ne 7, 3) := by decide +kernel
theorem dX12_element_8 : decode cX12_element 8 = .ok (.iconst 1, 1) := by decide +kernel
theorem dX12_element_9 : decode cX12_element 9 = .ok (.goto 34, 3) := by decide +kernel
theorem dX12_element_12 : decode cX12_element 12 = .ok (.aload_n 0, 1) := by decide +kernel
theorem dX12_element_13 : decode cX12_element 13 = .ok (.getfield 102, 3) := by decide +kernel
theorem dX12_element_16 : decode cX12_element 16 = .ok (.iload_n 1, 1) := by decide +kernel
theorem dX12_element_17 : decode cX12_element 17 = .ok (.iaload, 1) := by decide +kernel
theorem dX12_element_18 : decode cX12_element 18 = .ok (.iconst 3, 1) := by decide +kernel
theorem dX12_element_19 : decode cX12_element 19 = .ok (.if_icmp .lt 19, 3) := by decide +kernel
theorem dX12_element_22 : decode cX12_element 22 = .ok (.iload_n 2, 1) := by decide +kernel
theorem dX12_element_23 : decode cX12_element 23 = .ok (.iconst 0, 1) := by decide +kernel
theorem dX12_element_24 : decode cX12_element 24 = .ok (.aload_n 0, 1) := by decide +kernel
theorem dX12_element_25 : decode cX12_element 25 = .ok (.getfield 114, 3) := by decide +kernel
theorem dX12_element_28 : decode cX12_element 28 = .ok (.iload_n 1, 1) := by decide +kernel
theorem dX12_element_29 : decode cX12_element 29 = .ok (.iaload, 1) := by decide +kernel
theorem dX12_element_30 : decode cX12_element 30 = .ok (.iconst 1, 1) := by decide +kernel
theorem dX12_element_31 : decode cX12_element 31 = .ok (.isub, 1) := by decide +kernel
theorem dX12_element_32 : decode cX12_element 32 = .ok (.invokestatic 123, 3) := by decide +kernel
theorem dX12_element_35 : decode cX12_element 35 = .ok (.ifCond .ne 7, 3) := by decide +kernel
theorem dX12_element_38 : decode cX12_element 38 = .ok (.iconst 2, 1) := by decide +kernel
theorem dX12_element_39 : decode cX12_element 39 = .ok (.goto 4, 3) := by decide +kernel
theorem dX12_element_42 : decode cX12_element 42 = .ok (.iconst 0, 1) := by decide +kernel
theorem dX12_element_43 : decode cX12_element 43 = .ok (.putfield 120, 3) := by decide +kernel
theorem dX12_element_46 : decode cX12_element 46 = .ok (.aload_n 0, 1) := by decide +kernel
theorem dX12_element_47 : decode cX12_element 47 = .ok (.getfield 120, 3) := by decide +kernel
theorem dX12_element_50 : decode cX12_element 50 = .ok (.ifCond .le 7, 3) := by decide +kernel
theorem dX12_element_53 : decode cX12_element 53 = .ok (.lconst 0, 1) := by decide +kernel
theorem dX12_element_54 : decode cX12_element 54 = .ok (.goto 16, 3) := by decide +kernel
theorem dX12_element_57 : decode cX12_element 57 = .ok (.aload_n 0, 1) := by decide +kernel
theorem dX12_element_58 : decode cX12_element 58 = .ok (.getfield 117, 3) := by decide +kernel
theorem dX12_element_61 : decode cX12_element 61 = .ok (.sipush 202, 3) := by decide +kernel
theorem dX12_element_64 : decode cX12_element 64 = .ok (.iload_n 1, 1) := by decide +kernel
theorem dX12_element_65 : decode cX12_element 65 = .ok (.imul, 1) := by decide +kernel
theorem dX12_element_66 : decode cX12_element 66 = .ok (.iload_n 2, 1) := by decide +kernel
theorem dX12_element_67 : decode cX12_element 67 = .ok (.iadd, 1) := by decide +kernel
theorem dX12_element_68 : decode cX12_element 68 = .ok (.iaload, 1) := by decide +kernel
theorem dX12_element_69 : decode cX12_element 69 = .ok (.i2l, 1) := by decide +kernel
theorem dX12_element_70 : decode cX12_element 70 = .ok (.lreturn, 1) := by decide +kernel
set_option maxRecDepth 20000 in
theorem ggX12_copy_X12_isShelf : GoodIn wsX12_copy wsX12_isShelf := goodIn_r _ [7, 8, 9, 6, 10] (by decide +kernel) (by decide +kernel)
set_option maxRecDepth 20000 in
theorem gX12_copy_X12_isShelf : GoodIn wsX12_copy (va_wsS RX12 206 yX12_isShelf wsX12_isShelf) := goodIn_app (goodIn_of _ (by decide +kernel)) ggX12_copy_X12_isShelf
theorem dX12_copy_0 : decode cX12_copy 0 = .ok (.iload_n 1, 1) := by decide +kernel
theorem dX12_copy_1 : decode cX12_copy 1 = .ok (.invokestatic 206, 3) := by decide +kernel
theorem dX12_copy_4 : decode cX12_copy 4 = .ok (.ifCond .eq 10, 3) := by decide +kernel
theorem dX12_copy_7 : decode cX12_copy 7 = .ok (.iload_n 3, 1) := by decide +kernel
theorem dX12_copy_8 : decode cX12_copy 8 = .ok (.invokestatic 206, 3) := by decide +kernel
theorem dX12_copy_11 : decode cX12_copy 11 = .ok (.ifCond .ne 5, 3) := by decide +kernel
theorem dX12_copy_14 : decode cX12_copy 14 = .ok (.iconst (-1), 1) := by decide +kernel
theorem dX12_copy_15 : decode cX12_copy 15 = .ok (.ireturn, 1) := by decide +kernel
theorem dX12_copy_16 : decode cX12_copy 16 = .ok (.aload_n 0, 1) := by decide +kernel
theorem dX12_copy_17 : decode cX12_copy 17 = .ok (.getfield 102, 3) := by decide +kernel
theorem dX12_copy_20 : decode cX12_copy 20 = .ok (.iload_n 1, 1) := by decide +kernel
theorem dX12_copy_21 : decode cX12_copy 21 = .ok (.iaload, 1) := by decide +kernel
theorem dX12_copy_22 : decode cX12_copy 22 = .ok (.ifCond .eq 12, 3) := by decide +kernel
theorem dX12_copy_25 : decode cX12_copy 25 = .ok (.aload_n 0, 1) := by decide +kernel
theorem dX12_copy_26 : decode cX12_copy 26 = .ok (.getfield 102, 3) := by decide +kernel
theorem dX12_copy_29 : decode cX12_copy 29 = .ok (.iload_n 3, 1) := by decide +kernel
theorem dX12_copy_30 : decode cX12_copy 30 = .ok (.iaload, 1) := by decide +kernel
theorem dX12_copy_31 : decode cX12_copy 31 = .ok (.ifCond .ne 6, 3) := by decide +kernel
theorem dX12_copy_34 : decode cX12_copy 34 = .ok (.bipush (-11), 2) := by decide +kernel
theorem dX12_copy_36 : decode cX12_copy 36 = .ok (.ireturn, 1) := by decide +kernel
theorem dX12_copy_37 : decode cX12_copy 37 = .ok (.aload_n 0, 1) := by decide +kernel
theorem dX12_copy_38 : decode cX12_copy 38 = .ok (.getfield 102, 3) := by decide +kernel
theorem dX12_copy_41 : decode cX12_copy 41 = .ok (.iload_n 1, 1) := by decide +kernel
theorem dX12_copy_42 : decode cX12_copy 42 = .ok (.iaload, 1) := by decide +kernel
theorem dX12_copy_43 : decode cX12_copy 43 = .ok (.iconst 3, 1) := by decide +kernel
theorem dX12_copy_44 : decode cX12_copy 44 = .ok (.if_icmp .lt 18, 3) := by decide +kernel
theorem dX12_copy_47 : decode cX12_copy 47 = .ok (.aload_n 0, 1) := by decide +kernel
theorem dX12_copy_48 : decode cX12_copy 48 = .ok (.getfield 102, 3) := by decide +kernel
theorem dX12_copy_51 : decode cX12_copy 51 = .ok (.iload_n 1, 1) := by decide +kernel
theorem dX12_copy_52 : decode cX12_copy 52 = .ok (.iaload, 1) := by decide +kernel
theorem dX12_copy_53 : decode cX12_copy 53 = .ok (.aload_n 0, 1) := by decide +kernel
theorem dX12_copy_54 : decode cX12_copy 54 = .ok (.getfield 102, 3) := by decide +kernel
theorem dX12_copy_57 : decode cX12_copy 57 = .ok (.iload_n 3, 1) := by decide +kernel
theorem dX12_copy_58 : decode cX12_copy 58 = .ok (.iaload, 1) := by decide +kernel
theorem dX12_copy_59 : decode cX12_copy 59 = .ok (.if_icmp .eq 6, 3) := by decide +kernel
theorem dX12_copy_62 : decode cX12_copy 62 = .ok (.bipush (-12), 2) := by decide +kernel
theorem dX12_copy_64 : decode cX12_copy 64 = .ok (.ireturn, 1) := by decide +kernel
theorem dX12_copy_65 : decode cX12_copy 65 = .ok (.iload 5, 2) := by decide +kernel
theorem dX12_copy_67 : decode cX12_copy 67 = .ok (.ifCond .lt 39, 3) := by decide +kernel
theorem dX12_copy_70 : decode cX12_copy 70 = .ok (.iload_n 2, 1) := by decide +kernel
theorem dX12_copy_71 : decode cX12_copy 71 = .ok (.ifCond .lt 35, 3) := by decide +kernel
theorem dX12_copy_74 : decode cX12_copy 74 = .ok (.iload 4, 2) := by decide +kernel
theorem dX12_copy_76 : decode cX12_copy 76 = .ok (.ifCond .lt 30, 3) := by decide +kernel
theorem dX12_copy_79 : decode cX12_copy 79 = .ok (.iload_n 2, 1) := by decide +kernel
theorem dX12_copy_80 : decode cX12_copy 80 = .ok (.aload_n 0, 1) := by decide +kernel
theorem dX12_copy_81 : decode cX12_copy 81 = .ok (.getfield 114, 3) := by decide +kernel
theorem dX12_copy_84 : decode cX12_copy 84 = .ok (.iload_n 1, 1) := by decide +kernel
theorem dX12_copy_85 : decode cX12_copy 85 = .ok (.iaload, 1) := by decide +kernel
theorem dX12_copy_86 : decode cX12_copy 86 = .ok (.iload 5, 2) := by decide +kernel
theorem dX12_copy_88 : decode cX12_copy 88 = .ok (.isub, 1) := by decide +kernel
theorem dX12_copy_89 : decode cX12_copy 89 = .ok (.if_icmp .gt 17, 3) := by decide +kernel
theorem dX12_copy_92 : decode cX12_copy 92 = .ok (.iload 4, 2) := by decide +kernel
theorem dX12_copy_94 : decode cX12_copy 94 = .ok (.aload_n 0, 1) := by decide +kernel
theorem dX12_copy_95 : decode cX12_copy 95 = .ok (.getfield 114, 3) := by decide +kernel
theorem dX12_copy_98 : decode cX12_copy 98 = .ok (.iload_n 3, 1) := by decide +kernel
theorem dX12_copy_99 : decode cX12_copy 99 = .ok (.iaload, 1) := by decide +kernel
theorem dX12_copy_100 : decode cX12_copy 100 = .ok (.iload 5, 2) := by decide +kernel
theorem dX12_copy_102 : decode cX12_copy 102 = .ok (.isub, 1) := by decide +kernel
theorem dX12_copy_103 : decode cX12_copy 103 = .ok (.if_icmp .le 6, 3) := by decide +kernel
theorem dX12_copy_106 : decode cX12_copy 106 = .ok (.bipush (-13), 2) := by decide +kernel
theorem dX12_copy_108 : decode cX12_copy 108 = .ok (.ireturn, 1) := by decide +kernel
theorem dX12_copy_109 : decode cX12_copy 109 = .ok (.iconst 0, 1) := by decide +kernel
theorem dX12_copy_110 : decode cX12_copy 110 = .ok (.istore 6, 2) := by decide +kernel
theorem dX12_copy_112 : decode cX12_copy 112 = .ok (.iload 6, 2) := by decide +kernel
theorem dX12_copy_114 : decode cX12_copy 114 = .ok (.iload 5, 2) := by decide +kernel
theorem dX12_copy_116 : decode cX12_copy 116 = .ok (.if_icmp .ge 51, 3) := by decide +kernel
theorem dX12_copy_119 : decode cX12_copy 119 = .ok (.iload_n 1, 1) := by decide +kernel
theorem dX12_copy_120 : decode cX12_copy 120 = .ok (.iload_n 3, 1) := by decide +kernel
theorem dX12_copy_121 : decode cX12_copy 121 = .ok (.if_icmp .ne 9, 3) := by decide +kernel
theorem dX12_copy_124 : decode cX12_copy 124 = .ok (.iload_n 2, 1) := by decide +kernel
theorem dX12_copy_125 : decode cX12_copy 125 = .ok (.iload 4, 2) := by decide +kernel
theorem dX12_copy_127 : decode cX12_copy 127 = .ok (.if_icmp .lt 40, 3) := by decide +kernel
theorem dX12_copy_130 : decode cX12_copy 130 = .ok (.aload_n 0, 1) := by decide +kernel
theorem dX12_copy_131 : decode cX12_copy 131 = .ok (.getfield 117, 3) := by decide +kernel
theorem dX12_copy_134 : decode cX12_copy 134 = .ok (.sipush 202, 3) := by decide +kernel
theorem dX12_copy_137 : decode cX12_copy 137 = .ok (.iload_n 3, 1) := by decide +kernel
theorem dX12_copy_138 : decode cX12_copy 138 = .ok (.imul, 1) := by decide +kernel
theorem dX12_copy_139 : decode cX12_copy 139 = .ok (.iload 4, 2) := by decide +kernel
theorem dX12_copy_141 : decode cX12_copy 141 = .ok (.iadd, 1) := by decide +kernel
theorem dX12_copy_142 : decode cX12_copy 142 = .ok (.iload 6, 2) := by decide +kernel
theorem dX12_copy_144 : decode cX12_copy 144 = .ok (.iadd, 1) := by decide +kernel
theorem dX12_copy_145 : decode cX12_copy 145 = .ok (.aload_n 0, 1) := by decide +kernel
theorem dX12_copy_146 : decode cX12_copy 146 = .ok (.getfield 117, 3) := by decide +kernel
theorem dX12_copy_149 : decode cX12_copy 149 = .ok (.sipush 202, 3) := by decide +kernel
theorem dX12_copy_152 : decode cX12_copy 152 = .ok (.iload_n 1, 1) := by decide +kernel
theorem dX12_copy_153 : decode cX12_copy 153 = .ok (.imul, 1) := by decide +kernel
theorem dX12_copy_154 : decode cX12_copy 154 = .ok (.iload_n 2, 1) := by decide +kernel
theorem dX12_copy_155 : decode cX12_copy 155 = .ok (.iadd, 1) := by decide +kernel
theorem dX12_copy_156 : decode cX12_copy 156 = .ok (.iload 6, 2) := by decide +kernel
theorem dX12_copy_158 : decode cX12_copy 158 = .ok (.iadd, 1) := by decide +kernel
theorem dX12_copy_159 : decode cX12_copy 159 = .ok (.iaload, 1) := by decide +kernel
theorem dX12_copy_160 : decode cX12_copy 160 = .ok (.iastore, 1) := by decide +kernel
theorem dX12_copy_161 : decode cX12_copy 161 = .ok (.iinc 6 1, 3) := by decide +kernel
theorem dX12_copy_164 : decode cX12_copy 164 = .ok (.goto (-52), 3) := by decide +kernel
theorem dX12_copy_167 : decode cX12_copy 167 = .ok (.iload 5, 2) := by decide +kernel
theorem dX12_copy_169 : decode cX12_copy 169 = .ok (.iconst 1, 1) := by decide +kernel
theorem dX12_copy_170 : decode cX12_copy 170 = .ok (.isub, 1) := by decide +kernel
theorem dX12_copy_171 : decode cX12_copy 171 = .ok (.istore 6, 2) := by decide +kernel
theorem dX12_copy_173 : decode cX12_copy 173 = .ok (.iload 6, 2) := by decide +kernel
theorem dX12_copy_175 : decode cX12_copy 175 = .ok (.ifCond .lt 51, 3) := by decide +kernel
theorem dX12_copy_178 : decode cX12_copy 178 = .ok (.iload_n 1, 1) := by decide +kernel
theorem dX12_copy_179 : decode cX12_copy 179 = .ok (.iload_n 3, 1) := by decide +kernel
theorem dX12_copy_180 : decode cX12_copy 180 = .ok (.if_icmp .ne 46, 3) := by decide +kernel
theorem dX12_copy_183 : decode cX12_copy 183 = .ok (.iload_n 2, 1) := by decide +kernel
theorem dX12_copy_184 : decode cX12_copy 184 = .ok (.iload 4, 2) := by decide +kernel
theorem dX12_copy_186 : decode cX12_copy 186 = .ok (.if_icmp .ge 40, 3) := by decide +kernel
theorem dX12_copy_189 : decode cX12_copy 189 = .ok (.aload_n 0, 1) := by decide +kernel
theorem dX12_copy_190 : decode cX12_copy 190 = .ok (.getfield 117, 3) := by decide +kernel
theorem dX12_copy_193 : decode cX12_copy 193 = .ok (.sipush 202, 3) := by decide +kernel
theorem dX12_copy_196 : decode cX12_copy 196 = .ok (.iload_n 3, 1) := by decide +kernel
theorem dX12_copy_197 : decode cX12_copy 197 = .ok (.imul, 1) := by decide +kernel
theorem dX12_copy_198 : decode cX12_copy 198 = .ok (.iload 4, 2) := by decide +kernel
theorem dX12_copy_200 : decode cX12_copy 200 = .ok (.iadd, 1) := by decide +kernel
theorem dX12_copy_201 : decode cX12_copy 201 = .ok (.iload 6, 2) := by decide +kernel
theorem dX12_copy_203 : decode cX12_copy 203 = .ok (.iadd, 1) := by decide +kernel
theorem dX12_copy_204 : decode cX12_copy 204 = .ok (.aload_n 0, 1) := by decide +kernel
theorem dX12_copy_205 : decode cX12_copy 205 = .ok (.getfield 117, 3) := by decide +kernel
theorem dX12_copy_208 : decode cX12_copy 208 = .ok (.sipush 202, 3) := by decide +kernel
theorem dX12_copy_211 : decode cX12_copy 211 = .ok (.iload_n 1, 1) := by decide +kernel
theorem dX12_copy_212 : decode cX12_copy 212 = .ok (.imul, 1) := by decide +kernel
theorem dX12_copy_213 : decode cX12_copy 213 = .ok (.iload_n 2, 1) := by decide +kernel
theorem dX12_copy_214 : decode cX12_copy 214 = .ok (.iadd, 1) := by decide +kernel
theorem dX12_copy_215 : decode cX12_copy 215 = .ok (.iload 6, 2) := by decide +kernel
theorem dX12_copy_217 : decode cX12_copy 217 = .ok (.iadd, 1) := by decide +kernel
theorem dX12_copy_218 : decode cX12_copy 218 = .ok (.iaload, 1) := by decide +kernel
theorem dX12_copy_219 : decode cX12_copy 219 = .ok (.iastore, 1) := by decide +kernel
theorem dX12_copy_220 : decode cX12_copy 220 = .ok (.iinc 6 (-1), 3) := by decide +kernel
theorem dX12_copy_223 : decode cX12_copy 223 = .ok (.goto (-50), 3) := by decide +kernel
theorem dX12_copy_226 : decode cX12_copy 226 = .ok (.iload 5, 2) := by decide +kernel
theorem dX12_copy_228 : decode cX12_copy 228 = .ok (.ireturn, 1) := by decide +kernel
set_option maxRecDepth 20000 in
theorem ggX12_noSwimmer_X12_isShelf : GoodIn wsX12_noSwimmer wsX12_isShelf := goodIn_r _ [5, 6, 7, 4, 8] (by decide +kernel) (by decide +kernel)
set_option maxRecDepth 20000 in
theorem gX12_noSwimmer_X12_isShelf : GoodIn wsX12_noSwimmer (va_wsS RX12 206 yX12_isShelf wsX12_isShelf) := goodIn_app (goodIn_of _ (by decide +kernel)) ggX12_noSwimmer_X12_isShelf
theorem dX12_noSwimmer_0 : decode cX12_noSwimmer 0 = .ok (.iload_n 1, 1) := by decide +kernel
theorem dX12_noSwimmer_1 : decode cX12_noSwimmer 1 = .ok (.invokestatic 206, 3) := by decide +kernel
theorem dX12_noSwimmer_4 : decode cX12_noSwimmer 4 = .ok (.ifCond .ne 7, 3) := by decide +kernel
theorem dX12_noSwimmer_7 : decode cX12_noSwimmer 7 = .ok (.iconst (-1), 1) := by decide +kernel
theorem dX12_noSwimmer_8 : decode cX12_noSwimmer 8 = .ok (.goto 33, 3) := by decide +kernel
theorem dX12_noSwimmer_11 : decode cX12_noSwimmer 11 = .ok (.aload_n 0, 1) := by decide +kernel
theorem dX12_noSwimmer_12 : decode cX12_noSwimmer 12 = .ok (.getfield 102, 3) := by decide +kernel
theorem dX12_noSwimmer_15 : decode cX12_noSwimmer 15 = .ok (.iload_n 1, 1) := by decide +kernel
theorem dX12_noSwimmer_16 : decode cX12_noSwimmer 16 = .ok (.iaload, 1) := by decide +kernel
theorem dX12_noSwimmer_17 : decode cX12_noSwimmer 17 = .ok (.ifCond .ne 8, 3) := by decide +kernel
theorem dX12_noSwimmer_20 : decode cX12_noSwimmer 20 = .ok (.bipush (-11), 2) := by decide +kernel
theorem dX12_noSwimmer_22 : decode cX12_noSwimmer 22 = .ok (.goto 19, 3) := by decide +kernel
theorem dX12_noSwimmer_25 : decode cX12_noSwimmer 25 = .ok (.aload_n 0, 1) := by decide +kernel
theorem dX12_noSwimmer_26 : decode cX12_noSwimmer 26 = .ok (.getfield 102, 3) := by decide +kernel
theorem dX12_noSwimmer_29 : decode cX12_noSwimmer 29 = .ok (.iload_n 1, 1) := by decide +kernel
theorem dX12_noSwimmer_30 : decode cX12_noSwimmer 30 = .ok (.iaload, 1) := by decide +kernel
theorem dX12_noSwimmer_31 : decode cX12_noSwimmer 31 = .ok (.iconst 1, 1) := by decide +kernel
theorem dX12_noSwimmer_32 : decode cX12_noSwimmer 32 = .ok (.if_icmp .eq 8, 3) := by decide +kernel
theorem dX12_noSwimmer_35 : decode cX12_noSwimmer 35 = .ok (.bipush (-12), 2) := by decide +kernel
theorem dX12_noSwimmer_37 : decode cX12_noSwimmer 37 = .ok (.goto 4, 3) := by decide +kernel
theorem dX12_noSwimmer_40 : decode cX12_noSwimmer 40 = .ok (.iconst 0, 1) := by decide +kernel
theorem dX12_noSwimmer_41 : decode cX12_noSwimmer 41 = .ok (.ireturn, 1) := by decide +kernel
set_option maxRecDepth 20000 in
theorem ggX12_weight_X12_noSwimmer : GoodIn wsX12_weight wsX12_noSwimmer := goodIn_r _ [6, 7, 8, 9, 5, 10, 11, 12, 13, 14, 15, 16, 17, 18, 19, 20, 21, 22, 23, 24, 25, 26, 27, 28, 29, 30, 31, 32, 33, 34, 35, 36, 37, 38, 39, 40, 41, 42, 43, 44, 45, 46, 47, 48, 49, 50, 51, 52, 53, 54, 55] (by decide +kernel) (by decide +kernel)
set_option maxRecDepth 20000 in
theorem gX12_weight_X12_noSwimmer : GoodIn wsX12_weight (wsV RX12 212 RX12 yX12_noSwimmer wsX12_noSwimmer) := goodIn_app (goodIn_of _ (by decide +kernel)) ggX12_weight_X12_noSwimmer
theorem dX12_weight_0 : decode cX12_weight 0 = .ok (.aload_n 0, 1) := by decide +kernel
theorem dX12_weight_1 : decode cX12_weight 1 = .ok (.iload_n 1, 1) := by decide +kernel
theorem dX12_weight_2 : decode cX12_weight 2 = .ok (.invokevirtual 212, 3) := by decide +kernel
theorem dX12_weight_5 : decode cX12_weight 5 = .ok (.istore_n 2, 1) := by decide +kernel
theorem dX12_weight_6 : decode cX12_weight 6 = .ok (.iload_n 2, 1) := by decide +kernel
theorem dX12_weight_7 : decode cX12_weight 7 = .ok (.ifCond .ge 7, 3) := by decide +kernel
theorem dX12_weight_10 : decode cX12_weight 10 = .ok (.iload_n 2, 1) := by decide +kernel
theorem dX12_weight_11 : decode cX12_weight 11 = .ok (.goto 9, 3) := by decide +kernel
theorem dX12_weight_14 : decode cX12_weight 14 = .ok (.aload_n 0, 1) := by decide +kernel
theorem dX12_weight_15 : decode cX12_weight 15 = .ok (.getfield 111, 3) := by decide +kernel
theorem dX12_weight_18 : decode cX12_weight 18 = .ok (.iload_n 1, 1) := by decide +kernel
theorem dX12_weight_19 : decode cX12_weight 19 = .ok (.iaload, 1) := by decide +kernel
theorem dX12_weight_20 : decode cX12_weight 20 = .ok (.ireturn, 1) := by decide +kernel
set_option maxRecDepth 20000 in
theorem ggX12_toss_X12_noSwimmer : GoodIn wsX12_toss wsX12_noSwimmer := goodIn_r _ [7, 8, 9, 10, 6, 11, 12, 13, 14, 15, 16, 17, 18, 19, 20, 21, 22, 23, 24, 25, 26, 27, 28, 29, 30, 31, 32, 33, 34, 35, 36, 37, 38, 39, 40, 41, 42, 43, 44, 45, 46, 47, 48, 49, 50, 51, 52, 53, 54, 55, 56] (by decide +kernel) (by decide +kernel)
set_option maxRecDepth 20000 in
theorem gX12_toss_X12_noSwimmer : GoodIn wsX12_toss (wsV RX12 212 RX12 yX12_noSwimmer wsX12_noSwimmer) := goodIn_app (goodIn_of _ (by decide +kernel)) ggX12_toss_X12_noSwimmer
theorem dX12_toss_0 : decode cX12_toss 0 = .ok (.aload_n 0, 1) := by decide +kernel
theorem dX12_toss_1 : decode cX12_toss 1 = .ok (.iload_n 1, 1) := by decide +kernel
theorem dX12_toss_2 : decode cX12_toss 2 = .ok (.invokevirtual 212, 3) := by decide +kernel
theorem dX12_toss_5 : decode cX12_toss 5 = .ok (.istore_n 2, 1) := by decide +kernel
theorem dX12_toss_6 : decode cX12_toss 6 = .ok (.iload_n 2, 1) := by decide +kernel
theorem dX12_toss_7 : decode cX12_toss 7 = .ok (.ifCond .ge 7, 3) := by decide +kernel
theorem dX12_toss_10 : decode cX12_toss 10 = .ok (.iload_n 2, 1) := by decide +kernel
theorem dX12_toss_11 : decode cX12_toss 11 = .ok (.goto 23, 3) := by decide +kernel
theorem dX12_toss_14 : decode cX12_toss 14 = .ok (.aload_n 0, 1) := by decide +kernel
theorem dX12_toss_15 : decode cX12_toss 15 = .ok (.getfield 108, 3) := by decide +kernel
theorem dX12_toss_18 : decode cX12_toss 18 = .ok (.iload_n 1, 1) := by decide +kernel
theorem dX12_toss_19 : decode cX12_toss 19 = .ok (.iaload, 1) := by decide +kernel
theorem dX12_toss_20 : decode cX12_toss 20 = .ok (.ifCond .ne 8, 3) := by decide +kernel
theorem dX12_toss_23 : decode cX12_toss 23 = .ok (.bipush (-15), 2) := by decide +kernel
theorem dX12_toss_25 : decode cX12_toss 25 = .ok (.goto 9, 3) := by decide +kernel
theorem dX12_toss_28 : decode cX12_toss 28 = .ok (.aload_n 0, 1) := by decide +kernel
theorem dX12_toss_29 : decode cX12_toss 29 = .ok (.getfield 105, 3) := by decide +kernel
theorem dX12_toss_32 : decode cX12_toss 32 = .ok (.iload_n 1, 1) := by decide +kernel
theorem dX12_toss_33 : decode cX12_toss 33 = .ok (.iaload, 1) := by decide +kernel
theorem dX12_toss_34 : decode cX12_toss 34 = .ok (.ireturn, 1) := by decide +kernel
