theorem dX5_init_0 : decode cX5_init 0 = .ok (.aload_n 0, 1) := by decide +kernel
theorem dX5_init_1 : decode cX5_init 1 = .ok (.invokespecial 1, 3) := by decide +kernel
theorem dX5_init_4 : decode cX5_init 4 = .ok (.aload_n 0, 1) := by decide +kernel
theorem dX5_init_5 : decode cX5_init 5 = .ok (.iconst 4, 1) := by decide +kernel
theorem dX5_init_6 : decode cX5_init 6 = .ok (.newarray .int, 2) := by decide +kernel
theorem dX5_init_8 : decode cX5_init 8 = .ok (.putfield 7, 3) := by decide +kernel
theorem dX5_init_11 : decode cX5_init 11 = .ok (.aload_n 0, 1) := by decide +kernel
theorem dX5_init_12 : decode cX5_init 12 = .ok (.iconst 4, 1) := by decide +kernel
theorem dX5_init_13 : decode cX5_init 13 = .ok (.newarray .int, 2) := by decide +kernel
theorem dX5_init_15 : decode cX5_init 15 = .ok (.putfield 13, 3) := by decide +kernel
theorem dX5_init_18 : decode cX5_init 18 = .ok (.aload_n 0, 1) := by decide +kernel
theorem dX5_init_19 : decode cX5_init 19 = .ok (.iconst 4, 1) := by decide +kernel
theorem dX5_init_20 : decode cX5_init 20 = .ok (.newarray .int, 2) := by decide +kernel
theorem dX5_init_22 : decode cX5_init 22 = .ok (.putfield 16, 3) := by decide +kernel
theorem dX5_init_25 : decode cX5_init 25 = .ok (.aload_n 0, 1) := by decide +kernel
theorem dX5_init_26 : decode cX5_init 26 = .ok (.iconst 4, 1) := by decide +kernel
theorem dX5_init_27 : decode cX5_init 27 = .ok (.newarray .int, 2) := by decide +kernel
theorem dX5_init_29 : decode cX5_init 29 = .ok (.putfield 19, 3) := by decide +kernel
theorem dX5_init_32 : decode cX5_init 32 = .ok (.aload_n 0, 1) := by decide +kernel
theorem dX5_init_33 : decode cX5_init 33 = .ok (.iconst 4, 1) := by decide +kernel
theorem dX5_init_34 : decode cX5_init 34 = .ok (.newarray .int, 2) := by decide +kernel
theorem dX5_init_36 : decode cX5_init 36 = .ok (.putfield 22, 3) := by decide +kernel
theorem dX5_init_39 : decode cX5_init 39 = .ok (.aload_n 0, 1) := by decide +kernel
theorem dX5_init_40 : decode cX5_init 40 = .ok (.iconst 4, 1) := by decide +kernel
theorem dX5_init_41 : decode cX5_init 41 = .ok (.newarray .int, 2) := by decide +kernel
theorem dX5_init_43 : decode cX5_init 43 = .ok (.putfield 25, 3) := by decide +kernel
theorem dX5_init_46 : decode cX5_init 46 = .ok (.aload_n 0, 1) := by decide +kernel
theorem dX5_init_47 : decode cX5_init 47 = .ok (.bipush 32, 2) := by decide +kernel
theorem dX5_init_49 : decode cX5_init 49 = .ok (.newarray .int, 2) := by decide +kernel
theorem dX5_init_51 : decode cX5_init 51 = .ok (.putfield 28, 3) := by decide +kernel
theorem dX5_init_54 : decode cX5_init 54 = .ok (.aload_n 0, 1) := by decide +kernel
theorem dX5_init_55 : decode cX5_init 55 = .ok (.bipush 32, 2) := by decide +kernel
theorem dX5_init_57 : decode cX5_init 57 = .ok (.newarray .int, 2) := by decide +kernel
theorem dX5_init_59 : decode cX5_init 59 = .ok (.putfield 31, 3) := by decide +kernel
theorem dX5_init_62 : decode cX5_init 62 = .ok (.aload_n 0, 1) := by decide +kernel
theorem dX5_init_63 : decode cX5_init 63 = .ok (.bipush 32, 2) := by decide +kernel
theorem dX5_init_65 : decode cX5_init 65 = .ok (.newarray .int, 2) := by decide +kernel
theorem dX5_init_67 : decode cX5_init 67 = .ok (.putfield 34, 3) := by decide +kernel
theorem dX5_init_70 : decode cX5_init 70 = .ok (.aload_n 0, 1) := by decide +kernel
theorem dX5_init_71 : decode cX5_init 71 = .ok (.bipush 32, 2) := by decide +kernel
theorem dX5_init_73 : decode cX5_init 73 = .ok (.newarray .int, 2) := by decide +kernel
theorem dX5_init_75 : decode cX5_init 75 = .ok (.putfield 37, 3) := by decide +kernel
theorem dX5_init_78 : decode cX5_init 78 = .ok (.aload_n 0, 1) := by decide +kernel
theorem dX5_init_79 : decode cX5_init 79 = .ok (.bipush 30, 2) := by decide +kernel
theorem dX5_init_81 : decode cX5_init 81 = .ok (.newarray .int, 2) := by decide +kernel
theorem dX5_init_83 : decode cX5_init 83 = .ok (.putfield 40, 3) := by decide +kernel
theorem dX5_init_86 : decode cX5_init 86 = .ok (.aload_n 0, 1) := by decide +kernel
theorem dX5_init_87 : decode cX5_init 87 = .ok (.bipush 30, 2) := by decide +kernel
theorem dX5_init_89 : decode cX5_init 89 = .ok (.newarray .int, 2) := by decide +kernel
theorem dX5_init_91 : decode cX5_init 91 = .ok (.putfield 43, 3) := by decide +kernel
theorem dX5_init_94 : decode cX5_init 94 = .ok (.aload_n 0, 1) := by decide +kernel
theorem dX5_init_95 : decode cX5_init 95 = .ok (.bipush 30, 2) := by decide +kernel
theorem dX5_init_97 : decode cX5_init 97 = .ok (.newarray .int, 2) := by decide +kernel
theorem dX5_init_99 : decode cX5_init 99 = .ok (.putfield 46, 3) := by decide +kernel
theorem dX5_init_102 : decode cX5_init 102 = .ok (.aload_n 0, 1) := by decide +kernel
theorem dX5_init_103 : decode cX5_init 103 = .ok (.bipush 30, 2) := by decide +kernel
theorem dX5_init_105 : decode cX5_init 105 = .ok (.newarray .int, 2) := by decide +kernel
theorem dX5_init_107 : decode cX5_init 107 = .ok (.putfield 49, 3) := by decide +kernel
theorem dX5_init_110 : decode cX5_init 110 = .ok (.aload_n 0, 1) := by decide +kernel
theorem dX5_init_111 : decode cX5_init 111 = .ok (.bipush 30, 2) := by decide +kernel
theorem dX5_init_113 : decode cX5_init 113 = .ok (.newarray .int, 2) := by decide +kernel
theorem dX5_init_115 : decode cX5_init 115 = .ok (.putfield 52, 3) := by decide +kernel
theorem dX5_init_118 : decode cX5_init 118 = .ok (.aload_n 0, 1) := by decide +kernel
theorem dX5_init_119 : decode cX5_init 119 = .ok (.bipush 30, 2) := by decide +kernel
theorem dX5_init_121 : decode cX5_init 121 = .ok (.newarray .int, 2) := by decide +kernel
theorem dX5_init_123 : decode cX5_init 123 = .ok (.putfield 55, 3) := by decide +kernel
theorem dX5_init_126 : decode cX5_init 126 = .ok (.aload_n 0, 1) := by decide +kernel
theorem dX5_init_127 : decode cX5_init 127 = .ok (.bipush 30, 2) := by decide +kernel
theorem dX5_init_129 : decode cX5_init 129 = .ok (.newarray .int, 2) := by decide +kernel
theorem dX5_init_131 : decode cX5_init 131 = .ok (.putfield 58, 3) := by decide +kernel
theorem dX5_init_134 : decode cX5_init 134 = .ok (.aload_n 0, 1) := by decide +kernel
theorem dX5_init_135 : decode cX5_init 135 = .ok (.sipush 240, 3) := by decide +kernel
theorem dX5_init_138 : decode cX5_init 138 = .ok (.newarray .int, 2) := by decide +kernel
theorem dX5_init_140 : decode cX5_init 140 = .ok (.putfield 61, 3) := by decide +kernel
theorem dX5_init_143 : decode cX5_init 143 = .ok (.aload_n 0, 1) := by decide +kernel
theorem dX5_init_144 : decode cX5_init 144 = .ok (.iconst 3, 1) := by decide +kernel
theorem dX5_init_145 : decode cX5_init 145 = .ok (.newarray .int, 2) := by decide +kernel
theorem dX5_init_147 : decode cX5_init 147 = .ok (.putfield 64, 3) := by decide +kernel
theorem dX5_init_150 : decode cX5_init 150 = .ok (.aload_n 0, 1) := by decide +kernel
theorem dX5_init_151 : decode cX5_init 151 = .ok (.iconst 3, 1) := by decide +kernel
theorem dX5_init_152 : decode cX5_init 152 = .ok (.newarray .int, 2) := by decide +kernel
theorem dX5_init_154 : decode cX5_init 154 = .ok (.putfield 67, 3) := by decide +kernel
theorem dX5_init_157 : decode cX5_init 157 = .ok (.aload_n 0, 1) := by decide +kernel
theorem dX5_init_158 : decode cX5_init 158 = .ok (.iconst 3, 1) := by decide +kernel
theorem dX5_init_159 : decode cX5_init 159 = .ok (.newarray .int, 2) := by decide +kernel
theorem dX5_init_161 : decode cX5_init 161 = .ok (.putfield 70, 3) := by decide +kernel
theorem dX5_init_164 : decode cX5_init 164 = .ok (.aload_n 0, 1) := by decide +kernel
theorem dX5_init_165 : decode cX5_init 165 = .ok (.iconst 3, 1) := by decide +kernel
theorem dX5_init_166 : decode cX5_init 166 = .ok (.newarray .boolean, 2) := by decide +kernel
theorem dX5_init_168 : decode cX5_init 168 = .ok (.putfield 73, 3) := by decide +kernel
theorem dX5_init_171 : decode cX5_init 171 = .ok (.aload_n 0, 1) := by decide +kernel
theorem dX5_init_172 : decode cX5_init 172 = .ok (.bipush 30, 2) := by decide +kernel
theorem dX5_init_174 : decode cX5_init 174 = .ok (.newarray .int, 2) := by decide +kernel
theorem dX5_init_176 : decode cX5_init 176 = .ok (.putfield 77, 3) := by decide +kernel
theorem dX5_init_179 : decode cX5_init 179 = .ok (.aload_n 0, 1) := by decide +kernel
theorem dX5_init_180 : decode cX5_init 180 = .ok (.bipush 30, 2) := by decide +kernel
theorem dX5_init_182 : decode cX5_init 182 = .ok (.newarray .int, 2) := by decide +kernel
theorem dX5_init_184 : decode cX5_init 184 = .ok (.putfield 80, 3) := by decide +kernel
theorem dX5_init_187 : decode cX5_init 187 = .ok (.aload_n 0, 1) := by decide +kernel
theorem dX5_init_188 : decode cX5_init 188 = .ok (.bipush 30, 2) := by decide +kernel
theorem dX5_init_190 : decode cX5_init 190 = .ok (.newarray .int, 2) := by decide +kernel
theorem dX5_init_192 : decode cX5_init 192 = .ok (.putfield 83, 3) := by decide +kernel
theorem dX5_init_195 : decode cX5_init 195 = .ok (.aload_n 0, 1) := by decide +kernel
theorem dX5_init_196 : decode cX5_init 196 = .ok (.bipush 30, 2) := by decide +kernel
theorem dX5_init_198 : decode cX5_init 198 = .ok (.newarray .int, 2) := by decide +kernel
theorem dX5_init_200 : decode cX5_init 200 = .ok (.putfield 86, 3) := by decide +kernel
theorem dX5_init_203 : decode cX5_init 203 = .ok (.aload_n 0, 1) := by decide +kernel
theorem dX5_init_204 : decode cX5_init 204 = .ok (.sipush 256, 3) := by decide +kernel
theorem dX5_init_207 : decode cX5_init 207 = .ok (.newarray .int, 2) := by decide +kernel
theorem dX5_init_209 : decode cX5_init 209 = .ok (.putfield 89, 3) := by decide +kernel
theorem dX5_init_212 : decode cX5_init 212 = .ok (.iconst 0, 1) := by decide +kernel
theorem dX5_init_213 : decode cX5_init 213 = .ok (.istore_n 1, 1) := by decide +kernel
theorem dX5_init_214 : decode cX5_init 214 = .ok (.iload_n 1, 1) := by decide +kernel
theorem dX5_init_215 : decode cX5_init 215 = .ok (.iconst 3, 1) := by decide +kernel
theorem dX5_init_216 : decode cX5_init 216 = .ok (.if_icmp .ge 23, 3) := by decide +kernel
theorem dX5_init_219 : decode cX5_init 219 = .ok (.aload_n 0, 1) := by decide +kernel
theorem dX5_init_220 : decode cX5_init 220 = .ok (.getfield 64, 3) := by decide +kernel
theorem dX5_init_223 : decode cX5_init 223 = .ok (.iload_n 1, 1) := by decide +kernel
theorem dX5_init_224 : decode cX5_init 224 = .ok (.iconst (-1), 1) := by decide +kernel
theorem dX5_init_225 : decode cX5_init 225 = .ok (.iastore, 1) := by decide +kernel
theorem dX5_init_226 : decode cX5_init 226 = .ok (.aload_n 0, 1) := by decide +kernel
theorem dX5_init_227 : decode cX5_init 227 = .ok (.getfield 67, 3) := by decide +kernel
theorem dX5_init_230 : decode cX5_init 230 = .ok (.iload_n 1, 1) := by decide +kernel
theorem dX5_init_231 : decode cX5_init 231 = .ok (.iconst (-1), 1) := by decide +kernel
theorem dX5_init_232 : decode cX5_init 232 = .ok (.iastore, 1) := by decide +kernel
theorem dX5_init_233 : decode cX5_init 233 = .ok (.iinc 1 1, 3) := by decide +kernel
theorem dX5_init_236 : decode cX5_init 236 = .ok (.goto (-22), 3) := by decide +kernel
theorem dX5_init_239 : decode cX5_init 239 = .ok (.return_, 1) := by decide +kernel
theorem dX5_thrown_0 : decode cX5_thrown 0 = .ok (.aload_n 0, 1) := by decide +kernel
theorem dX5_thrown_1 : decode cX5_thrown 1 = .ok (.getfield 92, 3) := by decide +kernel
theorem dX5_thrown_4 : decode cX5_thrown 4 = .ok (.ireturn, 1) := by decide +kernel
theorem dX5_in_0 : decode cX5_in 0 = .ok (.iload_n 0, 1) := by decide +kernel
theorem dX5_in_1 : decode cX5_in 1 = .ok (.iload_n 1, 1) := by decide +kernel
theorem dX5_in_2 : decode cX5_in 2 = .ok (.if_icmp .lt 12, 3) := by decide +kernel
theorem dX5_in_5 : decode cX5_in 5 = .ok (.iload_n 0, 1) := by decide +kernel
theorem dX5_in_6 : decode cX5_in 6 = .ok (.iload_n 2, 1) := by decide +kernel
theorem dX5_in_7 : decode cX5_in 7 = .ok (.if_icmp .gt 7, 3) := by decide +kernel
theorem dX5_in_10 : decode cX5_in 10 = .ok (.iconst 1, 1) := by decide +kernel
theorem dX5_in_11 : decode cX5_in 11 = .ok (.goto 4, 3) := by decide +kernel
theorem dX5_in_14 : decode cX5_in 14 = .ok (.iconst 0, 1) := by decide +kernel
theorem dX5_in_15 : decode cX5_in 15 = .ok (.ireturn, 1) := by decide +kernel
theorem dX5_refused_0 : decode cX5_refused 0 = .ok (.aload_n 0, 1) := by decide +kernel
theorem dX5_refused_1 : decode cX5_refused 1 = .ok (.iload_n 1, 1) := by decide +kernel
theorem dX5_refused_2 : decode cX5_refused 2 = .ok (.putfield 92, 3) := by decide +kernel
theorem dX5_refused_5 : decode cX5_refused 5 = .ok (.iload_n 1, 1) := by decide +kernel
theorem dX5_refused_6 : decode cX5_refused 6 = .ok (.ifCond .eq 7, 3) := by decide +kernel
theorem dX5_refused_9 : decode cX5_refused 9 = .ok (.iconst 1, 1) := by decide +kernel
theorem dX5_refused_10 : decode cX5_refused 10 = .ok (.goto 4, 3) := by decide +kernel
theorem dX5_refused_13 : decode cX5_refused 13 = .ok (.iconst 0, 1) := by decide +kernel
theorem dX5_refused_14 : decode cX5_refused 14 = .ok (.ireturn, 1) := by decide +kernel
set_option maxRecDepth 20000 in
theorem ggX5_isRoom_X5_in : GoodIn wsX5_isRoom wsX5_in := goodIn_r _ [5] (by decide +kernel) (by decide +kernel)
set_option maxRecDepth 20000 in
theorem gX5_isRoom_X5_in : GoodIn wsX5_isRoom (va_wsS RX5 99 yX5_in wsX5_in) := goodIn_app (goodIn_of _ (by decide +kernel)) ggX5_isRoom_X5_in
theorem dX5_isRoom_0 : decode cX5_isRoom 0 = .ok (.iload_n 1, 1) := by decide +kernel
theorem dX5_isRoom_1 : decode cX5_isRoom 1 = .ok (.iconst 0, 1) := by decide +kernel
theorem dX5_isRoom_2 : decode cX5_isRoom 2 = .ok (.aload_n 0, 1) := by decide +kernel
theorem dX5_isRoom_3 : decode cX5_isRoom 3 = .ok (.getfield 96, 3) := by decide +kernel
theorem dX5_isRoom_6 : decode cX5_isRoom 6 = .ok (.iconst 1, 1) := by decide +kernel
theorem dX5_isRoom_7 : decode cX5_isRoom 7 = .ok (.isub, 1) := by decide +kernel
theorem dX5_isRoom_8 : decode cX5_isRoom 8 = .ok (.invokestatic 99, 3) := by decide +kernel
theorem dX5_isRoom_11 : decode cX5_isRoom 11 = .ok (.ireturn, 1) := by decide +kernel
set_option maxRecDepth 20000 in
theorem ggX5_isGroup_X5_in : GoodIn wsX5_isGroup wsX5_in := goodIn_r _ [5] (by decide +kernel) (by decide +kernel)
set_option maxRecDepth 20000 in
theorem gX5_isGroup_X5_in : GoodIn wsX5_isGroup (va_wsS RX5 99 yX5_in wsX5_in) := goodIn_app (goodIn_of _ (by decide +kernel)) ggX5_isGroup_X5_in
theorem dX5_isGroup_0 : decode cX5_isGroup 0 = .ok (.iload_n 1, 1) := by decide +kernel
theorem dX5_isGroup_1 : decode cX5_isGroup 1 = .ok (.iconst 0, 1) := by decide +kernel
theorem dX5_isGroup_2 : decode cX5_isGroup 2 = .ok (.aload_n 0, 1) := by decide +kernel
theorem dX5_isGroup_3 : decode cX5_isGroup 3 = .ok (.getfield 103, 3) := by decide +kernel
theorem dX5_isGroup_6 : decode cX5_isGroup 6 = .ok (.iconst 1, 1) := by decide +kernel
theorem dX5_isGroup_7 : decode cX5_isGroup 7 = .ok (.isub, 1) := by decide +kernel
theorem dX5_isGroup_8 : decode cX5_isGroup 8 = .ok (.invokestatic 99, 3) := by decide +kernel
theorem dX5_isGroup_11 : decode cX5_isGroup 11 = .ok (.ireturn, 1) := by decide +kernel
set_option maxRecDepth 20000 in
theorem ggX5_isCrew_X5_in : GoodIn wsX5_isCrew wsX5_in := goodIn_r _ [4] (by decide +kernel) (by decide +kernel)
set_option maxRecDepth 20000 in
theorem gX5_isCrew_X5_in : GoodIn wsX5_isCrew (va_wsS RX5 99 yX5_in wsX5_in) := goodIn_app (goodIn_of _ (by decide +kernel)) ggX5_isCrew_X5_in
theorem dX5_isCrew_0 : decode cX5_isCrew 0 = .ok (.iload_n 0, 1) := by decide +kernel
theorem dX5_isCrew_1 : decode cX5_isCrew 1 = .ok (.iconst 0, 1) := by decide +kernel
theorem dX5_isCrew_2 : decode cX5_isCrew 2 = .ok (.iconst 2, 1) := by decide +kernel
theorem dX5_isCrew_3 : decode cX5_isCrew 3 = .ok (.invokestatic 99, 3) := by decide +kernel
theorem dX5_isCrew_6 : decode cX5_isCrew 6 = .ok (.ireturn, 1) := by decide +kernel
set_option maxRecDepth 20000 in
theorem ggX5_isBooking_X5_in : GoodIn wsX5_isBooking wsX5_in := goodIn_r _ [5] (by decide +kernel) (by decide +kernel)
set_option maxRecDepth 20000 in
theorem gX5_isBooking_X5_in : GoodIn wsX5_isBooking (va_wsS RX5 99 yX5_in wsX5_in) := goodIn_app (goodIn_of _ (by decide +kernel)) ggX5_isBooking_X5_in
theorem dX5_isBooking_0 : decode cX5_isBooking 0 = .ok (.iload_n 1, 1) := by decide +kernel
theorem dX5_isBooking_1 : decode cX5_isBooking 1 = .ok (.iconst 0, 1) := by decide +kernel
theorem dX5_isBooking_2 : decode cX5_isBooking 2 = .ok (.aload_n 0, 1) := by decide +kernel
theorem dX5_isBooking_3 : decode cX5_isBooking 3 = .ok (.getfield 106, 3) := by decide +kernel
theorem dX5_isBooking_6 : decode cX5_isBooking 6 = .ok (.iconst 1, 1) := by decide +kernel
theorem dX5_isBooking_7 : decode cX5_isBooking 7 = .ok (.isub, 1) := by decide +kernel
theorem dX5_isBooking_8 : decode cX5_isBooking 8 = .ok (.invokestatic 99, 3) := by decide +kernel
theorem dX5_isBooking_11 : decode cX5_isBooking 11 = .ok (.ireturn, 1) := by decide +kernel
theorem dX5_isOut_0 : decode cX5_isOut 0 = .ok (.aload_n 0, 1) := by decide +kernel
theorem dX5_isOut_1 : decode cX5_isOut 1 = .ok (.getfield 34, 3) := by decide +kernel
theorem dX5_isOut_4 : decode cX5_isOut 4 = .ok (.iload_n 1, 1) := by decide +kernel
theorem dX5_isOut_5 : decode cX5_isOut 5 = .ok (.iaload, 1) := by decide +kernel
theorem dX5_isOut_6 : decode cX5_isOut 6 = .ok (.iconst (-1), 1) := by decide +kernel
theorem dX5_isOut_7 : decode cX5_isOut 7 = .ok (.if_icmp .eq 24, 3) := by decide +kernel
theorem dX5_isOut_10 : decode cX5_isOut 10 = .ok (.aload_n 0, 1) := by decide +kernel
theorem dX5_isOut_11 : decode cX5_isOut 11 = .ok (.getfield 109, 3) := by decide +kernel
theorem dX5_isOut_14 : decode cX5_isOut 14 = .ok (.aload_n 0, 1) := by decide +kernel
theorem dX5_isOut_15 : decode cX5_isOut 15 = .ok (.getfield 34, 3) := by decide +kernel
theorem dX5_isOut_18 : decode cX5_isOut 18 = .ok (.iload_n 1, 1) := by decide +kernel
theorem dX5_isOut_19 : decode cX5_isOut 19 = .ok (.iaload, 1) := by decide +kernel
theorem dX5_isOut_20 : decode cX5_isOut 20 = .ok (.ishr, 1) := by decide +kernel
theorem dX5_isOut_21 : decode cX5_isOut 21 = .ok (.iconst 1, 1) := by decide +kernel
theorem dX5_isOut_22 : decode cX5_isOut 22 = .ok (.iand, 1) := by decide +kernel
theorem dX5_isOut_23 : decode cX5_isOut 23 = .ok (.iconst 1, 1) := by decide +kernel
theorem dX5_isOut_24 : decode cX5_isOut 24 = .ok (.if_icmp .ne 7, 3) := by decide +kernel
theorem dX5_isOut_27 : decode cX5_isOut 27 = .ok (.iconst 1, 1) := by decide +kernel
theorem dX5_isOut_28 : decode cX5_isOut 28 = .ok (.goto 4, 3) := by decide +kernel
theorem dX5_isOut_31 : decode cX5_isOut 31 = .ok (.iconst 0, 1) := by decide +kernel
theorem dX5_isOut_32 : decode cX5_isOut 32 = .ok (.ireturn, 1) := by decide +kernel
set_option maxRecDepth 20000 in
theorem ggX5_hadOf_X5_isOut : GoodIn wsX5_hadOf wsX5_isOut := goodIn_r _ [8, 9, 10, 11, 12, 13, 14, 15, 16, 17, 18, 19, 20, 21, 22, 23, 24, 25, 26, 27, 28, 29, 30, 31, 32, 33, 34, 35, 36, 37, 38, 39, 40, 41, 42, 43] (by decide +kernel) (by decide +kernel)
set_option maxRecDepth 20000 in
theorem gX5_hadOf_X5_isOut : GoodIn wsX5_hadOf (wsV RX5 112 RX5 yX5_isOut wsX5_isOut) := goodIn_app (goodIn_of _ (by decide +kernel)) ggX5_hadOf_X5_isOut
theorem dX5_hadOf_0 : decode cX5_hadOf 0 = .ok (.iload_n 2, 1) := by decide +kernel
theorem dX5_hadOf_1 : decode cX5_hadOf 1 = .ok (.istore_n 3, 1) := by decide +kernel
theorem dX5_hadOf_2 : decode cX5_hadOf 2 = .ok (.iconst (-1), 1) := by decide +kernel
theorem dX5_hadOf_3 : decode cX5_hadOf 3 = .ok (.istore 4, 2) := by decide +kernel
theorem dX5_hadOf_5 : decode cX5_hadOf 5 = .ok (.iload_n 3, 1) := by decide +kernel
theorem dX5_hadOf_6 : decode cX5_hadOf 6 = .ok (.iload 4, 2) := by decide +kernel
theorem dX5_hadOf_8 : decode cX5_hadOf 8 = .ok (.if_icmp .eq 74, 3) := by decide +kernel
theorem dX5_hadOf_11 : decode cX5_hadOf 11 = .ok (.iload_n 3, 1) := by decide +kernel
theorem dX5_hadOf_12 : decode cX5_hadOf 12 = .ok (.istore 4, 2) := by decide +kernel
theorem dX5_hadOf_14 : decode cX5_hadOf 14 = .ok (.bipush 8, 2) := by decide +kernel
theorem dX5_hadOf_16 : decode cX5_hadOf 16 = .ok (.iload_n 1, 1) := by decide +kernel
theorem dX5_hadOf_17 : decode cX5_hadOf 17 = .ok (.imul, 1) := by decide +kernel
theorem dX5_hadOf_18 : decode cX5_hadOf 18 = .ok (.istore 5, 2) := by decide +kernel
theorem dX5_hadOf_20 : decode cX5_hadOf 20 = .ok (.iload 5, 2) := by decide +kernel
theorem dX5_hadOf_22 : decode cX5_hadOf 22 = .ok (.bipush 8, 2) := by decide +kernel
theorem dX5_hadOf_24 : decode cX5_hadOf 24 = .ok (.iload_n 1, 1) := by decide +kernel
theorem dX5_hadOf_25 : decode cX5_hadOf 25 = .ok (.imul, 1) := by decide +kernel
theorem dX5_hadOf_26 : decode cX5_hadOf 26 = .ok (.aload_n 0, 1) := by decide +kernel
theorem dX5_hadOf_27 : decode cX5_hadOf 27 = .ok (.getfield 13, 3) := by decide +kernel
theorem dX5_hadOf_30 : decode cX5_hadOf 30 = .ok (.iload_n 1, 1) := by decide +kernel
theorem dX5_hadOf_31 : decode cX5_hadOf 31 = .ok (.iaload, 1) := by decide +kernel
theorem dX5_hadOf_32 : decode cX5_hadOf 32 = .ok (.iadd, 1) := by decide +kernel
theorem dX5_hadOf_33 : decode cX5_hadOf 33 = .ok (.if_icmp .ge 46, 3) := by decide +kernel
theorem dX5_hadOf_36 : decode cX5_hadOf 36 = .ok (.iload_n 3, 1) := by decide +kernel
theorem dX5_hadOf_37 : decode cX5_hadOf 37 = .ok (.aload_n 0, 1) := by decide +kernel
theorem dX5_hadOf_38 : decode cX5_hadOf 38 = .ok (.iload 5, 2) := by decide +kernel
theorem dX5_hadOf_40 : decode cX5_hadOf 40 = .ok (.invokevirtual 112, 3) := by decide +kernel
theorem dX5_hadOf_43 : decode cX5_hadOf 43 = .ok (.ifCond .ne 27, 3) := by decide +kernel
theorem dX5_hadOf_46 : decode cX5_hadOf 46 = .ok (.aload_n 0, 1) := by decide +kernel
theorem dX5_hadOf_47 : decode cX5_hadOf 47 = .ok (.getfield 28, 3) := by decide +kernel
theorem dX5_hadOf_50 : decode cX5_hadOf 50 = .ok (.iload 5, 2) := by decide +kernel
theorem dX5_hadOf_52 : decode cX5_hadOf 52 = .ok (.iaload, 1) := by decide +kernel
theorem dX5_hadOf_53 : decode cX5_hadOf 53 = .ok (.iload_n 3, 1) := by decide +kernel
theorem dX5_hadOf_54 : decode cX5_hadOf 54 = .ok (.iconst (-1), 1) := by decide +kernel
theorem dX5_hadOf_55 : decode cX5_hadOf 55 = .ok (.ixor, 1) := by decide +kernel
theorem dX5_hadOf_56 : decode cX5_hadOf 56 = .ok (.iand, 1) := by decide +kernel
theorem dX5_hadOf_57 : decode cX5_hadOf 57 = .ok (.ifCond .ne 13, 3) := by decide +kernel
theorem dX5_hadOf_60 : decode cX5_hadOf 60 = .ok (.aload_n 0, 1) := by decide +kernel
theorem dX5_hadOf_61 : decode cX5_hadOf 61 = .ok (.getfield 31, 3) := by decide +kernel
theorem dX5_hadOf_64 : decode cX5_hadOf 64 = .ok (.iload 5, 2) := by decide +kernel
theorem dX5_hadOf_66 : decode cX5_hadOf 66 = .ok (.iaload, 1) := by decide +kernel
theorem dX5_hadOf_67 : decode cX5_hadOf 67 = .ok (.goto 4, 3) := by decide +kernel
theorem dX5_hadOf_70 : decode cX5_hadOf 70 = .ok (.iconst 0, 1) := by decide +kernel
theorem dX5_hadOf_71 : decode cX5_hadOf 71 = .ok (.ior, 1) := by decide +kernel
theorem dX5_hadOf_72 : decode cX5_hadOf 72 = .ok (.istore_n 3, 1) := by decide +kernel
theorem dX5_hadOf_73 : decode cX5_hadOf 73 = .ok (.iinc 5 1, 3) := by decide +kernel
theorem dX5_hadOf_76 : decode cX5_hadOf 76 = .ok (.goto (-56), 3) := by decide +kernel
theorem dX5_hadOf_79 : decode cX5_hadOf 79 = .ok (.goto (-74), 3) := by decide +kernel
theorem dX5_hadOf_82 : decode cX5_hadOf 82 = .ok (.iload_n 3, 1) := by decide +kernel
theorem dX5_hadOf_83 : decode cX5_hadOf 83 = .ok (.ireturn, 1) := by decide +kernel
set_option maxRecDepth 20000 in
theorem ggX5_isLeavable_X5_hadOf : GoodIn wsX5_isLeavable wsX5_hadOf := goodIn_r _ [7, 1, 8, 9, 10, 11, 12, 6, 13, 14, 15, 16, 17, 18, 19, 20, 21, 22, 23, 24, 25, 26, 27, 28, 29, 30, 31, 32, 33, 34, 35, 36, 37, 38, 39, 40, 41, 42, 43, 44, 45, 46, 47, 48] (by decide +kernel) (by decide +kernel)
set_option maxRecDepth 20000 in
theorem gX5_isLeavable_X5_hadOf : GoodIn wsX5_isLeavable (wsV RX5 116 RX5 yX5_hadOf wsX5_hadOf) := goodIn_app (goodIn_of _ (by decide +kernel)) ggX5_isLeavable_X5_hadOf
theorem dX5_isLeavable_0 : decode cX5_isLeavable 0 = .ok (.aload_n 0, 1) := by decide +kernel
theorem dX5_isLeavable_1 : decode cX5_isLeavable 1 = .ok (.getfield 13, 3) := by decide +kernel
theorem dX5_isLeavable_4 : decode cX5_isLeavable 4 = .ok (.iload_n 1, 1) := by decide +kernel
theorem dX5_isLeavable_5 : decode cX5_isLeavable 5 = .ok (.iaload, 1) := by decide +kernel
theorem dX5_isLeavable_6 : decode cX5_isLeavable 6 = .ok (.ifCond .le 24, 3) := by decide +kernel
theorem dX5_isLeavable_9 : decode cX5_isLeavable 9 = .ok (.aload_n 0, 1) := by decide +kernel
theorem dX5_isLeavable_10 : decode cX5_isLeavable 10 = .ok (.iload_n 1, 1) := by decide +kernel
theorem dX5_isLeavable_11 : decode cX5_isLeavable 11 = .ok (.aload_n 0, 1) := by decide +kernel
theorem dX5_isLeavable_12 : decode cX5_isLeavable 12 = .ok (.getfield 7, 3) := by decide +kernel
theorem dX5_isLeavable_15 : decode cX5_isLeavable 15 = .ok (.iload_n 1, 1) := by decide +kernel
theorem dX5_isLeavable_16 : decode cX5_isLeavable 16 = .ok (.iaload, 1) := by decide +kernel
theorem dX5_isLeavable_17 : decode cX5_isLeavable 17 = .ok (.invokevirtual 116, 3) := by decide +kernel
theorem dX5_isLeavable_20 : decode cX5_isLeavable 20 = .ok (.iconst 1, 1) := by decide +kernel
theorem dX5_isLeavable_21 : decode cX5_isLeavable 21 = .ok (.iand, 1) := by decide +kernel
theorem dX5_isLeavable_22 : decode cX5_isLeavable 22 = .ok (.iconst 1, 1) := by decide +kernel
theorem dX5_isLeavable_23 : decode cX5_isLeavable 23 = .ok (.if_icmp .ne 7, 3) := by decide +kernel
theorem dX5_isLeavable_26 : decode cX5_isLeavable 26 = .ok (.iconst 1, 1) := by decide +kernel
theorem dX5_isLeavable_27 : decode cX5_isLeavable 27 = .ok (.goto 4, 3) := by decide +kernel
theorem dX5_isLeavable_30 : decode cX5_isLeavable 30 = .ok (.iconst 0, 1) := by decide +kernel
theorem dX5_isLeavable_31 : decode cX5_isLeavable 31 = .ok (.ireturn, 1) := by decide +kernel
theorem dX5_gapOf_0 : decode cX5_gapOf 0 = .ok (.iconst 5, 1) := by decide +kernel
theorem dX5_gapOf_1 : decode cX5_gapOf 1 = .ok (.istore_n 2, 1) := by decide +kernel
theorem dX5_gapOf_2 : decode cX5_gapOf 2 = .ok (.bipush 8, 2) := by decide +kernel
theorem dX5_gapOf_4 : decode cX5_gapOf 4 = .ok (.iload_n 1, 1) := by decide +kernel
theorem dX5_gapOf_5 : decode cX5_gapOf 5 = .ok (.imul, 1) := by decide +kernel
theorem dX5_gapOf_6 : decode cX5_gapOf 6 = .ok (.istore_n 3, 1) := by decide +kernel
theorem dX5_gapOf_7 : decode cX5_gapOf 7 = .ok (.iload_n 3, 1) := by decide +kernel
theorem dX5_gapOf_8 : decode cX5_gapOf 8 = .ok (.bipush 8, 2) := by decide +kernel
theorem dX5_gapOf_10 : decode cX5_gapOf 10 = .ok (.iload_n 1, 1) := by decide +kernel
theorem dX5_gapOf_11 : decode cX5_gapOf 11 = .ok (.imul, 1) := by decide +kernel
theorem dX5_gapOf_12 : decode cX5_gapOf 12 = .ok (.aload_n 0, 1) := by decide +kernel
theorem dX5_gapOf_13 : decode cX5_gapOf 13 = .ok (.getfield 13, 3) := by decide +kernel
theorem dX5_gapOf_16 : decode cX5_gapOf 16 = .ok (.iload_n 1, 1) := by decide +kernel
theorem dX5_gapOf_17 : decode cX5_gapOf 17 = .ok (.iaload, 1) := by decide +kernel
theorem dX5_gapOf_18 : decode cX5_gapOf 18 = .ok (.iadd, 1) := by decide +kernel
theorem dX5_gapOf_19 : decode cX5_gapOf 19 = .ok (.if_icmp .ge 18, 3) := by decide +kernel
theorem dX5_gapOf_22 : decode cX5_gapOf 22 = .ok (.iload_n 2, 1) := by decide +kernel
theorem dX5_gapOf_23 : decode cX5_gapOf 23 = .ok (.aload_n 0, 1) := by decide +kernel
theorem dX5_gapOf_24 : decode cX5_gapOf 24 = .ok (.getfield 37, 3) := by decide +kernel
theorem dX5_gapOf_27 : decode cX5_gapOf 27 = .ok (.iload_n 3, 1) := by decide +kernel
theorem dX5_gapOf_28 : decode cX5_gapOf 28 = .ok (.iaload, 1) := by decide +kernel
theorem dX5_gapOf_29 : decode cX5_gapOf 29 = .ok (.iadd, 1) := by decide +kernel
theorem dX5_gapOf_30 : decode cX5_gapOf 30 = .ok (.istore_n 2, 1) := by decide +kernel
theorem dX5_gapOf_31 : decode cX5_gapOf 31 = .ok (.iinc 3 1, 3) := by decide +kernel
theorem dX5_gapOf_34 : decode cX5_gapOf 34 = .ok (.goto (-27), 3) := by decide +kernel
theorem dX5_gapOf_37 : decode cX5_gapOf 37 = .ok (.iload_n 2, 1) := by decide +kernel
theorem dX5_gapOf_38 : decode cX5_gapOf 38 = .ok (.ireturn, 1) := by decide +kernel
set_option maxRecDepth 20000 in
theorem ggX5_room_X5_in : GoodIn wsX5_room wsX5_in := goodIn_r _ [7] (by decide +kernel) (by decide +kernel)
set_option maxRecDepth 20000 in
theorem gX5_room_X5_in : GoodIn wsX5_room (va_wsS RX5 99 yX5_in wsX5_in) := goodIn_app (goodIn_of _ (by decide +kernel)) ggX5_room_X5_in
set_option maxRecDepth 20000 in
theorem ggX5_room_X5_refused : GoodIn wsX5_room wsX5_refused := goodIn_r _ [11, 12, 13, 14, 15, 16, 17, 18, 19, 20, 21, 22, 23, 24, 25, 26, 27, 28, 29, 30, 31, 32, 33, 34, 35, 36, 37, 38, 39, 40, 41, 42, 43, 44, 45] (by decide +kernel) (by decide +kernel)
set_option maxRecDepth 20000 in
theorem gX5_room_X5_refused : GoodIn wsX5_room (wsV RX5 120 RX5 yX5_refused wsX5_refused) := goodIn_app (goodIn_of _ (by decide +kernel)) ggX5_room_X5_refused
theorem dX5_room_0 : decode cX5_room 0 = .ok (.aload_n 0, 1) := by decide +kernel
theorem dX5_room_1 : decode cX5_room 1 = .ok (.iload_n 1, 1) := by decide +kernel
theorem dX5_room_2 : decode cX5_room 2 = .ok (.iconst 0, 1) := by decide +kernel
theorem dX5_room_3 : decode cX5_room 3 = .ok (.sipush 4095, 3) := by decide +kernel
theorem dX5_room_6 : decode cX5_room 6 = .ok (.invokestatic 99, 3) := by decide +kernel
theorem dX5_room_9 : decode cX5_room 9 = .ok (.ifCond .ne 7, 3) := by decide +kernel
theorem dX5_room_12 : decode cX5_room 12 = .ok (.iconst 1, 1) := by decide +kernel
theorem dX5_room_13 : decode cX5_room 13 = .ok (.goto 16, 3) := by decide +kernel
theorem dX5_room_16 : decode cX5_room 16 = .ok (.aload_n 0, 1) := by decide +kernel
theorem dX5_room_17 : decode cX5_room 17 = .ok (.getfield 96, 3) := by decide +kernel
theorem dX5_room_20 : decode cX5_room 20 = .ok (.iconst 4, 1) := by decide +kernel
theorem dX5_room_21 : decode cX5_room 21 = .ok (.if_icmp .ne 7, 3) := by decide +kernel
theorem dX5_room_24 : decode cX5_room 24 = .ok (.iconst 2, 1) := by decide +kernel
theorem dX5_room_25 : decode cX5_room 25 = .ok (.goto 4, 3) := by decide +kernel
theorem dX5_room_28 : decode cX5_room 28 = .ok (.iconst 0, 1) := by decide +kernel
theorem dX5_room_29 : decode cX5_room 29 = .ok (.invokevirtual 120, 3) := by decide +kernel
theorem dX5_room_32 : decode cX5_room 32 = .ok (.ifCond .eq 5, 3) := by decide +kernel
theorem dX5_room_35 : decode cX5_room 35 = .ok (.iconst 0, 1) := by decide +kernel
theorem dX5_room_36 : decode cX5_room 36 = .ok (.ireturn, 1) := by decide +kernel
theorem dX5_room_37 : decode cX5_room 37 = .ok (.aload_n 0, 1) := by decide +kernel
theorem dX5_room_38 : decode cX5_room 38 = .ok (.getfield 7, 3) := by decide +kernel
theorem dX5_room_41 : decode cX5_room 41 = .ok (.aload_n 0, 1) := by decide +kernel
theorem dX5_room_42 : decode cX5_room 42 = .ok (.getfield 96, 3) := by decide +kernel
theorem dX5_room_45 : decode cX5_room 45 = .ok (.iload_n 1, 1) := by decide +kernel
theorem dX5_room_46 : decode cX5_room 46 = .ok (.iastore, 1) := by decide +kernel
theorem dX5_room_47 : decode cX5_room 47 = .ok (.aload_n 0, 1) := by decide +kernel
theorem dX5_room_48 : decode cX5_room 48 = .ok (.getfield 25, 3) := by decide +kernel
theorem dX5_room_51 : decode cX5_room 51 = .ok (.aload_n 0, 1) := by decide +kernel
theorem dX5_room_52 : decode cX5_room 52 = .ok (.getfield 96, 3) := by decide +kernel
theorem dX5_room_55 : decode cX5_room 55 = .ok (.iconst (-1), 1) := by decide +kernel
theorem dX5_room_56 : decode cX5_room 56 = .ok (.iastore, 1) := by decide +kernel
theorem dX5_room_57 : decode cX5_room 57 = .ok (.aload_n 0, 1) := by decide +kernel
theorem dX5_room_58 : decode cX5_room 58 = .ok (.dup, 1) := by decide +kernel
theorem dX5_room_59 : decode cX5_room 59 = .ok (.getfield 96, 3) := by decide +kernel
theorem dX5_room_62 : decode cX5_room 62 = .ok (.iconst 1, 1) := by decide +kernel
theorem dX5_room_63 : decode cX5_room 63 = .ok (.iadd, 1) := by decide +kernel
theorem dX5_room_64 : decode cX5_room 64 = .ok (.putfield 96, 3) := by decide +kernel
theorem dX5_room_67 : decode cX5_room 67 = .ok (.aload_n 0, 1) := by decide +kernel
theorem dX5_room_68 : decode cX5_room 68 = .ok (.getfield 96, 3) := by decide +kernel
theorem dX5_room_71 : decode cX5_room 71 = .ok (.iconst 1, 1) := by decide +kernel
theorem dX5_room_72 : decode cX5_room 72 = .ok (.isub, 1) := by decide +kernel
theorem dX5_room_73 : decode cX5_room 73 = .ok (.ireturn, 1) := by decide +kernel
set_option maxRecDepth 20000 in
theorem ggX5_puzzle_X5_isRoom : GoodIn wsX5_puzzle wsX5_isRoom := goodIn_r _ [11, 12, 13, 14, 10, 15, 21, 22, 23, 24, 25, 26, 27, 28, 29, 30, 31, 32, 33, 34, 35, 36, 37, 38, 39, 40, 41, 42, 43, 44, 45, 46, 47, 48, 49, 50, 51, 52, 53] (by decide +kernel) (by decide +kernel)
set_option maxRecDepth 20000 in
theorem gX5_puzzle_X5_isRoom : GoodIn wsX5_puzzle (wsV RX5 123 RX5 yX5_isRoom wsX5_isRoom) := goodIn_app (goodIn_of _ (by decide +kernel)) ggX5_puzzle_X5_isRoom
set_option maxRecDepth 20000 in
theorem ggX5_puzzle_X5_in : GoodIn wsX5_puzzle wsX5_in := goodIn_r _ [15] (by decide +kernel) (by decide +kernel)
set_option maxRecDepth 20000 in
theorem gX5_puzzle_X5_in : GoodIn wsX5_puzzle (va_wsS RX5 99 yX5_in wsX5_in) := goodIn_app (goodIn_of _ (by decide +kernel)) ggX5_puzzle_X5_in
set_option maxRecDepth 20000 in
theorem ggX5_puzzle_X5_refused : GoodIn wsX5_puzzle wsX5_refused := goodIn_r _ [19, 20, 21, 22, 23, 24, 25, 26, 27, 28, 29, 30, 31, 32, 33, 34, 35, 36, 37, 38, 39, 40, 41, 42, 43, 44, 45, 46, 47, 48, 49, 50, 51, 52, 53] (by decide +kernel) (by decide +kernel)
set_option maxRecDepth 20000 in
theorem gX5_puzzle_X5_refused : GoodIn wsX5_puzzle (wsV RX5 120 RX5 yX5_refused wsX5_refused) := goodIn_app (goodIn_of _ (by decide +kernel)) ggX5_puzzle_X5_refused
theorem dX5_puzzle_0 : decode cX5_puzzle 0 = .ok (.aload_n 0, 1) := by decide +kernel
theorem dX5_puzzle_1 : decode cX5_puzzle 1 = .ok (.iload_n 1, 1) := by decide +kernel
theorem dX5_puzzle_2 : decode cX5_puzzle 2 = .ok (.invokevirtual 123, 3) := by decide +kernel
theorem dX5_puzzle_5 : decode cX5_puzzle 5 = .ok (.ifCond .eq 18, 3) := by decide +kernel
theorem dX5_puzzle_8 : decode cX5_puzzle 8 = .ok (.iload 4, 2) := by decide +kernel
theorem dX5_puzzle_10 : decode cX5_puzzle 10 = .ok (.iconst (-1), 1) := by decide +kernel
theorem dX5_puzzle_11 : decode cX5_puzzle 11 = .ok (.bipush 7, 2) := by decide +kernel
theorem dX5_puzzle_13 : decode cX5_puzzle 13 = .ok (.invokestatic 99, 3) := by decide +kernel
theorem dX5_puzzle_16 : decode cX5_puzzle 16 = .ok (.ifCond .eq 7, 3) := by decide +kernel
theorem dX5_puzzle_19 : decode cX5_puzzle 19 = .ok (.iconst 1, 1) := by decide +kernel
theorem dX5_puzzle_20 : decode cX5_puzzle 20 = .ok (.goto 4, 3) := by decide +kernel
theorem dX5_puzzle_23 : decode cX5_puzzle 23 = .ok (.iconst 0, 1) := by decide +kernel
theorem dX5_puzzle_24 : decode cX5_puzzle 24 = .ok (.istore 6, 2) := by decide +kernel
theorem dX5_puzzle_26 : decode cX5_puzzle 26 = .ok (.iload_n 2, 1) := by decide +kernel
theorem dX5_puzzle_27 : decode cX5_puzzle 27 = .ok (.iconst 0, 1) := by decide +kernel
theorem dX5_puzzle_28 : decode cX5_puzzle 28 = .ok (.sipush 4095, 3) := by decide +kernel
theorem dX5_puzzle_31 : decode cX5_puzzle 31 = .ok (.invokestatic 99, 3) := by decide +kernel
theorem dX5_puzzle_34 : decode cX5_puzzle 34 = .ok (.ifCond .eq 35, 3) := by decide +kernel
theorem dX5_puzzle_37 : decode cX5_puzzle 37 = .ok (.iload_n 3, 1) := by decide +kernel
theorem dX5_puzzle_38 : decode cX5_puzzle 38 = .ok (.iconst 1, 1) := by decide +kernel
theorem dX5_puzzle_39 : decode cX5_puzzle 39 = .ok (.sipush 4095, 3) := by decide +kernel
theorem dX5_puzzle_42 : decode cX5_puzzle 42 = .ok (.invokestatic 99, 3) := by decide +kernel
theorem dX5_puzzle_45 : decode cX5_puzzle 45 = .ok (.ifCond .eq 24, 3) := by decide +kernel
theorem dX5_puzzle_48 : decode cX5_puzzle 48 = .ok (.iload_n 2, 1) := by decide +kernel
theorem dX5_puzzle_49 : decode cX5_puzzle 49 = .ok (.iload_n 3, 1) := by decide +kernel
theorem dX5_puzzle_50 : decode cX5_puzzle 50 = .ok (.iand, 1) := by decide +kernel
theorem dX5_puzzle_51 : decode cX5_puzzle 51 = .ok (.ifCond .ne 18, 3) := by decide +kernel
theorem dX5_puzzle_54 : decode cX5_puzzle 54 = .ok (.iload 5, 2) := by decide +kernel
theorem dX5_puzzle_56 : decode cX5_puzzle 56 = .ok (.iconst 1, 1) := by decide +kernel
theorem dX5_puzzle_57 : decode cX5_puzzle 57 = .ok (.bipush 10, 2) := by decide +kernel
theorem dX5_puzzle_59 : decode cX5_puzzle 59 = .ok (.invokestatic 99, 3) := by decide +kernel
theorem dX5_puzzle_62 : decode cX5_puzzle 62 = .ok (.ifCond .eq 7, 3) := by decide +kernel
theorem dX5_puzzle_65 : decode cX5_puzzle 65 = .ok (.iconst 1, 1) := by decide +kernel
theorem dX5_puzzle_66 : decode cX5_puzzle 66 = .ok (.goto 4, 3) := by decide +kernel
theorem dX5_puzzle_69 : decode cX5_puzzle 69 = .ok (.iconst 0, 1) := by decide +kernel
theorem dX5_puzzle_70 : decode cX5_puzzle 70 = .ok (.istore 7, 2) := by decide +kernel
theorem dX5_puzzle_72 : decode cX5_puzzle 72 = .ok (.aload_n 0, 1) := by decide +kernel
theorem dX5_puzzle_73 : decode cX5_puzzle 73 = .ok (.iload 6, 2) := by decide +kernel
theorem dX5_puzzle_75 : decode cX5_puzzle 75 = .ok (.ifCond .ne 7, 3) := by decide +kernel
theorem dX5_puzzle_78 : decode cX5_puzzle 78 = .ok (.iconst 1, 1) := by decide +kernel
theorem dX5_puzzle_79 : decode cX5_puzzle 79 = .ok (.goto 37, 3) := by decide +kernel
theorem dX5_puzzle_82 : decode cX5_puzzle 82 = .ok (.iload 7, 2) := by decide +kernel
theorem dX5_puzzle_84 : decode cX5_puzzle 84 = .ok (.ifCond .ne 7, 3) := by decide +kernel
theorem dX5_puzzle_87 : decode cX5_puzzle 87 = .ok (.iconst 2, 1) := by decide +kernel
theorem dX5_puzzle_88 : decode cX5_puzzle 88 = .ok (.goto 28, 3) := by decide +kernel
theorem dX5_puzzle_91 : decode cX5_puzzle 91 = .ok (.aload_n 0, 1) := by decide +kernel
theorem dX5_puzzle_92 : decode cX5_puzzle 92 = .ok (.getfield 16, 3) := by decide +kernel
theorem dX5_puzzle_95 : decode cX5_puzzle 95 = .ok (.iload_n 1, 1) := by decide +kernel
theorem dX5_puzzle_96 : decode cX5_puzzle 96 = .ok (.iaload, 1) := by decide +kernel
theorem dX5_puzzle_97 : decode cX5_puzzle 97 = .ok (.ifCond .ne 14, 3) := by decide +kernel
theorem dX5_puzzle_100 : decode cX5_puzzle 100 = .ok (.aload_n 0, 1) := by decide +kernel
theorem dX5_puzzle_101 : decode cX5_puzzle 101 = .ok (.getfield 13, 3) := by decide +kernel
theorem dX5_puzzle_104 : decode cX5_puzzle 104 = .ok (.iload_n 1, 1) := by decide +kernel
theorem dX5_puzzle_105 : decode cX5_puzzle 105 = .ok (.iaload, 1) := by decide +kernel
theorem dX5_puzzle_106 : decode cX5_puzzle 106 = .ok (.bipush 8, 2) := by decide +kernel
theorem dX5_puzzle_108 : decode cX5_puzzle 108 = .ok (.if_icmp .ne 7, 3) := by decide +kernel
theorem dX5_puzzle_111 : decode cX5_puzzle 111 = .ok (.iconst 3, 1) := by decide +kernel
theorem dX5_puzzle_112 : decode cX5_puzzle 112 = .ok (.goto 4, 3) := by decide +kernel
theorem dX5_puzzle_115 : decode cX5_puzzle 115 = .ok (.iconst 0, 1) := by decide +kernel
theorem dX5_puzzle_116 : decode cX5_puzzle 116 = .ok (.invokevirtual 120, 3) := by decide +kernel
theorem dX5_puzzle_119 : decode cX5_puzzle 119 = .ok (.ifCond .eq 5, 3) := by decide +kernel
theorem dX5_puzzle_122 : decode cX5_puzzle 122 = .ok (.iconst 0, 1) := by decide +kernel
theorem dX5_puzzle_123 : decode cX5_puzzle 123 = .ok (.ireturn, 1) := by decide +kernel
theorem dX5_puzzle_124 : decode cX5_puzzle 124 = .ok (.bipush 8, 2) := by decide +kernel
theorem dX5_puzzle_126 : decode cX5_puzzle 126 = .ok (.iload_n 1, 1) := by decide +kernel
theorem dX5_puzzle_127 : decode cX5_puzzle 127 = .ok (.imul, 1) := by decide +kernel
theorem dX5_puzzle_128 : decode cX5_puzzle 128 = .ok (.aload_n 0, 1) := by decide +kernel
theorem dX5_puzzle_129 : decode cX5_puzzle 129 = .ok (.getfield 13, 3) := by decide +kernel
theorem dX5_puzzle_132 : decode cX5_puzzle 132 = .ok (.iload_n 1, 1) := by decide +kernel
theorem dX5_puzzle_133 : decode cX5_puzzle 133 = .ok (.iaload, 1) := by decide +kernel
theorem dX5_puzzle_134 : decode cX5_puzzle 134 = .ok (.iadd, 1) := by decide +kernel
theorem dX5_puzzle_135 : decode cX5_puzzle 135 = .ok (.istore 8, 2) := by decide +kernel
theorem dX5_puzzle_137 : decode cX5_puzzle 137 = .ok (.aload_n 0, 1) := by decide +kernel
theorem dX5_puzzle_138 : decode cX5_puzzle 138 = .ok (.getfield 28, 3) := by decide +kernel
theorem dX5_puzzle_141 : decode cX5_puzzle 141 = .ok (.iload 8, 2) := by decide +kernel
theorem dX5_puzzle_143 : decode cX5_puzzle 143 = .ok (.iload_n 2, 1) := by decide +kernel
theorem dX5_puzzle_144 : decode cX5_puzzle 144 = .ok (.iastore, 1) := by decide +kernel
theorem dX5_puzzle_145 : decode cX5_puzzle 145 = .ok (.aload_n 0, 1) := by decide +kernel
theorem dX5_puzzle_146 : decode cX5_puzzle 146 = .ok (.getfield 31, 3) := by decide +kernel
theorem dX5_puzzle_149 : decode cX5_puzzle 149 = .ok (.iload 8, 2) := by decide +kernel
theorem dX5_puzzle_151 : decode cX5_puzzle 151 = .ok (.iload_n 3, 1) := by decide +kernel
theorem dX5_puzzle_152 : decode cX5_puzzle 152 = .ok (.iastore, 1) := by decide +kernel
theorem dX5_puzzle_153 : decode cX5_puzzle 153 = .ok (.aload_n 0, 1) := by decide +kernel
theorem dX5_puzzle_154 : decode cX5_puzzle 154 = .ok (.getfield 34, 3) := by decide +kernel
theorem dX5_puzzle_157 : decode cX5_puzzle 157 = .ok (.iload 8, 2) := by decide +kernel
theorem dX5_puzzle_159 : decode cX5_puzzle 159 = .ok (.iload 4, 2) := by decide +kernel
theorem dX5_puzzle_161 : decode cX5_puzzle 161 = .ok (.iastore, 1) := by decide +kernel
theorem dX5_puzzle_162 : decode cX5_puzzle 162 = .ok (.aload_n 0, 1) := by decide +kernel
theorem dX5_puzzle_163 : decode cX5_puzzle 163 = .ok (.getfield 37, 3) := by decide +kernel
theorem dX5_puzzle_166 : decode cX5_puzzle 166 = .ok (.iload 8, 2) := by decide +kernel
theorem dX5_puzzle_168 : decode cX5_puzzle 168 = .ok (.iload 5, 2) := by decide +kernel
theorem dX5_puzzle_170 : decode cX5_puzzle 170 = .ok (.iastore, 1) := by decide +kernel
theorem dX5_puzzle_171 : decode cX5_puzzle 171 = .ok (.aload_n 0, 1) := by decide +kernel
theorem dX5_puzzle_172 : decode cX5_puzzle 172 = .ok (.getfield 13, 3) := by decide +kernel
theorem dX5_puzzle_175 : decode cX5_puzzle 175 = .ok (.iload_n 1, 1) := by decide +kernel
theorem dX5_puzzle_176 : decode cX5_puzzle 176 = .ok (.dup2, 1) := by decide +kernel
theorem dX5_puzzle_177 : decode cX5_puzzle 177 = .ok (.iaload, 1) := by decide +kernel
theorem dX5_puzzle_178 : decode cX5_puzzle 178 = .ok (.iconst 1, 1) := by decide +kernel
theorem dX5_puzzle_179 : decode cX5_puzzle 179 = .ok (.iadd, 1) := by decide +kernel
theorem dX5_puzzle_180 : decode cX5_puzzle 180 = .ok (.iastore, 1) := by decide +kernel
theorem dX5_puzzle_181 : decode cX5_puzzle 181 = .ok (.aload_n 0, 1) := by decide +kernel
theorem dX5_puzzle_182 : decode cX5_puzzle 182 = .ok (.getfield 13, 3) := by decide +kernel
theorem dX5_puzzle_185 : decode cX5_puzzle 185 = .ok (.iload_n 1, 1) := by decide +kernel
theorem dX5_puzzle_186 : decode cX5_puzzle 186 = .ok (.iaload, 1) := by decide +kernel
theorem dX5_puzzle_187 : decode cX5_puzzle 187 = .ok (.iconst 1, 1) := by decide +kernel
theorem dX5_puzzle_188 : decode cX5_puzzle 188 = .ok (.isub, 1) := by decide +kernel
theorem dX5_puzzle_189 : decode cX5_puzzle 189 = .ok (.ireturn, 1) := by decide +kernel
set_option maxRecDepth 20000 in
theorem ggX5_prop_X5_in : GoodIn wsX5_prop wsX5_in := goodIn_r _ [9] (by decide +kernel) (by decide +kernel)
set_option maxRecDepth 20000 in
theorem gX5_prop_X5_in : GoodIn wsX5_prop (va_wsS RX5 99 yX5_in wsX5_in) := goodIn_app (goodIn_of _ (by decide +kernel)) ggX5_prop_X5_in
set_option maxRecDepth 20000 in
theorem ggX5_prop_X5_refused : GoodIn wsX5_prop wsX5_refused := goodIn_r _ [13, 14, 35, 36, 37, 38, 39, 40, 41, 42, 43, 44, 45, 46, 47, 48, 49, 50, 51, 52, 53, 54, 55, 56, 57, 58, 59, 60, 61, 62, 63, 64, 65, 66, 67] (by decide +kernel) (by decide +kernel)
set_option maxRecDepth 20000 in
theorem gX5_prop_X5_refused : GoodIn wsX5_prop (wsV RX5 120 RX5 yX5_refused wsX5_refused) := goodIn_app (goodIn_of _ (by decide +kernel)) ggX5_prop_X5_refused
set_option maxRecDepth 20000 in
theorem ggX5_prop_X5_hadOf : GoodIn wsX5_prop wsX5_hadOf := goodIn_r _ [18, 19, 20, 21, 22, 23, 24, 8, 25, 26, 1, 35, 36, 37, 38, 39, 40, 41, 42, 43, 44, 45, 46, 47, 48, 49, 50, 51, 52, 53, 54, 55, 56, 57, 58, 59, 60, 61, 62, 63, 64, 65, 66, 67] (by decide +kernel) (by decide +kernel)
set_option maxRecDepth 20000 in
theorem gX5_prop_X5_hadOf : GoodIn wsX5_prop (wsV RX5 116 RX5 yX5_hadOf wsX5_hadOf) := goodIn_app (goodIn_of _ (by decide +kernel)) ggX5_prop_X5_hadOf
set_option maxRecDepth 20000 in
theorem ggX5_prop_X5_leaves : GoodIn wsX5_prop wsX5_leaves := goodIn_r _ [30, 31, 32, 3, 33, 34, 5, 35, 36, 37, 38, 39, 40, 41, 42, 43, 44, 45, 46, 47, 48, 49, 50, 51, 52, 53, 54, 55, 56, 57, 58, 59, 60, 61, 62, 63, 64, 65, 66, 67] (by decide +kernel) (by decide +kernel)
set_option maxRecDepth 20000 in
theorem gX5_prop_X5_leaves : GoodIn wsX5_prop (wsV RX5 126 RX5 yX5_leaves wsX5_leaves) := goodIn_app (goodIn_of _ (by decide +kernel)) ggX5_prop_X5_leaves
theorem dX5_prop_0 : decode cX5_prop 0 = .ok (.aload_n 0, 1) := by decide +kernel
theorem dX5_prop_1 : decode cX5_prop 1 = .ok (.iload_n 1, 1) := by decide +kernel
theorem dX5_prop_2 : decode cX5_prop 2 = .ok (.iconst 0, 1) := by decide +kernel
theorem dX5_prop_3 : decode cX5_prop 3 = .ok (.bipush 7, 2) := by decide +kernel
theorem dX5_prop_5 : decode cX5_prop 5 = .ok (.invokestatic 99, 3) := by decide +kernel
theorem dX5_prop_8 : decode cX5_prop 8 = .ok (.ifCond .eq 7, 3) := by decide +kernel
theorem dX5_prop_11 : decode cX5_prop 11 = .ok (.iconst 0, 1) := by decide +kernel
theorem dX5_prop_12 : decode cX5_prop 12 = .ok (.goto 4, 3) := by decide +kernel
theorem dX5_prop_15 : decode cX5_prop 15 = .ok (.iconst 1, 1) := by decide +kernel
theorem dX5_prop_16 : decode cX5_prop 16 = .ok (.invokevirtual 120, 3) := by decide +kernel
theorem dX5_prop_19 : decode cX5_prop 19 = .ok (.ifCond .eq 5, 3) := by decide +kernel
theorem dX5_prop_22 : decode cX5_prop 22 = .ok (.iconst 0, 1) := by decide +kernel
theorem dX5_prop_23 : decode cX5_prop 23 = .ok (.ireturn, 1) := by decide +kernel
theorem dX5_prop_24 : decode cX5_prop 24 = .ok (.aload_n 0, 1) := by decide +kernel
theorem dX5_prop_25 : decode cX5_prop 25 = .ok (.getfield 109, 3) := by decide +kernel
theorem dX5_prop_28 : decode cX5_prop 28 = .ok (.iload_n 1, 1) := by decide +kernel
theorem dX5_prop_29 : decode cX5_prop 29 = .ok (.ishr, 1) := by decide +kernel
theorem dX5_prop_30 : decode cX5_prop 30 = .ok (.iconst 1, 1) := by decide +kernel
theorem dX5_prop_31 : decode cX5_prop 31 = .ok (.iand, 1) := by decide +kernel
theorem dX5_prop_32 : decode cX5_prop 32 = .ok (.iconst 1, 1) := by decide +kernel
theorem dX5_prop_33 : decode cX5_prop 33 = .ok (.if_icmp .ne 7, 3) := by decide +kernel
theorem dX5_prop_36 : decode cX5_prop 36 = .ok (.iconst 1, 1) := by decide +kernel
theorem dX5_prop_37 : decode cX5_prop 37 = .ok (.goto 4, 3) := by decide +kernel
theorem dX5_prop_40 : decode cX5_prop 40 = .ok (.iconst 0, 1) := by decide +kernel
theorem dX5_prop_41 : decode cX5_prop 41 = .ok (.istore_n 3, 1) := by decide +kernel
theorem dX5_prop_42 : decode cX5_prop 42 = .ok (.aload_n 0, 1) := by decide +kernel
theorem dX5_prop_43 : decode cX5_prop 43 = .ok (.iload_n 2, 1) := by decide +kernel
theorem dX5_prop_44 : decode cX5_prop 44 = .ok (.ifCond .eq 14, 3) := by decide +kernel
theorem dX5_prop_47 : decode cX5_prop 47 = .ok (.aload_n 0, 1) := by decide +kernel
theorem dX5_prop_48 : decode cX5_prop 48 = .ok (.getfield 109, 3) := by decide +kernel
theorem dX5_prop_51 : decode cX5_prop 51 = .ok (.iconst 1, 1) := by decide +kernel
theorem dX5_prop_52 : decode cX5_prop 52 = .ok (.iload_n 1, 1) := by decide +kernel
theorem dX5_prop_53 : decode cX5_prop 53 = .ok (.ishl, 1) := by decide +kernel
theorem dX5_prop_54 : decode cX5_prop 54 = .ok (.ior, 1) := by decide +kernel
theorem dX5_prop_55 : decode cX5_prop 55 = .ok (.goto 13, 3) := by decide +kernel
theorem dX5_prop_58 : decode cX5_prop 58 = .ok (.aload_n 0, 1) := by decide +kernel
theorem dX5_prop_59 : decode cX5_prop 59 = .ok (.getfield 109, 3) := by decide +kernel
theorem dX5_prop_62 : decode cX5_prop 62 = .ok (.iconst 1, 1) := by decide +kernel
theorem dX5_prop_63 : decode cX5_prop 63 = .ok (.iload_n 1, 1) := by decide +kernel
theorem dX5_prop_64 : decode cX5_prop 64 = .ok (.ishl, 1) := by decide +kernel
theorem dX5_prop_65 : decode cX5_prop 65 = .ok (.iconst (-1), 1) := by decide +kernel
theorem dX5_prop_66 : decode cX5_prop 66 = .ok (.ixor, 1) := by decide +kernel
theorem dX5_prop_67 : decode cX5_prop 67 = .ok (.iand, 1) := by decide +kernel
theorem dX5_prop_68 : decode cX5_prop 68 = .ok (.putfield 109, 3) := by decide +kernel
theorem dX5_prop_71 : decode cX5_prop 71 = .ok (.iconst 0, 1) := by decide +kernel
theorem dX5_prop_72 : decode cX5_prop 72 = .ok (.istore 4, 2) := by decide +kernel
theorem dX5_prop_74 : decode cX5_prop 74 = .ok (.iconst 0, 1) := by decide +kernel
theorem dX5_prop_75 : decode cX5_prop 75 = .ok (.istore 5, 2) := by decide +kernel
theorem dX5_prop_77 : decode cX5_prop 77 = .ok (.iload 5, 2) := by decide +kernel
theorem dX5_prop_79 : decode cX5_prop 79 = .ok (.aload_n 0, 1) := by decide +kernel
theorem dX5_prop_80 : decode cX5_prop 80 = .ok (.getfield 96, 3) := by decide +kernel
theorem dX5_prop_83 : decode cX5_prop 83 = .ok (.if_icmp .ge 66, 3) := by decide +kernel
theorem dX5_prop_86 : decode cX5_prop 86 = .ok (.iload_n 2, 1) := by decide +kernel
theorem dX5_prop_87 : decode cX5_prop 87 = .ok (.ifCond .eq 62, 3) := by decide +kernel
theorem dX5_prop_90 : decode cX5_prop 90 = .ok (.iload_n 3, 1) := by decide +kernel
theorem dX5_prop_91 : decode cX5_prop 91 = .ok (.ifCond .ne 58, 3) := by decide +kernel
theorem dX5_prop_94 : decode cX5_prop 94 = .ok (.aload_n 0, 1) := by decide +kernel
theorem dX5_prop_95 : decode cX5_prop 95 = .ok (.getfield 16, 3) := by decide +kernel
theorem dX5_prop_98 : decode cX5_prop 98 = .ok (.iload 5, 2) := by decide +kernel
theorem dX5_prop_100 : decode cX5_prop 100 = .ok (.iaload, 1) := by decide +kernel
theorem dX5_prop_101 : decode cX5_prop 101 = .ok (.iconst 1, 1) := by decide +kernel
theorem dX5_prop_102 : decode cX5_prop 102 = .ok (.if_icmp .ne 41, 3) := by decide +kernel
theorem dX5_prop_105 : decode cX5_prop 105 = .ok (.aload_n 0, 1) := by decide +kernel
theorem dX5_prop_106 : decode cX5_prop 106 = .ok (.iload 5, 2) := by decide +kernel
theorem dX5_prop_108 : decode cX5_prop 108 = .ok (.aload_n 0, 1) := by decide +kernel
theorem dX5_prop_109 : decode cX5_prop 109 = .ok (.getfield 46, 3) := by decide +kernel
theorem dX5_prop_112 : decode cX5_prop 112 = .ok (.aload_n 0, 1) := by decide +kernel
theorem dX5_prop_113 : decode cX5_prop 113 = .ok (.getfield 25, 3) := by decide +kernel
theorem dX5_prop_116 : decode cX5_prop 116 = .ok (.iload 5, 2) := by decide +kernel
theorem dX5_prop_118 : decode cX5_prop 118 = .ok (.iaload, 1) := by decide +kernel
theorem dX5_prop_119 : decode cX5_prop 119 = .ok (.iaload, 1) := by decide +kernel
theorem dX5_prop_120 : decode cX5_prop 120 = .ok (.invokevirtual 116, 3) := by decide +kernel
theorem dX5_prop_123 : decode cX5_prop 123 = .ok (.iconst 1, 1) := by decide +kernel
theorem dX5_prop_124 : decode cX5_prop 124 = .ok (.iand, 1) := by decide +kernel
theorem dX5_prop_125 : decode cX5_prop 125 = .ok (.ifCond .ne 18, 3) := by decide +kernel
theorem dX5_prop_128 : decode cX5_prop 128 = .ok (.aload_n 0, 1) := by decide +kernel
theorem dX5_prop_129 : decode cX5_prop 129 = .ok (.aload_n 0, 1) := by decide +kernel
theorem dX5_prop_130 : decode cX5_prop 130 = .ok (.getfield 25, 3) := by decide +kernel
theorem dX5_prop_133 : decode cX5_prop 133 = .ok (.iload 5, 2) := by decide +kernel
theorem dX5_prop_135 : decode cX5_prop 135 = .ok (.iaload, 1) := by decide +kernel
theorem dX5_prop_136 : decode cX5_prop 136 = .ok (.iconst 3, 1) := by decide +kernel
theorem dX5_prop_137 : decode cX5_prop 137 = .ok (.invokevirtual 126, 3) := by decide +kernel
theorem dX5_prop_140 : decode cX5_prop 140 = .ok (.iinc 4 1, 3) := by decide +kernel
theorem dX5_prop_143 : decode cX5_prop 143 = .ok (.iinc 5 1, 3) := by decide +kernel
theorem dX5_prop_146 : decode cX5_prop 146 = .ok (.goto (-69), 3) := by decide +kernel
theorem dX5_prop_149 : decode cX5_prop 149 = .ok (.iload 4, 2) := by decide +kernel
theorem dX5_prop_151 : decode cX5_prop 151 = .ok (.ireturn, 1) := by decide +kernel
set_option maxRecDepth 20000 in
theorem ggX5_had_X5_isRoom : GoodIn wsX5_had wsX5_isRoom := goodIn_r _ [5, 6, 7, 8, 4, 9, 28, 29, 30, 31, 32, 33, 34, 35, 36, 37, 38, 39, 40, 41, 42, 43, 44, 45, 46, 47, 48, 49, 50, 51, 52, 53, 54, 55, 56, 57, 58, 59, 60] (by decide +kernel) (by decide +kernel)
set_option maxRecDepth 20000 in
theorem gX5_had_X5_isRoom : GoodIn wsX5_had (wsV RX5 123 RX5 yX5_isRoom wsX5_isRoom) := goodIn_app (goodIn_of _ (by decide +kernel)) ggX5_had_X5_isRoom
set_option maxRecDepth 20000 in
theorem ggX5_had_X5_in : GoodIn wsX5_had wsX5_in := goodIn_r _ [9] (by decide +kernel) (by decide +kernel)
set_option maxRecDepth 20000 in
theorem gX5_had_X5_in : GoodIn wsX5_had (va_wsS RX5 99 yX5_in wsX5_in) := goodIn_app (goodIn_of _ (by decide +kernel)) ggX5_had_X5_in
set_option maxRecDepth 20000 in
theorem ggX5_had_X5_refused : GoodIn wsX5_had wsX5_refused := goodIn_r _ [13, 14, 28, 29, 30, 31, 32, 33, 34, 35, 36, 37, 38, 39, 40, 41, 42, 43, 44, 45, 46, 47, 48, 49, 50, 51, 52, 53, 54, 55, 56, 57, 58, 59, 60] (by decide +kernel) (by decide +kernel)
set_option maxRecDepth 20000 in
theorem gX5_had_X5_refused : GoodIn wsX5_had (wsV RX5 120 RX5 yX5_refused wsX5_refused) := goodIn_app (goodIn_of _ (by decide +kernel)) ggX5_had_X5_refused
set_option maxRecDepth 20000 in
theorem ggX5_had_X5_hadOf : GoodIn wsX5_had wsX5_hadOf := goodIn_r _ [18, 19, 20, 21, 22, 23, 24, 4, 25, 26, 27, 28, 29, 30, 31, 32, 33, 34, 35, 36, 37, 38, 39, 40, 41, 42, 43, 44, 45, 46, 47, 48, 49, 50, 51, 52, 53, 54, 55, 56, 57, 58, 59, 60] (by decide +kernel) (by decide +kernel)
set_option maxRecDepth 20000 in
theorem gX5_had_X5_hadOf : GoodIn wsX5_had (wsV RX5 116 RX5 yX5_hadOf wsX5_hadOf) := goodIn_app (goodIn_of _ (by decide +kernel)) ggX5_had_X5_hadOf
theorem dX5_had_0 : decode cX5_had 0 = .ok (.aload_n 0, 1) := by decide +kernel
theorem dX5_had_1 : decode cX5_had 1 = .ok (.aload_n 0, 1) := by decide +kernel
theorem dX5_had_2 : decode cX5_had 2 = .ok (.iload_n 1, 1) := by decide +kernel
theorem dX5_had_3 : decode cX5_had 3 = .ok (.invokevirtual 123, 3) := by decide +kernel
theorem dX5_had_6 : decode cX5_had 6 = .ok (.ifCond .ne 7, 3) := by decide +kernel
theorem dX5_had_9 : decode cX5_had 9 = .ok (.iconst 1, 1) := by decide +kernel
theorem dX5_had_10 : decode cX5_had 10 = .ok (.goto 19, 3) := by decide +kernel
theorem dX5_had_13 : decode cX5_had 13 = .ok (.iload_n 2, 1) := by decide +kernel
theorem dX5_had_14 : decode cX5_had 14 = .ok (.iconst 0, 1) := by decide +kernel
theorem dX5_had_15 : decode cX5_had 15 = .ok (.sipush 4095, 3) := by decide +kernel
theorem dX5_had_18 : decode cX5_had 18 = .ok (.invokestatic 99, 3) := by decide +kernel
theorem dX5_had_21 : decode cX5_had 21 = .ok (.ifCond .ne 7, 3) := by decide +kernel
theorem dX5_had_24 : decode cX5_had 24 = .ok (.iconst 2, 1) := by decide +kernel
theorem dX5_had_25 : decode cX5_had 25 = .ok (.goto 4, 3) := by decide +kernel
theorem dX5_had_28 : decode cX5_had 28 = .ok (.iconst 0, 1) := by decide +kernel
theorem dX5_had_29 : decode cX5_had 29 = .ok (.invokevirtual 120, 3) := by decide +kernel
theorem dX5_had_32 : decode cX5_had 32 = .ok (.ifCond .eq 7, 3) := by decide +kernel
theorem dX5_had_35 : decode cX5_had 35 = .ok (.iconst 0, 1) := by decide +kernel
theorem dX5_had_36 : decode cX5_had 36 = .ok (.goto 9, 3) := by decide +kernel
theorem dX5_had_39 : decode cX5_had 39 = .ok (.aload_n 0, 1) := by decide +kernel
theorem dX5_had_40 : decode cX5_had 40 = .ok (.iload_n 1, 1) := by decide +kernel
theorem dX5_had_41 : decode cX5_had 41 = .ok (.iload_n 2, 1) := by decide +kernel
theorem dX5_had_42 : decode cX5_had 42 = .ok (.invokevirtual 116, 3) := by decide +kernel
theorem dX5_had_45 : decode cX5_had 45 = .ok (.ireturn, 1) := by decide +kernel
set_option maxRecDepth 20000 in
theorem ggX5_canBeLeft_X5_isRoom : GoodIn wsX5_canBeLeft wsX5_isRoom := goodIn_r _ [5, 6, 7, 8, 4, 9, 33, 34, 35, 36, 37, 38, 39, 40, 41, 42, 43, 44, 45, 46, 47, 48, 49, 50, 51, 52, 53, 54, 55, 56, 57, 58, 59, 60, 61, 62, 63, 64, 65] (by decide +kernel) (by decide +kernel)
set_option maxRecDepth 20000 in
theorem gX5_canBeLeft_X5_isRoom : GoodIn wsX5_canBeLeft (wsV RX5 123 RX5 yX5_isRoom wsX5_isRoom) := goodIn_app (goodIn_of _ (by decide +kernel)) ggX5_canBeLeft_X5_isRoom
set_option maxRecDepth 20000 in
theorem ggX5_canBeLeft_X5_refused : GoodIn wsX5_canBeLeft wsX5_refused := goodIn_r _ [13, 14, 33, 34, 35, 36, 37, 38, 39, 40, 41, 42, 43, 44, 45, 46, 47, 48, 49, 50, 51, 52, 53, 54, 55, 56, 57, 58, 59, 60, 61, 62, 63, 64, 65] (by decide +kernel) (by decide +kernel)
set_option maxRecDepth 20000 in
theorem gX5_canBeLeft_X5_refused : GoodIn wsX5_canBeLeft (wsV RX5 120 RX5 yX5_refused wsX5_refused) := goodIn_app (goodIn_of _ (by decide +kernel)) ggX5_canBeLeft_X5_refused
set_option maxRecDepth 20000 in
theorem ggX5_canBeLeft_X5_isLeavable : GoodIn wsX5_canBeLeft wsX5_isLeavable := goodIn_r _ [18, 19, 20, 21, 22, 23, 4, 24, 25, 26, 27, 28, 29, 30, 31, 32, 33, 34, 35, 36, 37, 38, 39, 40, 41, 42, 43, 44, 45, 46, 47, 48, 49, 50, 51, 52, 53, 54, 55, 56, 57, 58, 59, 60, 61, 62, 63, 64, 65] (by decide +kernel) (by decide +kernel)
set_option maxRecDepth 20000 in
theorem gX5_canBeLeft_X5_isLeavable : GoodIn wsX5_canBeLeft (wsV RX5 130 RX5 yX5_isLeavable wsX5_isLeavable) := goodIn_app (goodIn_of _ (by decide +kernel)) ggX5_canBeLeft_X5_isLeavable
theorem dX5_canBeLeft_0 : decode cX5_canBeLeft 0 = .ok (.aload_n 0, 1) := by decide +kernel
theorem dX5_canBeLeft_1 : decode cX5_canBeLeft 1 = .ok (.aload_n 0, 1) := by decide +kernel
theorem dX5_canBeLeft_2 : decode cX5_canBeLeft 2 = .ok (.iload_n 1, 1) := by decide +kernel
theorem dX5_canBeLeft_3 : decode cX5_canBeLeft 3 = .ok (.invokevirtual 123, 3) := by decide +kernel
theorem dX5_canBeLeft_6 : decode cX5_canBeLeft 6 = .ok (.ifCond .eq 7, 3) := by decide +kernel
theorem dX5_canBeLeft_9 : decode cX5_canBeLeft 9 = .ok (.iconst 0, 1) := by decide +kernel
theorem dX5_canBeLeft_10 : decode cX5_canBeLeft 10 = .ok (.goto 4, 3) := by decide +kernel
theorem dX5_canBeLeft_13 : decode cX5_canBeLeft 13 = .ok (.iconst 1, 1) := by decide +kernel
theorem dX5_canBeLeft_14 : decode cX5_canBeLeft 14 = .ok (.invokevirtual 120, 3) := by decide +kernel
theorem dX5_canBeLeft_17 : decode cX5_canBeLeft 17 = .ok (.ifCond .ne 15, 3) := by decide +kernel
theorem dX5_canBeLeft_20 : decode cX5_canBeLeft 20 = .ok (.aload_n 0, 1) := by decide +kernel
theorem dX5_canBeLeft_21 : decode cX5_canBeLeft 21 = .ok (.iload_n 1, 1) := by decide +kernel
theorem dX5_canBeLeft_22 : decode cX5_canBeLeft 22 = .ok (.invokevirtual 130, 3) := by decide +kernel
theorem dX5_canBeLeft_25 : decode cX5_canBeLeft 25 = .ok (.ifCond .eq 7, 3) := by decide +kernel
theorem dX5_canBeLeft_28 : decode cX5_canBeLeft 28 = .ok (.iconst 1, 1) := by decide +kernel
theorem dX5_canBeLeft_29 : decode cX5_canBeLeft 29 = .ok (.goto 4, 3) := by decide +kernel
theorem dX5_canBeLeft_32 : decode cX5_canBeLeft 32 = .ok (.iconst 0, 1) := by decide +kernel
theorem dX5_canBeLeft_33 : decode cX5_canBeLeft 33 = .ok (.ireturn, 1) := by decide +kernel
theorem dX5_heldBy_0 : decode cX5_heldBy 0 = .ok (.iload_n 2, 1) := by decide +kernel
theorem dX5_heldBy_1 : decode cX5_heldBy 1 = .ok (.istore 4, 2) := by decide +kernel
theorem dX5_heldBy_3 : decode cX5_heldBy 3 = .ok (.iconst 0, 1) := by decide +kernel
theorem dX5_heldBy_4 : decode cX5_heldBy 4 = .ok (.istore 5, 2) := by decide +kernel
theorem dX5_heldBy_6 : decode cX5_heldBy 6 = .ok (.iload 5, 2) := by decide +kernel
theorem dX5_heldBy_8 : decode cX5_heldBy 8 = .ok (.aload_n 0, 1) := by decide +kernel
theorem dX5_heldBy_9 : decode cX5_heldBy 9 = .ok (.getfield 13, 3) := by decide +kernel
theorem dX5_heldBy_12 : decode cX5_heldBy 12 = .ok (.iload_n 1, 1) := by decide +kernel
theorem dX5_heldBy_13 : decode cX5_heldBy 13 = .ok (.iaload, 1) := by decide +kernel
theorem dX5_heldBy_14 : decode cX5_heldBy 14 = .ok (.if_icmp .ge 40, 3) := by decide +kernel
theorem dX5_heldBy_17 : decode cX5_heldBy 17 = .ok (.iload 4, 2) := by decide +kernel
theorem dX5_heldBy_19 : decode cX5_heldBy 19 = .ok (.iload_n 3, 1) := by decide +kernel
theorem dX5_heldBy_20 : decode cX5_heldBy 20 = .ok (.iload 5, 2) := by decide +kernel
theorem dX5_heldBy_22 : decode cX5_heldBy 22 = .ok (.ishr, 1) := by decide +kernel
theorem dX5_heldBy_23 : decode cX5_heldBy 23 = .ok (.iconst 1, 1) := by decide +kernel
theorem dX5_heldBy_24 : decode cX5_heldBy 24 = .ok (.iand, 1) := by decide +kernel
theorem dX5_heldBy_25 : decode cX5_heldBy 25 = .ok (.iconst 1, 1) := by decide +kernel
theorem dX5_heldBy_26 : decode cX5_heldBy 26 = .ok (.if_icmp .ne 18, 3) := by decide +kernel
theorem dX5_heldBy_29 : decode cX5_heldBy 29 = .ok (.aload_n 0, 1) := by decide +kernel
theorem dX5_heldBy_30 : decode cX5_heldBy 30 = .ok (.getfield 31, 3) := by decide +kernel
theorem dX5_heldBy_33 : decode cX5_heldBy 33 = .ok (.bipush 8, 2) := by decide +kernel
theorem dX5_heldBy_35 : decode cX5_heldBy 35 = .ok (.iload_n 1, 1) := by decide +kernel
theorem dX5_heldBy_36 : decode cX5_heldBy 36 = .ok (.imul, 1) := by decide +kernel
theorem dX5_heldBy_37 : decode cX5_heldBy 37 = .ok (.iload 5, 2) := by decide +kernel
theorem dX5_heldBy_39 : decode cX5_heldBy 39 = .ok (.iadd, 1) := by decide +kernel
theorem dX5_heldBy_40 : decode cX5_heldBy 40 = .ok (.iaload, 1) := by decide +kernel
theorem dX5_heldBy_41 : decode cX5_heldBy 41 = .ok (.goto 4, 3) := by decide +kernel
theorem dX5_heldBy_44 : decode cX5_heldBy 44 = .ok (.iconst 0, 1) := by decide +kernel
theorem dX5_heldBy_45 : decode cX5_heldBy 45 = .ok (.ior, 1) := by decide +kernel
theorem dX5_heldBy_46 : decode cX5_heldBy 46 = .ok (.istore 4, 2) := by decide +kernel
theorem dX5_heldBy_48 : decode cX5_heldBy 48 = .ok (.iinc 5 1, 3) := by decide +kernel
theorem dX5_heldBy_51 : decode cX5_heldBy 51 = .ok (.goto (-45), 3) := by decide +kernel
theorem dX5_heldBy_54 : decode cX5_heldBy 54 = .ok (.iload 4, 2) := by decide +kernel
theorem dX5_heldBy_56 : decode cX5_heldBy 56 = .ok (.ireturn, 1) := by decide +kernel
set_option maxRecDepth 20000 in
theorem ggX5_orders_X5_isRoom : GoodIn wsX5_orders wsX5_isRoom := goodIn_r _ [9, 10, 11, 12, 8, 13, 30, 31, 32, 33, 34, 35, 36, 37, 38, 39, 40, 41, 42, 43, 44, 45, 46, 47, 48, 49, 50, 51, 52, 53, 54, 55, 56, 57, 58, 59, 60, 61, 62] (by decide +kernel) (by decide +kernel)
set_option maxRecDepth 20000 in
theorem gX5_orders_X5_isRoom : GoodIn wsX5_orders (wsV RX5 123 RX5 yX5_isRoom wsX5_isRoom) := goodIn_app (goodIn_of _ (by decide +kernel)) ggX5_orders_X5_isRoom
set_option maxRecDepth 20000 in
theorem ggX5_orders_X5_refused : GoodIn wsX5_orders wsX5_refused := goodIn_r _ [17, 18, 30, 31, 32, 33, 34, 35, 36, 37, 38, 39, 40, 41, 42, 43, 44, 45, 46, 47, 48, 49, 50, 51, 52, 53, 54, 55, 56, 57, 58, 59, 60, 61, 62] (by decide +kernel) (by decide +kernel)
set_option maxRecDepth 20000 in
theorem gX5_orders_X5_refused : GoodIn wsX5_orders (wsV RX5 120 RX5 yX5_refused wsX5_refused) := goodIn_app (goodIn_of _ (by decide +kernel)) ggX5_orders_X5_refused
set_option maxRecDepth 20000 in
theorem ggX5_orders_X5_heldBy : GoodIn wsX5_orders wsX5_heldBy := goodIn_r _ [22, 1, 23, 30, 31, 32, 33, 34, 35, 36, 37, 38, 39, 40, 41, 42, 43, 44, 45, 46, 47, 48, 49, 50, 51, 52, 53, 54, 55, 56, 57, 58, 59, 60, 61, 62] (by decide +kernel) (by decide +kernel)
set_option maxRecDepth 20000 in
theorem gX5_orders_X5_heldBy : GoodIn wsX5_orders (wsV RX5 133 RX5 yX5_heldBy wsX5_heldBy) := goodIn_app (goodIn_of _ (by decide +kernel)) ggX5_orders_X5_heldBy
set_option maxRecDepth 20000 in
theorem ggX5_orders_X5_isOut : GoodIn wsX5_orders wsX5_isOut := goodIn_r _ [27, 28, 29, 30, 31, 32, 33, 34, 35, 36, 37, 38, 39, 40, 41, 42, 43, 44, 45, 46, 47, 48, 49, 50, 51, 52, 53, 54, 55, 56, 57, 58, 59, 60, 61, 62] (by decide +kernel) (by decide +kernel)
set_option maxRecDepth 20000 in
theorem gX5_orders_X5_isOut : GoodIn wsX5_orders (wsV RX5 112 RX5 yX5_isOut wsX5_isOut) := goodIn_app (goodIn_of _ (by decide +kernel)) ggX5_orders_X5_isOut
theorem dX5_orders_0 : decode cX5_orders 0 = .ok (.aload_n 0, 1) := by decide +kernel
theorem dX5_orders_1 : decode cX5_orders 1 = .ok (.aload_n 0, 1) := by decide +kernel
theorem dX5_orders_2 : decode cX5_orders 2 = .ok (.iload_n 1, 1) := by decide +kernel
theorem dX5_orders_3 : decode cX5_orders 3 = .ok (.invokevirtual 123, 3) := by decide +kernel
theorem dX5_orders_6 : decode cX5_orders 6 = .ok (.ifCond .eq 7, 3) := by decide +kernel
theorem dX5_orders_9 : decode cX5_orders 9 = .ok (.iconst 0, 1) := by decide +kernel
theorem dX5_orders_10 : decode cX5_orders 10 = .ok (.goto 4, 3) := by decide +kernel
theorem dX5_orders_13 : decode cX5_orders 13 = .ok (.iconst 1, 1) := by decide +kernel
theorem dX5_orders_14 : decode cX5_orders 14 = .ok (.invokevirtual 120, 3) := by decide +kernel
theorem dX5_orders_17 : decode cX5_orders 17 = .ok (.ifCond .eq 5, 3) := by decide +kernel
theorem dX5_orders_20 : decode cX5_orders 20 = .ok (.iconst 0, 1) := by decide +kernel
theorem dX5_orders_21 : decode cX5_orders 21 = .ok (.ireturn, 1) := by decide +kernel
theorem dX5_orders_22 : decode cX5_orders 22 = .ok (.iconst 1, 1) := by decide +kernel
theorem dX5_orders_23 : decode cX5_orders 23 = .ok (.aload_n 0, 1) := by decide +kernel
theorem dX5_orders_24 : decode cX5_orders 24 = .ok (.getfield 13, 3) := by decide +kernel
theorem dX5_orders_27 : decode cX5_orders 27 = .ok (.iload_n 1, 1) := by decide +kernel
theorem dX5_orders_28 : decode cX5_orders 28 = .ok (.iaload, 1) := by decide +kernel
theorem dX5_orders_29 : decode cX5_orders 29 = .ok (.ishl, 1) := by decide +kernel
theorem dX5_orders_30 : decode cX5_orders 30 = .ok (.iconst 1, 1) := by decide +kernel
theorem dX5_orders_31 : decode cX5_orders 31 = .ok (.isub, 1) := by decide +kernel
theorem dX5_orders_32 : decode cX5_orders 32 = .ok (.istore_n 2, 1) := by decide +kernel
theorem dX5_orders_33 : decode cX5_orders 33 = .ok (.iload_n 2, 1) := by decide +kernel
theorem dX5_orders_34 : decode cX5_orders 34 = .ok (.ifCond .lt 134, 3) := by decide +kernel
theorem dX5_orders_37 : decode cX5_orders 37 = .ok (.aload_n 0, 1) := by decide +kernel
theorem dX5_orders_38 : decode cX5_orders 38 = .ok (.iload_n 1, 1) := by decide +kernel
theorem dX5_orders_39 : decode cX5_orders 39 = .ok (.aload_n 0, 1) := by decide +kernel
theorem dX5_orders_40 : decode cX5_orders 40 = .ok (.getfield 7, 3) := by decide +kernel
theorem dX5_orders_43 : decode cX5_orders 43 = .ok (.iload_n 1, 1) := by decide +kernel
theorem dX5_orders_44 : decode cX5_orders 44 = .ok (.iaload, 1) := by decide +kernel
theorem dX5_orders_45 : decode cX5_orders 45 = .ok (.iload_n 2, 1) := by decide +kernel
theorem dX5_orders_46 : decode cX5_orders 46 = .ok (.invokevirtual 133, 3) := by decide +kernel
theorem dX5_orders_49 : decode cX5_orders 49 = .ok (.istore_n 3, 1) := by decide +kernel
theorem dX5_orders_50 : decode cX5_orders 50 = .ok (.iload_n 3, 1) := by decide +kernel
theorem dX5_orders_51 : decode cX5_orders 51 = .ok (.iconst 1, 1) := by decide +kernel
theorem dX5_orders_52 : decode cX5_orders 52 = .ok (.iand, 1) := by decide +kernel
theorem dX5_orders_53 : decode cX5_orders 53 = .ok (.istore 4, 2) := by decide +kernel
theorem dX5_orders_55 : decode cX5_orders 55 = .ok (.iconst 0, 1) := by decide +kernel
theorem dX5_orders_56 : decode cX5_orders 56 = .ok (.istore 5, 2) := by decide +kernel
theorem dX5_orders_58 : decode cX5_orders 58 = .ok (.iload 5, 2) := by decide +kernel
theorem dX5_orders_60 : decode cX5_orders 60 = .ok (.aload_n 0, 1) := by decide +kernel
theorem dX5_orders_61 : decode cX5_orders 61 = .ok (.getfield 13, 3) := by decide +kernel
theorem dX5_orders_64 : decode cX5_orders 64 = .ok (.iload_n 1, 1) := by decide +kernel
theorem dX5_orders_65 : decode cX5_orders 65 = .ok (.iaload, 1) := by decide +kernel
theorem dX5_orders_66 : decode cX5_orders 66 = .ok (.if_icmp .ge 88, 3) := by decide +kernel
theorem dX5_orders_69 : decode cX5_orders 69 = .ok (.iload_n 3, 1) := by decide +kernel
theorem dX5_orders_70 : decode cX5_orders 70 = .ok (.iconst 1, 1) := by decide +kernel
theorem dX5_orders_71 : decode cX5_orders 71 = .ok (.iand, 1) := by decide +kernel
theorem dX5_orders_72 : decode cX5_orders 72 = .ok (.ifCond .ne 82, 3) := by decide +kernel
theorem dX5_orders_75 : decode cX5_orders 75 = .ok (.bipush 8, 2) := by decide +kernel
theorem dX5_orders_77 : decode cX5_orders 77 = .ok (.iload_n 1, 1) := by decide +kernel
theorem dX5_orders_78 : decode cX5_orders 78 = .ok (.imul, 1) := by decide +kernel
theorem dX5_orders_79 : decode cX5_orders 79 = .ok (.iload 5, 2) := by decide +kernel
theorem dX5_orders_81 : decode cX5_orders 81 = .ok (.iadd, 1) := by decide +kernel
theorem dX5_orders_82 : decode cX5_orders 82 = .ok (.istore 6, 2) := by decide +kernel
theorem dX5_orders_84 : decode cX5_orders 84 = .ok (.iload_n 2, 1) := by decide +kernel
theorem dX5_orders_85 : decode cX5_orders 85 = .ok (.iload 5, 2) := by decide +kernel
theorem dX5_orders_87 : decode cX5_orders 87 = .ok (.ishr, 1) := by decide +kernel
theorem dX5_orders_88 : decode cX5_orders 88 = .ok (.iconst 1, 1) := by decide +kernel
theorem dX5_orders_89 : decode cX5_orders 89 = .ok (.iand, 1) := by decide +kernel
theorem dX5_orders_90 : decode cX5_orders 90 = .ok (.ifCond .ne 30, 3) := by decide +kernel
theorem dX5_orders_93 : decode cX5_orders 93 = .ok (.aload_n 0, 1) := by decide +kernel
theorem dX5_orders_94 : decode cX5_orders 94 = .ok (.iload 6, 2) := by decide +kernel
theorem dX5_orders_96 : decode cX5_orders 96 = .ok (.invokevirtual 112, 3) := by decide +kernel
theorem dX5_orders_99 : decode cX5_orders 99 = .ok (.ifCond .ne 21, 3) := by decide +kernel
theorem dX5_orders_102 : decode cX5_orders 102 = .ok (.aload_n 0, 1) := by decide +kernel
theorem dX5_orders_103 : decode cX5_orders 103 = .ok (.getfield 28, 3) := by decide +kernel
theorem dX5_orders_106 : decode cX5_orders 106 = .ok (.iload 6, 2) := by decide +kernel
theorem dX5_orders_108 : decode cX5_orders 108 = .ok (.iaload, 1) := by decide +kernel
theorem dX5_orders_109 : decode cX5_orders 109 = .ok (.iload_n 3, 1) := by decide +kernel
theorem dX5_orders_110 : decode cX5_orders 110 = .ok (.iconst (-1), 1) := by decide +kernel
theorem dX5_orders_111 : decode cX5_orders 111 = .ok (.ixor, 1) := by decide +kernel
theorem dX5_orders_112 : decode cX5_orders 112 = .ok (.iand, 1) := by decide +kernel
theorem dX5_orders_113 : decode cX5_orders 113 = .ok (.ifCond .ne 7, 3) := by decide +kernel
theorem dX5_orders_116 : decode cX5_orders 116 = .ok (.iconst 1, 1) := by decide +kernel
theorem dX5_orders_117 : decode cX5_orders 117 = .ok (.goto 4, 3) := by decide +kernel
theorem dX5_orders_120 : decode cX5_orders 120 = .ok (.iconst 0, 1) := by decide +kernel
theorem dX5_orders_121 : decode cX5_orders 121 = .ok (.istore 7, 2) := by decide +kernel
theorem dX5_orders_123 : decode cX5_orders 123 = .ok (.iload 4, 2) := by decide +kernel
theorem dX5_orders_125 : decode cX5_orders 125 = .ok (.iload 7, 2) := by decide +kernel
theorem dX5_orders_127 : decode cX5_orders 127 = .ok (.ifCond .eq 17, 3) := by decide +kernel
theorem dX5_orders_130 : decode cX5_orders 130 = .ok (.aload_n 0, 1) := by decide +kernel
theorem dX5_orders_131 : decode cX5_orders 131 = .ok (.getfield 89, 3) := by decide +kernel
theorem dX5_orders_134 : decode cX5_orders 134 = .ok (.iload_n 2, 1) := by decide +kernel
theorem dX5_orders_135 : decode cX5_orders 135 = .ok (.iconst 1, 1) := by decide +kernel
theorem dX5_orders_136 : decode cX5_orders 136 = .ok (.iload 5, 2) := by decide +kernel
theorem dX5_orders_138 : decode cX5_orders 138 = .ok (.ishl, 1) := by decide +kernel
theorem dX5_orders_139 : decode cX5_orders 139 = .ok (.ior, 1) := by decide +kernel
theorem dX5_orders_140 : decode cX5_orders 140 = .ok (.iaload, 1) := by decide +kernel
theorem dX5_orders_141 : decode cX5_orders 141 = .ok (.goto 4, 3) := by decide +kernel
theorem dX5_orders_144 : decode cX5_orders 144 = .ok (.iconst 0, 1) := by decide +kernel
theorem dX5_orders_145 : decode cX5_orders 145 = .ok (.iadd, 1) := by decide +kernel
theorem dX5_orders_146 : decode cX5_orders 146 = .ok (.istore 4, 2) := by decide +kernel
theorem dX5_orders_148 : decode cX5_orders 148 = .ok (.iinc 5 1, 3) := by decide +kernel
theorem dX5_orders_151 : decode cX5_orders 151 = .ok (.goto (-93), 3) := by decide +kernel
theorem dX5_orders_154 : decode cX5_orders 154 = .ok (.aload_n 0, 1) := by decide +kernel
theorem dX5_orders_155 : decode cX5_orders 155 = .ok (.getfield 89, 3) := by decide +kernel
theorem dX5_orders_158 : decode cX5_orders 158 = .ok (.iload_n 2, 1) := by decide +kernel
theorem dX5_orders_159 : decode cX5_orders 159 = .ok (.iload 4, 2) := by decide +kernel
theorem dX5_orders_161 : decode cX5_orders 161 = .ok (.iastore, 1) := by decide +kernel
theorem dX5_orders_162 : decode cX5_orders 162 = .ok (.iinc 2 (-1), 3) := by decide +kernel
theorem dX5_orders_165 : decode cX5_orders 165 = .ok (.goto (-132), 3) := by decide +kernel
theorem dX5_orders_168 : decode cX5_orders 168 = .ok (.aload_n 0, 1) := by decide +kernel
theorem dX5_orders_169 : decode cX5_orders 169 = .ok (.getfield 89, 3) := by decide +kernel
theorem dX5_orders_172 : decode cX5_orders 172 = .ok (.iconst 0, 1) := by decide +kernel
theorem dX5_orders_173 : decode cX5_orders 173 = .ok (.iaload, 1) := by decide +kernel
theorem dX5_orders_174 : decode cX5_orders 174 = .ok (.ireturn, 1) := by decide +kernel
set_option maxRecDepth 20000 in
theorem ggX5_ordersAnew_X5_orders : GoodIn wsX5_ordersAnew wsX5_orders := goodIn_r _ [5, 6, 7, 8, 9, 10, 11, 12, 4, 13, 14, 15, 16, 17, 18, 19, 20, 21, 22, 23, 24, 25, 26, 27, 28, 29, 30, 31, 32, 33, 34, 35, 36, 37, 38, 39, 40, 41, 42, 43, 44, 45, 46, 47, 48, 49, 50, 51, 52, 53, 54, 55, 56, 57, 58, 59, 60, 61, 62, 63, 64, 65, 66] (by decide +kernel) (by decide +kernel)
set_option maxRecDepth 20000 in
theorem gX5_ordersAnew_X5_orders : GoodIn wsX5_ordersAnew (wsV RX5 137 RX5 yX5_orders wsX5_orders) := goodIn_app (goodIn_of _ (by decide +kernel)) ggX5_ordersAnew_X5_orders
theorem dX5_ordersAnew_0 : decode cX5_ordersAnew 0 = .ok (.aload_n 0, 1) := by decide +kernel
theorem dX5_ordersAnew_1 : decode cX5_ordersAnew 1 = .ok (.iload_n 1, 1) := by decide +kernel
theorem dX5_ordersAnew_2 : decode cX5_ordersAnew 2 = .ok (.invokevirtual 137, 3) := by decide +kernel
theorem dX5_ordersAnew_5 : decode cX5_ordersAnew 5 = .ok (.ireturn, 1) := by decide +kernel
theorem dX5_leaves_0 : decode cX5_leaves 0 = .ok (.aload_n 0, 1) := by decide +kernel
theorem dX5_leaves_1 : decode cX5_leaves 1 = .ok (.getfield 43, 3) := by decide +kernel
theorem dX5_leaves_4 : decode cX5_leaves 4 = .ok (.iload_n 1, 1) := by decide +kernel
theorem dX5_leaves_5 : decode cX5_leaves 5 = .ok (.iaload, 1) := by decide +kernel
theorem dX5_leaves_6 : decode cX5_leaves 6 = .ok (.istore_n 3, 1) := by decide +kernel
theorem dX5_leaves_7 : decode cX5_leaves 7 = .ok (.aload_n 0, 1) := by decide +kernel
theorem dX5_leaves_8 : decode cX5_leaves 8 = .ok (.getfield 40, 3) := by decide +kernel
theorem dX5_leaves_11 : decode cX5_leaves 11 = .ok (.iload_n 1, 1) := by decide +kernel
theorem dX5_leaves_12 : decode cX5_leaves 12 = .ok (.iload_n 2, 1) := by decide +kernel
theorem dX5_leaves_13 : decode cX5_leaves 13 = .ok (.iastore, 1) := by decide +kernel
theorem dX5_leaves_14 : decode cX5_leaves 14 = .ok (.aload_n 0, 1) := by decide +kernel
theorem dX5_leaves_15 : decode cX5_leaves 15 = .ok (.getfield 16, 3) := by decide +kernel
theorem dX5_leaves_18 : decode cX5_leaves 18 = .ok (.iload_n 3, 1) := by decide +kernel
theorem dX5_leaves_19 : decode cX5_leaves 19 = .ok (.iconst 2, 1) := by decide +kernel
theorem dX5_leaves_20 : decode cX5_leaves 20 = .ok (.iastore, 1) := by decide +kernel
theorem dX5_leaves_21 : decode cX5_leaves 21 = .ok (.aload_n 0, 1) := by decide +kernel
theorem dX5_leaves_22 : decode cX5_leaves 22 = .ok (.getfield 19, 3) := by decide +kernel
theorem dX5_leaves_25 : decode cX5_leaves 25 = .ok (.iload_n 3, 1) := by decide +kernel
theorem dX5_leaves_26 : decode cX5_leaves 26 = .ok (.aload_n 0, 1) := by decide +kernel
theorem dX5_leaves_27 : decode cX5_leaves 27 = .ok (.getfield 49, 3) := by decide +kernel
theorem dX5_leaves_30 : decode cX5_leaves 30 = .ok (.iload_n 1, 1) := by decide +kernel
theorem dX5_leaves_31 : decode cX5_leaves 31 = .ok (.iaload, 1) := by decide +kernel
theorem dX5_leaves_32 : decode cX5_leaves 32 = .ok (.iastore, 1) := by decide +kernel
theorem dX5_leaves_33 : decode cX5_leaves 33 = .ok (.aload_n 0, 1) := by decide +kernel
theorem dX5_leaves_34 : decode cX5_leaves 34 = .ok (.getfield 25, 3) := by decide +kernel
theorem dX5_leaves_37 : decode cX5_leaves 37 = .ok (.iload_n 3, 1) := by decide +kernel
theorem dX5_leaves_38 : decode cX5_leaves 38 = .ok (.iconst (-1), 1) := by decide +kernel
theorem dX5_leaves_39 : decode cX5_leaves 39 = .ok (.iastore, 1) := by decide +kernel
theorem dX5_leaves_40 : decode cX5_leaves 40 = .ok (.return_, 1) := by decide +kernel
theorem dX5_bookingFor_0 : decode cX5_bookingFor 0 = .ok (.iconst 0, 1) := by decide +kernel
theorem dX5_bookingFor_1 : decode cX5_bookingFor 1 = .ok (.istore_n 2, 1) := by decide +kernel
theorem dX5_bookingFor_2 : decode cX5_bookingFor 2 = .ok (.iload_n 2, 1) := by decide +kernel
theorem dX5_bookingFor_3 : decode cX5_bookingFor 3 = .ok (.aload_n 0, 1) := by decide +kernel
theorem dX5_bookingFor_4 : decode cX5_bookingFor 4 = .ok (.getfield 106, 3) := by decide +kernel
theorem dX5_bookingFor_7 : decode cX5_bookingFor 7 = .ok (.if_icmp .ge 43, 3) := by decide +kernel
theorem dX5_bookingFor_10 : decode cX5_bookingFor 10 = .ok (.aload_n 0, 1) := by decide +kernel
theorem dX5_bookingFor_11 : decode cX5_bookingFor 11 = .ok (.getfield 77, 3) := by decide +kernel
theorem dX5_bookingFor_14 : decode cX5_bookingFor 14 = .ok (.iload_n 2, 1) := by decide +kernel
theorem dX5_bookingFor_15 : decode cX5_bookingFor 15 = .ok (.iaload, 1) := by decide +kernel
theorem dX5_bookingFor_16 : decode cX5_bookingFor 16 = .ok (.iload_n 1, 1) := by decide +kernel
theorem dX5_bookingFor_17 : decode cX5_bookingFor 17 = .ok (.if_icmp .ne 27, 3) := by decide +kernel
theorem dX5_bookingFor_20 : decode cX5_bookingFor 20 = .ok (.aload_n 0, 1) := by decide +kernel
theorem dX5_bookingFor_21 : decode cX5_bookingFor 21 = .ok (.getfield 83, 3) := by decide +kernel
theorem dX5_bookingFor_24 : decode cX5_bookingFor 24 = .ok (.iload_n 2, 1) := by decide +kernel
theorem dX5_bookingFor_25 : decode cX5_bookingFor 25 = .ok (.iaload, 1) := by decide +kernel
theorem dX5_bookingFor_26 : decode cX5_bookingFor 26 = .ok (.ifCond .ne 18, 3) := by decide +kernel
theorem dX5_bookingFor_29 : decode cX5_bookingFor 29 = .ok (.aload_n 0, 1) := by decide +kernel
theorem dX5_bookingFor_30 : decode cX5_bookingFor 30 = .ok (.getfield 80, 3) := by decide +kernel
theorem dX5_bookingFor_33 : decode cX5_bookingFor 33 = .ok (.iload_n 2, 1) := by decide +kernel
theorem dX5_bookingFor_34 : decode cX5_bookingFor 34 = .ok (.iaload, 1) := by decide +kernel
theorem dX5_bookingFor_35 : decode cX5_bookingFor 35 = .ok (.aload_n 0, 1) := by decide +kernel
theorem dX5_bookingFor_36 : decode cX5_bookingFor 36 = .ok (.getfield 141, 3) := by decide +kernel
theorem dX5_bookingFor_39 : decode cX5_bookingFor 39 = .ok (.if_icmp .gt 5, 3) := by decide +kernel
theorem dX5_bookingFor_42 : decode cX5_bookingFor 42 = .ok (.iload_n 2, 1) := by decide +kernel
theorem dX5_bookingFor_43 : decode cX5_bookingFor 43 = .ok (.ireturn, 1) := by decide +kernel
theorem dX5_bookingFor_44 : decode cX5_bookingFor 44 = .ok (.iinc 2 1, 3) := by decide +kernel
theorem dX5_bookingFor_47 : decode cX5_bookingFor 47 = .ok (.goto (-45), 3) := by decide +kernel
theorem dX5_bookingFor_50 : decode cX5_bookingFor 50 = .ok (.iconst (-1), 1) := by decide +kernel
theorem dX5_bookingFor_51 : decode cX5_bookingFor 51 = .ok (.ireturn, 1) := by decide +kernel
set_option maxRecDepth 20000 in
theorem ggX5_isNear_X5_gapOf : GoodIn wsX5_isNear wsX5_gapOf := goodIn_r _ [10, 11, 12, 13, 14, 15, 16, 17, 18, 19, 20, 21, 22, 23, 24, 25, 26, 27, 28, 29, 30, 31, 32, 33, 34, 35, 36, 37, 38, 39, 40, 41, 42, 43, 44, 45] (by decide +kernel) (by decide +kernel)
set_option maxRecDepth 20000 in
theorem gX5_isNear_X5_gapOf : GoodIn wsX5_isNear (wsV RX5 144 RX5 yX5_gapOf wsX5_gapOf) := goodIn_app (goodIn_of _ (by decide +kernel)) ggX5_isNear_X5_gapOf
theorem dX5_isNear_0 : decode cX5_isNear 0 = .ok (.iconst 0, 1) := by decide +kernel
theorem dX5_isNear_1 : decode cX5_isNear 1 = .ok (.istore_n 2, 1) := by decide +kernel
theorem dX5_isNear_2 : decode cX5_isNear 2 = .ok (.iconst 0, 1) := by decide +kernel
theorem dX5_isNear_3 : decode cX5_isNear 3 = .ok (.istore_n 3, 1) := by decide +kernel
theorem dX5_isNear_4 : decode cX5_isNear 4 = .ok (.iload_n 3, 1) := by decide +kernel
theorem dX5_isNear_5 : decode cX5_isNear 5 = .ok (.aload_n 0, 1) := by decide +kernel
theorem dX5_isNear_6 : decode cX5_isNear 6 = .ok (.getfield 106, 3) := by decide +kernel
theorem dX5_isNear_9 : decode cX5_isNear 9 = .ok (.if_icmp .ge 60, 3) := by decide +kernel
theorem dX5_isNear_12 : decode cX5_isNear 12 = .ok (.iload_n 2, 1) := by decide +kernel
theorem dX5_isNear_13 : decode cX5_isNear 13 = .ok (.ifCond .ne 44, 3) := by decide +kernel
theorem dX5_isNear_16 : decode cX5_isNear 16 = .ok (.aload_n 0, 1) := by decide +kernel
theorem dX5_isNear_17 : decode cX5_isNear 17 = .ok (.getfield 77, 3) := by decide +kernel
theorem dX5_isNear_20 : decode cX5_isNear 20 = .ok (.iload_n 3, 1) := by decide +kernel
theorem dX5_isNear_21 : decode cX5_isNear 21 = .ok (.iaload, 1) := by decide +kernel
theorem dX5_isNear_22 : decode cX5_isNear 22 = .ok (.iload_n 1, 1) := by decide +kernel
theorem dX5_isNear_23 : decode cX5_isNear 23 = .ok (.if_icmp .ne 38, 3) := by decide +kernel
theorem dX5_isNear_26 : decode cX5_isNear 26 = .ok (.aload_n 0, 1) := by decide +kernel
theorem dX5_isNear_27 : decode cX5_isNear 27 = .ok (.getfield 83, 3) := by decide +kernel
theorem dX5_isNear_30 : decode cX5_isNear 30 = .ok (.iload_n 3, 1) := by decide +kernel
theorem dX5_isNear_31 : decode cX5_isNear 31 = .ok (.iaload, 1) := by decide +kernel
theorem dX5_isNear_32 : decode cX5_isNear 32 = .ok (.ifCond .ne 29, 3) := by decide +kernel
theorem dX5_isNear_35 : decode cX5_isNear 35 = .ok (.aload_n 0, 1) := by decide +kernel
theorem dX5_isNear_36 : decode cX5_isNear 36 = .ok (.getfield 80, 3) := by decide +kernel
theorem dX5_isNear_39 : decode cX5_isNear 39 = .ok (.iload_n 3, 1) := by decide +kernel
theorem dX5_isNear_40 : decode cX5_isNear 40 = .ok (.iaload, 1) := by decide +kernel
theorem dX5_isNear_41 : decode cX5_isNear 41 = .ok (.aload_n 0, 1) := by decide +kernel
theorem dX5_isNear_42 : decode cX5_isNear 42 = .ok (.getfield 141, 3) := by decide +kernel
theorem dX5_isNear_45 : decode cX5_isNear 45 = .ok (.isub, 1) := by decide +kernel
theorem dX5_isNear_46 : decode cX5_isNear 46 = .ok (.bipush 60, 2) := by decide +kernel
theorem dX5_isNear_48 : decode cX5_isNear 48 = .ok (.aload_n 0, 1) := by decide +kernel
theorem dX5_isNear_49 : decode cX5_isNear 49 = .ok (.iload_n 1, 1) := by decide +kernel
theorem dX5_isNear_50 : decode cX5_isNear 50 = .ok (.invokevirtual 144, 3) := by decide +kernel
theorem dX5_isNear_53 : decode cX5_isNear 53 = .ok (.iadd, 1) := by decide +kernel
theorem dX5_isNear_54 : decode cX5_isNear 54 = .ok (.if_icmp .ge 7, 3) := by decide +kernel
theorem dX5_isNear_57 : decode cX5_isNear 57 = .ok (.iconst 1, 1) := by decide +kernel
theorem dX5_isNear_58 : decode cX5_isNear 58 = .ok (.goto 4, 3) := by decide +kernel
theorem dX5_isNear_61 : decode cX5_isNear 61 = .ok (.iconst 0, 1) := by decide +kernel
theorem dX5_isNear_62 : decode cX5_isNear 62 = .ok (.istore_n 2, 1) := by decide +kernel
theorem dX5_isNear_63 : decode cX5_isNear 63 = .ok (.iinc 3 1, 3) := by decide +kernel
theorem dX5_isNear_66 : decode cX5_isNear 66 = .ok (.goto (-62), 3) := by decide +kernel
theorem dX5_isNear_69 : decode cX5_isNear 69 = .ok (.iload_n 2, 1) := by decide +kernel
theorem dX5_isNear_70 : decode cX5_isNear 70 = .ok (.ireturn, 1) := by decide +kernel
set_option maxRecDepth 20000 in
theorem ggX5_come_X5_isRoom : GoodIn wsX5_come wsX5_isRoom := goodIn_r _ [18, 19, 20, 21, 17, 22, 70, 71, 72, 73, 74, 75, 76, 77, 78, 79, 80, 81, 82, 83, 84, 85, 86, 87, 88, 89, 90, 91, 92, 93, 94, 95, 96, 97, 98, 99, 100, 101, 102] (by decide +kernel) (by decide +kernel)
set_option maxRecDepth 20000 in
theorem gX5_come_X5_isRoom : GoodIn wsX5_come (wsV RX5 123 RX5 yX5_isRoom wsX5_isRoom) := goodIn_app (goodIn_of _ (by decide +kernel)) ggX5_come_X5_isRoom
set_option maxRecDepth 20000 in
theorem ggX5_come_X5_bookingFor : GoodIn wsX5_come wsX5_bookingFor := goodIn_r _ [26, 27, 28, 11, 29, 10, 70, 71, 72, 73, 74, 75, 76, 77, 78, 79, 80, 81, 82, 83, 84, 85, 86, 87, 88, 89, 90, 91, 92, 93, 94, 95, 96, 97, 98, 99, 100, 101, 102] (by decide +kernel) (by decide +kernel)
set_option maxRecDepth 20000 in
theorem gX5_come_X5_bookingFor : GoodIn wsX5_come (wsV RX5 147 RX5 yX5_bookingFor wsX5_bookingFor) := goodIn_app (goodIn_of _ (by decide +kernel)) ggX5_come_X5_bookingFor
set_option maxRecDepth 20000 in
theorem ggX5_come_X5_isLeavable : GoodIn wsX5_come wsX5_isLeavable := goodIn_r _ [33, 34, 8, 35, 36, 37, 17, 38, 39, 40, 41, 42, 43, 44, 45, 46, 70, 71, 72, 73, 74, 75, 76, 77, 78, 79, 80, 81, 82, 83, 84, 85, 86, 87, 88, 89, 90, 91, 92, 93, 94, 95, 96, 97, 98, 99, 100, 101, 102] (by decide +kernel) (by decide +kernel)
set_option maxRecDepth 20000 in
theorem gX5_come_X5_isLeavable : GoodIn wsX5_come (wsV RX5 130 RX5 yX5_isLeavable wsX5_isLeavable) := goodIn_app (goodIn_of _ (by decide +kernel)) ggX5_come_X5_isLeavable
set_option maxRecDepth 20000 in
theorem ggX5_come_X5_isNear : GoodIn wsX5_come wsX5_isNear := goodIn_r _ [50, 27, 28, 11, 29, 10, 51, 52, 53, 17, 54, 34, 55, 70, 71, 72, 73, 74, 75, 76, 77, 78, 79, 80, 81, 82, 83, 84, 85, 86, 87, 88, 89, 90, 91, 92, 93, 94, 95, 96, 97, 98, 99, 100, 101, 102] (by decide +kernel) (by decide +kernel)
set_option maxRecDepth 20000 in
theorem gX5_come_X5_isNear : GoodIn wsX5_come (wsV RX5 150 RX5 yX5_isNear wsX5_isNear) := goodIn_app (goodIn_of _ (by decide +kernel)) ggX5_come_X5_isNear
set_option maxRecDepth 20000 in
theorem ggX5_come_X5_refused : GoodIn wsX5_come wsX5_refused := goodIn_r _ [59, 60, 70, 71, 72, 73, 74, 75, 76, 77, 78, 79, 80, 81, 82, 83, 84, 85, 86, 87, 88, 89, 90, 91, 92, 93, 94, 95, 96, 97, 98, 99, 100, 101, 102] (by decide +kernel) (by decide +kernel)
set_option maxRecDepth 20000 in
theorem gX5_come_X5_refused : GoodIn wsX5_come (wsV RX5 120 RX5 yX5_refused wsX5_refused) := goodIn_app (goodIn_of _ (by decide +kernel)) ggX5_come_X5_refused
set_option maxRecDepth 20000 in
theorem ggX5_come_X5_heldBy : GoodIn wsX5_come wsX5_heldBy := goodIn_r _ [64, 34, 40, 70, 71, 72, 73, 74, 75, 76, 77, 78, 79, 80, 81, 82, 83, 84, 85, 86, 87, 88, 89, 90, 91, 92, 93, 94, 95, 96, 97, 98, 99, 100, 101, 102] (by decide +kernel) (by decide +kernel)
set_option maxRecDepth 20000 in
theorem gX5_come_X5_heldBy : GoodIn wsX5_come (wsV RX5 133 RX5 yX5_heldBy wsX5_heldBy) := goodIn_app (goodIn_of _ (by decide +kernel)) ggX5_come_X5_heldBy
set_option maxRecDepth 20000 in
theorem ggX5_come_X5_leaves : GoodIn wsX5_come wsX5_leaves := goodIn_r _ [68, 4, 3, 1, 69, 5, 13, 70, 71, 72, 73, 74, 75, 76, 77, 78, 79, 80, 81, 82, 83, 84, 85, 86, 87, 88, 89, 90, 91, 92, 93, 94, 95, 96, 97, 98, 99, 100, 101, 102] (by decide +kernel) (by decide +kernel)
set_option maxRecDepth 20000 in
theorem gX5_come_X5_leaves : GoodIn wsX5_come (wsV RX5 126 RX5 yX5_leaves wsX5_leaves) := goodIn_app (goodIn_of _ (by decide +kernel)) ggX5_come_X5_leaves
theorem dX5_come_0 : decode cX5_come 0 = .ok (.aload_n 0, 1) := by decide +kernel
theorem dX5_come_1 : decode cX5_come 1 = .ok (.iload_n 1, 1) := by decide +kernel
theorem dX5_come_2 : decode cX5_come 2 = .ok (.invokevirtual 123, 3) := by decide +kernel
theorem dX5_come_5 : decode cX5_come 5 = .ok (.istore_n 2, 1) := by decide +kernel
theorem dX5_come_6 : decode cX5_come 6 = .ok (.iload_n 2, 1) := by decide +kernel
theorem dX5_come_7 : decode cX5_come 7 = .ok (.ifCond .eq 11, 3) := by decide +kernel
theorem dX5_come_10 : decode cX5_come 10 = .ok (.aload_n 0, 1) := by decide +kernel
theorem dX5_come_11 : decode cX5_come 11 = .ok (.iload_n 1, 1) := by decide +kernel
theorem dX5_come_12 : decode cX5_come 12 = .ok (.invokevirtual 147, 3) := by decide +kernel
theorem dX5_come_15 : decode cX5_come 15 = .ok (.goto 4, 3) := by decide +kernel
theorem dX5_come_18 : decode cX5_come 18 = .ok (.iconst (-1), 1) := by decide +kernel
theorem dX5_come_19 : decode cX5_come 19 = .ok (.istore_n 3, 1) := by decide +kernel
theorem dX5_come_20 : decode cX5_come 20 = .ok (.iload_n 2, 1) := by decide +kernel
theorem dX5_come_21 : decode cX5_come 21 = .ok (.ifCond .eq 46, 3) := by decide +kernel
theorem dX5_come_24 : decode cX5_come 24 = .ok (.aload_n 0, 1) := by decide +kernel
theorem dX5_come_25 : decode cX5_come 25 = .ok (.getfield 16, 3) := by decide +kernel
theorem dX5_come_28 : decode cX5_come 28 = .ok (.iload_n 1, 1) := by decide +kernel
theorem dX5_come_29 : decode cX5_come 29 = .ok (.iaload, 1) := by decide +kernel
theorem dX5_come_30 : decode cX5_come 30 = .ok (.ifCond .ne 37, 3) := by decide +kernel
theorem dX5_come_33 : decode cX5_come 33 = .ok (.aload_n 0, 1) := by decide +kernel
theorem dX5_come_34 : decode cX5_come 34 = .ok (.iload_n 1, 1) := by decide +kernel
theorem dX5_come_35 : decode cX5_come 35 = .ok (.invokevirtual 130, 3) := by decide +kernel
theorem dX5_come_38 : decode cX5_come 38 = .ok (.ifCond .eq 29, 3) := by decide +kernel
theorem dX5_come_41 : decode cX5_come 41 = .ok (.iload_n 3, 1) := by decide +kernel
theorem dX5_come_42 : decode cX5_come 42 = .ok (.iconst (-1), 1) := by decide +kernel
theorem dX5_come_43 : decode cX5_come 43 = .ok (.if_icmp .ne 11, 3) := by decide +kernel
theorem dX5_come_46 : decode cX5_come 46 = .ok (.aload_n 0, 1) := by decide +kernel
theorem dX5_come_47 : decode cX5_come 47 = .ok (.iload_n 1, 1) := by decide +kernel
theorem dX5_come_48 : decode cX5_come 48 = .ok (.invokevirtual 150, 3) := by decide +kernel
theorem dX5_come_51 : decode cX5_come 51 = .ok (.ifCond .ne 16, 3) := by decide +kernel
theorem dX5_come_54 : decode cX5_come 54 = .ok (.aload_n 0, 1) := by decide +kernel
theorem dX5_come_55 : decode cX5_come 55 = .ok (.getfield 103, 3) := by decide +kernel
theorem dX5_come_58 : decode cX5_come 58 = .ok (.bipush 30, 2) := by decide +kernel
theorem dX5_come_60 : decode cX5_come 60 = .ok (.if_icmp .ge 7, 3) := by decide +kernel
theorem dX5_come_63 : decode cX5_come 63 = .ok (.iconst 1, 1) := by decide +kernel
theorem dX5_come_64 : decode cX5_come 64 = .ok (.goto 4, 3) := by decide +kernel
theorem dX5_come_67 : decode cX5_come 67 = .ok (.iconst 0, 1) := by decide +kernel
theorem dX5_come_68 : decode cX5_come 68 = .ok (.istore 4, 2) := by decide +kernel
theorem dX5_come_70 : decode cX5_come 70 = .ok (.aload_n 0, 1) := by decide +kernel
theorem dX5_come_71 : decode cX5_come 71 = .ok (.iload_n 2, 1) := by decide +kernel
theorem dX5_come_72 : decode cX5_come 72 = .ok (.ifCond .ne 7, 3) := by decide +kernel
theorem dX5_come_75 : decode cX5_come 75 = .ok (.iconst 1, 1) := by decide +kernel
theorem dX5_come_76 : decode cX5_come 76 = .ok (.goto 13, 3) := by decide +kernel
theorem dX5_come_79 : decode cX5_come 79 = .ok (.iload 4, 2) := by decide +kernel
theorem dX5_come_81 : decode cX5_come 81 = .ok (.ifCond .eq 7, 3) := by decide +kernel
theorem dX5_come_84 : decode cX5_come 84 = .ok (.iconst 0, 1) := by decide +kernel
theorem dX5_come_85 : decode cX5_come 85 = .ok (.goto 4, 3) := by decide +kernel
theorem dX5_come_88 : decode cX5_come 88 = .ok (.iconst 2, 1) := by decide +kernel
theorem dX5_come_89 : decode cX5_come 89 = .ok (.invokevirtual 120, 3) := by decide +kernel
theorem dX5_come_92 : decode cX5_come 92 = .ok (.ifCond .eq 5, 3) := by decide +kernel
theorem dX5_come_95 : decode cX5_come 95 = .ok (.iconst 0, 1) := by decide +kernel
theorem dX5_come_96 : decode cX5_come 96 = .ok (.ireturn, 1) := by decide +kernel
theorem dX5_come_97 : decode cX5_come 97 = .ok (.aload_n 0, 1) := by decide +kernel
theorem dX5_come_98 : decode cX5_come 98 = .ok (.getfield 103, 3) := by decide +kernel
theorem dX5_come_101 : decode cX5_come 101 = .ok (.istore 5, 2) := by decide +kernel
theorem dX5_come_103 : decode cX5_come 103 = .ok (.aload_n 0, 1) := by decide +kernel
theorem dX5_come_104 : decode cX5_come 104 = .ok (.dup, 1) := by decide +kernel
theorem dX5_come_105 : decode cX5_come 105 = .ok (.getfield 103, 3) := by decide +kernel
theorem dX5_come_108 : decode cX5_come 108 = .ok (.iconst 1, 1) := by decide +kernel
theorem dX5_come_109 : decode cX5_come 109 = .ok (.iadd, 1) := by decide +kernel
theorem dX5_come_110 : decode cX5_come 110 = .ok (.putfield 103, 3) := by decide +kernel
theorem dX5_come_113 : decode cX5_come 113 = .ok (.aload_n 0, 1) := by decide +kernel
theorem dX5_come_114 : decode cX5_come 114 = .ok (.getfield 40, 3) := by decide +kernel
theorem dX5_come_117 : decode cX5_come 117 = .ok (.iload 5, 2) := by decide +kernel
theorem dX5_come_119 : decode cX5_come 119 = .ok (.iconst 0, 1) := by decide +kernel
theorem dX5_come_120 : decode cX5_come 120 = .ok (.iastore, 1) := by decide +kernel
theorem dX5_come_121 : decode cX5_come 121 = .ok (.aload_n 0, 1) := by decide +kernel
theorem dX5_come_122 : decode cX5_come 122 = .ok (.getfield 43, 3) := by decide +kernel
theorem dX5_come_125 : decode cX5_come 125 = .ok (.iload 5, 2) := by decide +kernel
theorem dX5_come_127 : decode cX5_come 127 = .ok (.iload_n 1, 1) := by decide +kernel
theorem dX5_come_128 : decode cX5_come 128 = .ok (.iastore, 1) := by decide +kernel
theorem dX5_come_129 : decode cX5_come 129 = .ok (.aload_n 0, 1) := by decide +kernel
theorem dX5_come_130 : decode cX5_come 130 = .ok (.getfield 49, 3) := by decide +kernel
theorem dX5_come_133 : decode cX5_come 133 = .ok (.iload 5, 2) := by decide +kernel
theorem dX5_come_135 : decode cX5_come 135 = .ok (.aload_n 0, 1) := by decide +kernel
theorem dX5_come_136 : decode cX5_come 136 = .ok (.getfield 22, 3) := by decide +kernel
theorem dX5_come_139 : decode cX5_come 139 = .ok (.iload_n 1, 1) := by decide +kernel
theorem dX5_come_140 : decode cX5_come 140 = .ok (.iaload, 1) := by decide +kernel
theorem dX5_come_141 : decode cX5_come 141 = .ok (.iastore, 1) := by decide +kernel
theorem dX5_come_142 : decode cX5_come 142 = .ok (.aload_n 0, 1) := by decide +kernel
theorem dX5_come_143 : decode cX5_come 143 = .ok (.getfield 46, 3) := by decide +kernel
theorem dX5_come_146 : decode cX5_come 146 = .ok (.iload 5, 2) := by decide +kernel
theorem dX5_come_148 : decode cX5_come 148 = .ok (.aload_n 0, 1) := by decide +kernel
theorem dX5_come_149 : decode cX5_come 149 = .ok (.iload_n 1, 1) := by decide +kernel
theorem dX5_come_150 : decode cX5_come 150 = .ok (.aload_n 0, 1) := by decide +kernel
theorem dX5_come_151 : decode cX5_come 151 = .ok (.getfield 7, 3) := by decide +kernel
theorem dX5_come_154 : decode cX5_come 154 = .ok (.iload_n 1, 1) := by decide +kernel
theorem dX5_come_155 : decode cX5_come 155 = .ok (.iaload, 1) := by decide +kernel
theorem dX5_come_156 : decode cX5_come 156 = .ok (.aload_n 0, 1) := by decide +kernel
theorem dX5_come_157 : decode cX5_come 157 = .ok (.getfield 22, 3) := by decide +kernel
theorem dX5_come_160 : decode cX5_come 160 = .ok (.iload_n 1, 1) := by decide +kernel
theorem dX5_come_161 : decode cX5_come 161 = .ok (.iaload, 1) := by decide +kernel
theorem dX5_come_162 : decode cX5_come 162 = .ok (.invokevirtual 133, 3) := by decide +kernel
theorem dX5_come_165 : decode cX5_come 165 = .ok (.iastore, 1) := by decide +kernel
theorem dX5_come_166 : decode cX5_come 166 = .ok (.aload_n 0, 1) := by decide +kernel
theorem dX5_come_167 : decode cX5_come 167 = .ok (.getfield 52, 3) := by decide +kernel
theorem dX5_come_170 : decode cX5_come 170 = .ok (.iload 5, 2) := by decide +kernel
theorem dX5_come_172 : decode cX5_come 172 = .ok (.aload_n 0, 1) := by decide +kernel
theorem dX5_come_173 : decode cX5_come 173 = .ok (.getfield 141, 3) := by decide +kernel
theorem dX5_come_176 : decode cX5_come 176 = .ok (.iastore, 1) := by decide +kernel
theorem dX5_come_177 : decode cX5_come 177 = .ok (.iload_n 3, 1) := by decide +kernel
theorem dX5_come_178 : decode cX5_come 178 = .ok (.iconst (-1), 1) := by decide +kernel
theorem dX5_come_179 : decode cX5_come 179 = .ok (.if_icmp .eq 18, 3) := by decide +kernel
theorem dX5_come_182 : decode cX5_come 182 = .ok (.aload_n 0, 1) := by decide +kernel
theorem dX5_come_183 : decode cX5_come 183 = .ok (.getfield 83, 3) := by decide +kernel
theorem dX5_come_186 : decode cX5_come 186 = .ok (.iload_n 3, 1) := by decide +kernel
theorem dX5_come_187 : decode cX5_come 187 = .ok (.iconst 1, 1) := by decide +kernel
theorem dX5_come_188 : decode cX5_come 188 = .ok (.iastore, 1) := by decide +kernel
theorem dX5_come_189 : decode cX5_come 189 = .ok (.aload_n 0, 1) := by decide +kernel
theorem dX5_come_190 : decode cX5_come 190 = .ok (.getfield 86, 3) := by decide +kernel
theorem dX5_come_193 : decode cX5_come 193 = .ok (.iload_n 3, 1) := by decide +kernel
theorem dX5_come_194 : decode cX5_come 194 = .ok (.iload 5, 2) := by decide +kernel
theorem dX5_come_196 : decode cX5_come 196 = .ok (.iastore, 1) := by decide +kernel
theorem dX5_come_197 : decode cX5_come 197 = .ok (.aload_n 0, 1) := by decide +kernel
theorem dX5_come_198 : decode cX5_come 198 = .ok (.getfield 16, 3) := by decide +kernel
theorem dX5_come_201 : decode cX5_come 201 = .ok (.iload_n 1, 1) := by decide +kernel
theorem dX5_come_202 : decode cX5_come 202 = .ok (.iconst 1, 1) := by decide +kernel
theorem dX5_come_203 : decode cX5_come 203 = .ok (.iastore, 1) := by decide +kernel
theorem dX5_come_204 : decode cX5_come 204 = .ok (.aload_n 0, 1) := by decide +kernel
theorem dX5_come_205 : decode cX5_come 205 = .ok (.getfield 25, 3) := by decide +kernel
theorem dX5_come_208 : decode cX5_come 208 = .ok (.iload_n 1, 1) := by decide +kernel
theorem dX5_come_209 : decode cX5_come 209 = .ok (.iload 5, 2) := by decide +kernel
theorem dX5_come_211 : decode cX5_come 211 = .ok (.iastore, 1) := by decide +kernel
theorem dX5_come_212 : decode cX5_come 212 = .ok (.aload_n 0, 1) := by decide +kernel
theorem dX5_come_213 : decode cX5_come 213 = .ok (.getfield 46, 3) := by decide +kernel
theorem dX5_come_216 : decode cX5_come 216 = .ok (.iload 5, 2) := by decide +kernel
theorem dX5_come_218 : decode cX5_come 218 = .ok (.iaload, 1) := by decide +kernel
theorem dX5_come_219 : decode cX5_come 219 = .ok (.iconst 1, 1) := by decide +kernel
theorem dX5_come_220 : decode cX5_come 220 = .ok (.iand, 1) := by decide +kernel
theorem dX5_come_221 : decode cX5_come 221 = .ok (.iconst 1, 1) := by decide +kernel
theorem dX5_come_222 : decode cX5_come 222 = .ok (.if_icmp .ne 10, 3) := by decide +kernel
theorem dX5_come_225 : decode cX5_come 225 = .ok (.aload_n 0, 1) := by decide +kernel
theorem dX5_come_226 : decode cX5_come 226 = .ok (.iload 5, 2) := by decide +kernel
theorem dX5_come_228 : decode cX5_come 228 = .ok (.iconst 1, 1) := by decide +kernel
theorem dX5_come_229 : decode cX5_come 229 = .ok (.invokevirtual 126, 3) := by decide +kernel
theorem dX5_come_232 : decode cX5_come 232 = .ok (.iload 5, 2) := by decide +kernel
theorem dX5_come_234 : decode cX5_come 234 = .ok (.ireturn, 1) := by decide +kernel
set_option maxRecDepth 20000 in
theorem ggX5_maySolve_X5_isOut : GoodIn wsX5_maySolve wsX5_isOut := goodIn_r _ [9, 10, 11, 12, 13, 14, 15, 16, 17, 18, 19, 20, 21, 22, 23, 24, 25, 26, 27, 28, 29, 30, 31, 32, 33, 34, 35, 36, 37, 38, 39, 40, 41, 42, 43, 44] (by decide +kernel) (by decide +kernel)
set_option maxRecDepth 20000 in
theorem gX5_maySolve_X5_isOut : GoodIn wsX5_maySolve (wsV RX5 112 RX5 yX5_isOut wsX5_isOut) := goodIn_app (goodIn_of _ (by decide +kernel)) ggX5_maySolve_X5_isOut
theorem dX5_maySolve_0 : decode cX5_maySolve 0 = .ok (.bipush 8, 2) := by decide +kernel
theorem dX5_maySolve_2 : decode cX5_maySolve 2 = .ok (.aload_n 0, 1) := by decide +kernel
theorem dX5_maySolve_3 : decode cX5_maySolve 3 = .ok (.getfield 43, 3) := by decide +kernel
theorem dX5_maySolve_6 : decode cX5_maySolve 6 = .ok (.iload_n 1, 1) := by decide +kernel
theorem dX5_maySolve_7 : decode cX5_maySolve 7 = .ok (.iaload, 1) := by decide +kernel
theorem dX5_maySolve_8 : decode cX5_maySolve 8 = .ok (.imul, 1) := by decide +kernel
theorem dX5_maySolve_9 : decode cX5_maySolve 9 = .ok (.iload_n 2, 1) := by decide +kernel
theorem dX5_maySolve_10 : decode cX5_maySolve 10 = .ok (.iadd, 1) := by decide +kernel
theorem dX5_maySolve_11 : decode cX5_maySolve 11 = .ok (.istore_n 3, 1) := by decide +kernel
theorem dX5_maySolve_12 : decode cX5_maySolve 12 = .ok (.aload_n 0, 1) := by decide +kernel
theorem dX5_maySolve_13 : decode cX5_maySolve 13 = .ok (.getfield 49, 3) := by decide +kernel
theorem dX5_maySolve_16 : decode cX5_maySolve 16 = .ok (.iload_n 1, 1) := by decide +kernel
theorem dX5_maySolve_17 : decode cX5_maySolve 17 = .ok (.iaload, 1) := by decide +kernel
theorem dX5_maySolve_18 : decode cX5_maySolve 18 = .ok (.iload_n 2, 1) := by decide +kernel
theorem dX5_maySolve_19 : decode cX5_maySolve 19 = .ok (.ishr, 1) := by decide +kernel
theorem dX5_maySolve_20 : decode cX5_maySolve 20 = .ok (.iconst 1, 1) := by decide +kernel
theorem dX5_maySolve_21 : decode cX5_maySolve 21 = .ok (.iand, 1) := by decide +kernel
theorem dX5_maySolve_22 : decode cX5_maySolve 22 = .ok (.ifCond .ne 33, 3) := by decide +kernel
theorem dX5_maySolve_25 : decode cX5_maySolve 25 = .ok (.aload_n 0, 1) := by decide +kernel
theorem dX5_maySolve_26 : decode cX5_maySolve 26 = .ok (.iload_n 3, 1) := by decide +kernel
theorem dX5_maySolve_27 : decode cX5_maySolve 27 = .ok (.invokevirtual 112, 3) := by decide +kernel
theorem dX5_maySolve_30 : decode cX5_maySolve 30 = .ok (.ifCond .ne 25, 3) := by decide +kernel
theorem dX5_maySolve_33 : decode cX5_maySolve 33 = .ok (.aload_n 0, 1) := by decide +kernel
theorem dX5_maySolve_34 : decode cX5_maySolve 34 = .ok (.getfield 28, 3) := by decide +kernel
theorem dX5_maySolve_37 : decode cX5_maySolve 37 = .ok (.iload_n 3, 1) := by decide +kernel
theorem dX5_maySolve_38 : decode cX5_maySolve 38 = .ok (.iaload, 1) := by decide +kernel
theorem dX5_maySolve_39 : decode cX5_maySolve 39 = .ok (.aload_n 0, 1) := by decide +kernel
theorem dX5_maySolve_40 : decode cX5_maySolve 40 = .ok (.getfield 46, 3) := by decide +kernel
theorem dX5_maySolve_43 : decode cX5_maySolve 43 = .ok (.iload_n 1, 1) := by decide +kernel
theorem dX5_maySolve_44 : decode cX5_maySolve 44 = .ok (.iaload, 1) := by decide +kernel
theorem dX5_maySolve_45 : decode cX5_maySolve 45 = .ok (.iconst (-1), 1) := by decide +kernel
theorem dX5_maySolve_46 : decode cX5_maySolve 46 = .ok (.ixor, 1) := by decide +kernel
theorem dX5_maySolve_47 : decode cX5_maySolve 47 = .ok (.iand, 1) := by decide +kernel
theorem dX5_maySolve_48 : decode cX5_maySolve 48 = .ok (.ifCond .ne 7, 3) := by decide +kernel
theorem dX5_maySolve_51 : decode cX5_maySolve 51 = .ok (.iconst 1, 1) := by decide +kernel
theorem dX5_maySolve_52 : decode cX5_maySolve 52 = .ok (.goto 4, 3) := by decide +kernel
theorem dX5_maySolve_55 : decode cX5_maySolve 55 = .ok (.iconst 0, 1) := by decide +kernel
theorem dX5_maySolve_56 : decode cX5_maySolve 56 = .ok (.ireturn, 1) := by decide +kernel
set_option maxRecDepth 20000 in
theorem ggX5_solve_X5_isGroup : GoodIn wsX5_solve wsX5_isGroup := goodIn_r _ [11, 12, 13, 14, 10, 15, 39, 40, 41, 42, 43, 44, 45, 46, 47, 48, 49, 50, 51, 52, 53, 54, 55, 56, 57, 58, 59, 60, 61, 62, 63, 64, 65, 66, 67, 68, 69, 70, 71] (by decide +kernel) (by decide +kernel)
set_option maxRecDepth 20000 in
theorem gX5_solve_X5_isGroup : GoodIn wsX5_solve (wsV RX5 153 RX5 yX5_isGroup wsX5_isGroup) := goodIn_app (goodIn_of _ (by decide +kernel)) ggX5_solve_X5_isGroup
set_option maxRecDepth 20000 in
theorem ggX5_solve_X5_in : GoodIn wsX5_solve wsX5_in := goodIn_r _ [15] (by decide +kernel) (by decide +kernel)
set_option maxRecDepth 20000 in
theorem gX5_solve_X5_in : GoodIn wsX5_solve (va_wsS RX5 99 yX5_in wsX5_in) := goodIn_app (goodIn_of _ (by decide +kernel)) ggX5_solve_X5_in
set_option maxRecDepth 20000 in
theorem ggX5_solve_X5_maySolve : GoodIn wsX5_solve wsX5_maySolve := goodIn_r _ [19, 2, 4, 20, 5, 21, 22, 23, 10, 24, 25, 26, 39, 40, 41, 42, 43, 44, 45, 46, 47, 48, 49, 50, 51, 52, 53, 54, 55, 56, 57, 58, 59, 60, 61, 62, 63, 64, 65, 66, 67, 68, 69, 70, 71] (by decide +kernel) (by decide +kernel)
set_option maxRecDepth 20000 in
theorem gX5_solve_X5_maySolve : GoodIn wsX5_solve (wsV RX5 156 RX5 yX5_maySolve wsX5_maySolve) := goodIn_app (goodIn_of _ (by decide +kernel)) ggX5_solve_X5_maySolve
set_option maxRecDepth 20000 in
theorem ggX5_solve_X5_refused : GoodIn wsX5_solve wsX5_refused := goodIn_r _ [30, 31, 39, 40, 41, 42, 43, 44, 45, 46, 47, 48, 49, 50, 51, 52, 53, 54, 55, 56, 57, 58, 59, 60, 61, 62, 63, 64, 65, 66, 67, 68, 69, 70, 71] (by decide +kernel) (by decide +kernel)
set_option maxRecDepth 20000 in
theorem gX5_solve_X5_refused : GoodIn wsX5_solve (wsV RX5 120 RX5 yX5_refused wsX5_refused) := goodIn_app (goodIn_of _ (by decide +kernel)) ggX5_solve_X5_refused
set_option maxRecDepth 20000 in
theorem ggX5_solve_X5_leaves : GoodIn wsX5_solve wsX5_leaves := goodIn_r _ [35, 2, 3, 36, 37, 4, 38, 39, 40, 41, 42, 43, 44, 45, 46, 47, 48, 49, 50, 51, 52, 53, 54, 55, 56, 57, 58, 59, 60, 61, 62, 63, 64, 65, 66, 67, 68, 69, 70, 71] (by decide +kernel) (by decide +kernel)
set_option maxRecDepth 20000 in
theorem gX5_solve_X5_leaves : GoodIn wsX5_solve (wsV RX5 126 RX5 yX5_leaves wsX5_leaves) := goodIn_app (goodIn_of _ (by decide +kernel)) ggX5_solve_X5_leaves
theorem dX5_solve_0 : decode cX5_solve 0 = .ok (.aload_n 0, 1) := by decide +kernel
theorem dX5_solve_1 : decode cX5_solve 1 = .ok (.iload_n 1, 1) := by decide +kernel
theorem dX5_solve_2 : decode cX5_solve 2 = .ok (.invokevirtual 153, 3) := by decide +kernel
theorem dX5_solve_5 : decode cX5_solve 5 = .ok (.ifCond .eq 28, 3) := by decide +kernel
theorem dX5_solve_8 : decode cX5_solve 8 = .ok (.iload_n 2, 1) := by decide +kernel
theorem dX5_solve_9 : decode cX5_solve 9 = .ok (.iconst 0, 1) := by decide +kernel
theorem dX5_solve_10 : decode cX5_solve 10 = .ok (.aload_n 0, 1) := by decide +kernel
theorem dX5_solve_11 : decode cX5_solve 11 = .ok (.getfield 13, 3) := by decide +kernel
theorem dX5_solve_14 : decode cX5_solve 14 = .ok (.aload_n 0, 1) := by decide +kernel
theorem dX5_solve_15 : decode cX5_solve 15 = .ok (.getfield 43, 3) := by decide +kernel
theorem dX5_solve_18 : decode cX5_solve 18 = .ok (.iload_n 1, 1) := by decide +kernel
theorem dX5_solve_19 : decode cX5_solve 19 = .ok (.iaload, 1) := by decide +kernel
theorem dX5_solve_20 : decode cX5_solve 20 = .ok (.iaload, 1) := by decide +kernel
theorem dX5_solve_21 : decode cX5_solve 21 = .ok (.iconst 1, 1) := by decide +kernel
theorem dX5_solve_22 : decode cX5_solve 22 = .ok (.isub, 1) := by decide +kernel
theorem dX5_solve_23 : decode cX5_solve 23 = .ok (.invokestatic 99, 3) := by decide +kernel
theorem dX5_solve_26 : decode cX5_solve 26 = .ok (.ifCond .eq 7, 3) := by decide +kernel
theorem dX5_solve_29 : decode cX5_solve 29 = .ok (.iconst 1, 1) := by decide +kernel
theorem dX5_solve_30 : decode cX5_solve 30 = .ok (.goto 4, 3) := by decide +kernel
theorem dX5_solve_33 : decode cX5_solve 33 = .ok (.iconst 0, 1) := by decide +kernel
theorem dX5_solve_34 : decode cX5_solve 34 = .ok (.istore_n 3, 1) := by decide +kernel
theorem dX5_solve_35 : decode cX5_solve 35 = .ok (.aload_n 0, 1) := by decide +kernel
theorem dX5_solve_36 : decode cX5_solve 36 = .ok (.iload_n 3, 1) := by decide +kernel
theorem dX5_solve_37 : decode cX5_solve 37 = .ok (.ifCond .ne 7, 3) := by decide +kernel
theorem dX5_solve_40 : decode cX5_solve 40 = .ok (.iconst 1, 1) := by decide +kernel
theorem dX5_solve_41 : decode cX5_solve 41 = .ok (.goto 26, 3) := by decide +kernel
theorem dX5_solve_44 : decode cX5_solve 44 = .ok (.aload_n 0, 1) := by decide +kernel
theorem dX5_solve_45 : decode cX5_solve 45 = .ok (.getfield 40, 3) := by decide +kernel
theorem dX5_solve_48 : decode cX5_solve 48 = .ok (.iload_n 1, 1) := by decide +kernel
theorem dX5_solve_49 : decode cX5_solve 49 = .ok (.iaload, 1) := by decide +kernel
theorem dX5_solve_50 : decode cX5_solve 50 = .ok (.ifCond .ne 12, 3) := by decide +kernel
theorem dX5_solve_53 : decode cX5_solve 53 = .ok (.aload_n 0, 1) := by decide +kernel
theorem dX5_solve_54 : decode cX5_solve 54 = .ok (.iload_n 1, 1) := by decide +kernel
theorem dX5_solve_55 : decode cX5_solve 55 = .ok (.iload_n 2, 1) := by decide +kernel
theorem dX5_solve_56 : decode cX5_solve 56 = .ok (.invokevirtual 156, 3) := by decide +kernel
theorem dX5_solve_59 : decode cX5_solve 59 = .ok (.ifCond .ne 7, 3) := by decide +kernel
theorem dX5_solve_62 : decode cX5_solve 62 = .ok (.iconst 2, 1) := by decide +kernel
theorem dX5_solve_63 : decode cX5_solve 63 = .ok (.goto 4, 3) := by decide +kernel
theorem dX5_solve_66 : decode cX5_solve 66 = .ok (.iconst 0, 1) := by decide +kernel
theorem dX5_solve_67 : decode cX5_solve 67 = .ok (.invokevirtual 120, 3) := by decide +kernel
theorem dX5_solve_70 : decode cX5_solve 70 = .ok (.ifCond .eq 5, 3) := by decide +kernel
theorem dX5_solve_73 : decode cX5_solve 73 = .ok (.iconst 0, 1) := by decide +kernel
theorem dX5_solve_74 : decode cX5_solve 74 = .ok (.ireturn, 1) := by decide +kernel
theorem dX5_solve_75 : decode cX5_solve 75 = .ok (.aload_n 0, 1) := by decide +kernel
theorem dX5_solve_76 : decode cX5_solve 76 = .ok (.getfield 49, 3) := by decide +kernel
theorem dX5_solve_79 : decode cX5_solve 79 = .ok (.iload_n 1, 1) := by decide +kernel
theorem dX5_solve_80 : decode cX5_solve 80 = .ok (.dup2, 1) := by decide +kernel
theorem dX5_solve_81 : decode cX5_solve 81 = .ok (.iaload, 1) := by decide +kernel
theorem dX5_solve_82 : decode cX5_solve 82 = .ok (.iconst 1, 1) := by decide +kernel
theorem dX5_solve_83 : decode cX5_solve 83 = .ok (.iload_n 2, 1) := by decide +kernel
theorem dX5_solve_84 : decode cX5_solve 84 = .ok (.ishl, 1) := by decide +kernel
theorem dX5_solve_85 : decode cX5_solve 85 = .ok (.ior, 1) := by decide +kernel
theorem dX5_solve_86 : decode cX5_solve 86 = .ok (.iastore, 1) := by decide +kernel
theorem dX5_solve_87 : decode cX5_solve 87 = .ok (.aload_n 0, 1) := by decide +kernel
theorem dX5_solve_88 : decode cX5_solve 88 = .ok (.getfield 46, 3) := by decide +kernel
theorem dX5_solve_91 : decode cX5_solve 91 = .ok (.iload_n 1, 1) := by decide +kernel
theorem dX5_solve_92 : decode cX5_solve 92 = .ok (.dup2, 1) := by decide +kernel
theorem dX5_solve_93 : decode cX5_solve 93 = .ok (.iaload, 1) := by decide +kernel
theorem dX5_solve_94 : decode cX5_solve 94 = .ok (.aload_n 0, 1) := by decide +kernel
theorem dX5_solve_95 : decode cX5_solve 95 = .ok (.getfield 31, 3) := by decide +kernel
theorem dX5_solve_98 : decode cX5_solve 98 = .ok (.bipush 8, 2) := by decide +kernel
theorem dX5_solve_100 : decode cX5_solve 100 = .ok (.aload_n 0, 1) := by decide +kernel
theorem dX5_solve_101 : decode cX5_solve 101 = .ok (.getfield 43, 3) := by decide +kernel
theorem dX5_solve_104 : decode cX5_solve 104 = .ok (.iload_n 1, 1) := by decide +kernel
theorem dX5_solve_105 : decode cX5_solve 105 = .ok (.iaload, 1) := by decide +kernel
theorem dX5_solve_106 : decode cX5_solve 106 = .ok (.imul, 1) := by decide +kernel
theorem dX5_solve_107 : decode cX5_solve 107 = .ok (.iload_n 2, 1) := by decide +kernel
theorem dX5_solve_108 : decode cX5_solve 108 = .ok (.iadd, 1) := by decide +kernel
theorem dX5_solve_109 : decode cX5_solve 109 = .ok (.iaload, 1) := by decide +kernel
theorem dX5_solve_110 : decode cX5_solve 110 = .ok (.ior, 1) := by decide +kernel
theorem dX5_solve_111 : decode cX5_solve 111 = .ok (.iastore, 1) := by decide +kernel
theorem dX5_solve_112 : decode cX5_solve 112 = .ok (.aload_n 0, 1) := by decide +kernel
theorem dX5_solve_113 : decode cX5_solve 113 = .ok (.getfield 46, 3) := by decide +kernel
theorem dX5_solve_116 : decode cX5_solve 116 = .ok (.iload_n 1, 1) := by decide +kernel
theorem dX5_solve_117 : decode cX5_solve 117 = .ok (.iaload, 1) := by decide +kernel
theorem dX5_solve_118 : decode cX5_solve 118 = .ok (.iconst 1, 1) := by decide +kernel
theorem dX5_solve_119 : decode cX5_solve 119 = .ok (.iand, 1) := by decide +kernel
theorem dX5_solve_120 : decode cX5_solve 120 = .ok (.iconst 1, 1) := by decide +kernel
theorem dX5_solve_121 : decode cX5_solve 121 = .ok (.if_icmp .ne 9, 3) := by decide +kernel
theorem dX5_solve_124 : decode cX5_solve 124 = .ok (.aload_n 0, 1) := by decide +kernel
theorem dX5_solve_125 : decode cX5_solve 125 = .ok (.iload_n 1, 1) := by decide +kernel
theorem dX5_solve_126 : decode cX5_solve 126 = .ok (.iconst 1, 1) := by decide +kernel
theorem dX5_solve_127 : decode cX5_solve 127 = .ok (.invokevirtual 126, 3) := by decide +kernel
theorem dX5_solve_130 : decode cX5_solve 130 = .ok (.aload_n 0, 1) := by decide +kernel
theorem dX5_solve_131 : decode cX5_solve 131 = .ok (.getfield 46, 3) := by decide +kernel
theorem dX5_solve_134 : decode cX5_solve 134 = .ok (.iload_n 1, 1) := by decide +kernel
theorem dX5_solve_135 : decode cX5_solve 135 = .ok (.iaload, 1) := by decide +kernel
theorem dX5_solve_136 : decode cX5_solve 136 = .ok (.ireturn, 1) := by decide +kernel
theorem dX5_count_0 : decode cX5_count 0 = .ok (.iconst 0, 1) := by decide +kernel
theorem dX5_count_1 : decode cX5_count 1 = .ok (.istore_n 1, 1) := by decide +kernel
theorem dX5_count_2 : decode cX5_count 2 = .ok (.iload_n 0, 1) := by decide +kernel
theorem dX5_count_3 : decode cX5_count 3 = .ok (.istore_n 2, 1) := by decide +kernel
theorem dX5_count_4 : decode cX5_count 4 = .ok (.iload_n 2, 1) := by decide +kernel
theorem dX5_count_5 : decode cX5_count 5 = .ok (.ifCond .eq 15, 3) := by decide +kernel
theorem dX5_count_8 : decode cX5_count 8 = .ok (.iinc 1 1, 3) := by decide +kernel
theorem dX5_count_11 : decode cX5_count 11 = .ok (.iload_n 2, 1) := by decide +kernel
theorem dX5_count_12 : decode cX5_count 12 = .ok (.iload_n 2, 1) := by decide +kernel
theorem dX5_count_13 : decode cX5_count 13 = .ok (.iconst 1, 1) := by decide +kernel
theorem dX5_count_14 : decode cX5_count 14 = .ok (.isub, 1) := by decide +kernel
theorem dX5_count_15 : decode cX5_count 15 = .ok (.iand, 1) := by decide +kernel
theorem dX5_count_16 : decode cX5_count 16 = .ok (.istore_n 2, 1) := by decide +kernel
theorem dX5_count_17 : decode cX5_count 17 = .ok (.goto (-13), 3) := by decide +kernel
theorem dX5_count_20 : decode cX5_count 20 = .ok (.iload_n 1, 1) := by decide +kernel
theorem dX5_count_21 : decode cX5_count 21 = .ok (.ireturn, 1) := by decide +kernel
set_option maxRecDepth 20000 in
theorem ggX5_isWay_X5_heldBy : GoodIn wsX5_isWay wsX5_heldBy := goodIn_r _ [10, 3, 11, 18, 19, 20, 21, 22, 23, 24, 25, 26, 27, 28, 29, 30, 31, 32, 33, 34, 35, 36, 37, 38, 39, 40, 41, 42, 43, 44, 45, 46, 47, 48, 49, 50] (by decide +kernel) (by decide +kernel)
set_option maxRecDepth 20000 in
theorem gX5_isWay_X5_heldBy : GoodIn wsX5_isWay (wsV RX5 133 RX5 yX5_heldBy wsX5_heldBy) := goodIn_app (goodIn_of _ (by decide +kernel)) ggX5_isWay_X5_heldBy
set_option maxRecDepth 20000 in
theorem ggX5_isWay_X5_isOut : GoodIn wsX5_isWay wsX5_isOut := goodIn_r _ [15, 16, 17, 18, 19, 20, 21, 22, 23, 24, 25, 26, 27, 28, 29, 30, 31, 32, 33, 34, 35, 36, 37, 38, 39, 40, 41, 42, 43, 44, 45, 46, 47, 48, 49, 50] (by decide +kernel) (by decide +kernel)
set_option maxRecDepth 20000 in
theorem gX5_isWay_X5_isOut : GoodIn wsX5_isWay (wsV RX5 112 RX5 yX5_isOut wsX5_isOut) := goodIn_app (goodIn_of _ (by decide +kernel)) ggX5_isWay_X5_isOut
theorem dX5_isWay_0 : decode cX5_isWay 0 = .ok (.aload_n 0, 1) := by decide +kernel
theorem dX5_isWay_1 : decode cX5_isWay 1 = .ok (.getfield 43, 3) := by decide +kernel
theorem dX5_isWay_4 : decode cX5_isWay 4 = .ok (.iload_n 1, 1) := by decide +kernel
theorem dX5_isWay_5 : decode cX5_isWay 5 = .ok (.iaload, 1) := by decide +kernel
theorem dX5_isWay_6 : decode cX5_isWay 6 = .ok (.istore_n 3, 1) := by decide +kernel
theorem dX5_isWay_7 : decode cX5_isWay 7 = .ok (.iconst 0, 1) := by decide +kernel
theorem dX5_isWay_8 : decode cX5_isWay 8 = .ok (.istore 4, 2) := by decide +kernel
theorem dX5_isWay_10 : decode cX5_isWay 10 = .ok (.iconst (-1), 1) := by decide +kernel
theorem dX5_isWay_11 : decode cX5_isWay 11 = .ok (.istore 5, 2) := by decide +kernel
theorem dX5_isWay_13 : decode cX5_isWay 13 = .ok (.iload 4, 2) := by decide +kernel
theorem dX5_isWay_15 : decode cX5_isWay 15 = .ok (.iload 5, 2) := by decide +kernel
theorem dX5_isWay_17 : decode cX5_isWay 17 = .ok (.if_icmp .eq 127, 3) := by decide +kernel
theorem dX5_isWay_20 : decode cX5_isWay 20 = .ok (.iload 4, 2) := by decide +kernel
theorem dX5_isWay_22 : decode cX5_isWay 22 = .ok (.istore 5, 2) := by decide +kernel
theorem dX5_isWay_24 : decode cX5_isWay 24 = .ok (.aload_n 0, 1) := by decide +kernel
theorem dX5_isWay_25 : decode cX5_isWay 25 = .ok (.iload_n 3, 1) := by decide +kernel
theorem dX5_isWay_26 : decode cX5_isWay 26 = .ok (.aload_n 0, 1) := by decide +kernel
theorem dX5_isWay_27 : decode cX5_isWay 27 = .ok (.getfield 46, 3) := by decide +kernel
theorem dX5_isWay_30 : decode cX5_isWay 30 = .ok (.iload_n 1, 1) := by decide +kernel
theorem dX5_isWay_31 : decode cX5_isWay 31 = .ok (.iaload, 1) := by decide +kernel
theorem dX5_isWay_32 : decode cX5_isWay 32 = .ok (.iload 4, 2) := by decide +kernel
theorem dX5_isWay_34 : decode cX5_isWay 34 = .ok (.invokevirtual 133, 3) := by decide +kernel
theorem dX5_isWay_37 : decode cX5_isWay 37 = .ok (.istore 6, 2) := by decide +kernel
theorem dX5_isWay_39 : decode cX5_isWay 39 = .ok (.iconst 0, 1) := by decide +kernel
theorem dX5_isWay_40 : decode cX5_isWay 40 = .ok (.istore 7, 2) := by decide +kernel
theorem dX5_isWay_42 : decode cX5_isWay 42 = .ok (.iload 7, 2) := by decide +kernel
theorem dX5_isWay_44 : decode cX5_isWay 44 = .ok (.aload_n 0, 1) := by decide +kernel
theorem dX5_isWay_45 : decode cX5_isWay 45 = .ok (.getfield 13, 3) := by decide +kernel
theorem dX5_isWay_48 : decode cX5_isWay 48 = .ok (.iload_n 3, 1) := by decide +kernel
theorem dX5_isWay_49 : decode cX5_isWay 49 = .ok (.iaload, 1) := by decide +kernel
theorem dX5_isWay_50 : decode cX5_isWay 50 = .ok (.if_icmp .ge 91, 3) := by decide +kernel
theorem dX5_isWay_53 : decode cX5_isWay 53 = .ok (.bipush 8, 2) := by decide +kernel
theorem dX5_isWay_55 : decode cX5_isWay 55 = .ok (.iload_n 3, 1) := by decide +kernel
theorem dX5_isWay_56 : decode cX5_isWay 56 = .ok (.imul, 1) := by decide +kernel
theorem dX5_isWay_57 : decode cX5_isWay 57 = .ok (.iload 7, 2) := by decide +kernel
theorem dX5_isWay_59 : decode cX5_isWay 59 = .ok (.iadd, 1) := by decide +kernel
theorem dX5_isWay_60 : decode cX5_isWay 60 = .ok (.istore 8, 2) := by decide +kernel
theorem dX5_isWay_62 : decode cX5_isWay 62 = .ok (.iload_n 2, 1) := by decide +kernel
theorem dX5_isWay_63 : decode cX5_isWay 63 = .ok (.iload 7, 2) := by decide +kernel
theorem dX5_isWay_65 : decode cX5_isWay 65 = .ok (.ishr, 1) := by decide +kernel
theorem dX5_isWay_66 : decode cX5_isWay 66 = .ok (.iconst 1, 1) := by decide +kernel
theorem dX5_isWay_67 : decode cX5_isWay 67 = .ok (.iand, 1) := by decide +kernel
theorem dX5_isWay_68 : decode cX5_isWay 68 = .ok (.iconst 1, 1) := by decide +kernel
theorem dX5_isWay_69 : decode cX5_isWay 69 = .ok (.if_icmp .ne 45, 3) := by decide +kernel
theorem dX5_isWay_72 : decode cX5_isWay 72 = .ok (.aload_n 0, 1) := by decide +kernel
theorem dX5_isWay_73 : decode cX5_isWay 73 = .ok (.getfield 49, 3) := by decide +kernel
theorem dX5_isWay_76 : decode cX5_isWay 76 = .ok (.iload_n 1, 1) := by decide +kernel
theorem dX5_isWay_77 : decode cX5_isWay 77 = .ok (.iaload, 1) := by decide +kernel
theorem dX5_isWay_78 : decode cX5_isWay 78 = .ok (.iload 7, 2) := by decide +kernel
theorem dX5_isWay_80 : decode cX5_isWay 80 = .ok (.ishr, 1) := by decide +kernel
theorem dX5_isWay_81 : decode cX5_isWay 81 = .ok (.iconst 1, 1) := by decide +kernel
theorem dX5_isWay_82 : decode cX5_isWay 82 = .ok (.iand, 1) := by decide +kernel
theorem dX5_isWay_83 : decode cX5_isWay 83 = .ok (.ifCond .ne 31, 3) := by decide +kernel
theorem dX5_isWay_86 : decode cX5_isWay 86 = .ok (.aload_n 0, 1) := by decide +kernel
theorem dX5_isWay_87 : decode cX5_isWay 87 = .ok (.iload 8, 2) := by decide +kernel
theorem dX5_isWay_89 : decode cX5_isWay 89 = .ok (.invokevirtual 112, 3) := by decide +kernel
theorem dX5_isWay_92 : decode cX5_isWay 92 = .ok (.ifCond .ne 22, 3) := by decide +kernel
theorem dX5_isWay_95 : decode cX5_isWay 95 = .ok (.aload_n 0, 1) := by decide +kernel
theorem dX5_isWay_96 : decode cX5_isWay 96 = .ok (.getfield 28, 3) := by decide +kernel
theorem dX5_isWay_99 : decode cX5_isWay 99 = .ok (.iload 8, 2) := by decide +kernel
theorem dX5_isWay_101 : decode cX5_isWay 101 = .ok (.iaload, 1) := by decide +kernel
theorem dX5_isWay_102 : decode cX5_isWay 102 = .ok (.iload 6, 2) := by decide +kernel
theorem dX5_isWay_104 : decode cX5_isWay 104 = .ok (.iconst (-1), 1) := by decide +kernel
theorem dX5_isWay_105 : decode cX5_isWay 105 = .ok (.ixor, 1) := by decide +kernel
theorem dX5_isWay_106 : decode cX5_isWay 106 = .ok (.iand, 1) := by decide +kernel
theorem dX5_isWay_107 : decode cX5_isWay 107 = .ok (.ifCond .ne 7, 3) := by decide +kernel
theorem dX5_isWay_110 : decode cX5_isWay 110 = .ok (.iconst 1, 1) := by decide +kernel
theorem dX5_isWay_111 : decode cX5_isWay 111 = .ok (.goto 4, 3) := by decide +kernel
theorem dX5_isWay_114 : decode cX5_isWay 114 = .ok (.iconst 0, 1) := by decide +kernel
theorem dX5_isWay_115 : decode cX5_isWay 115 = .ok (.istore 9, 2) := by decide +kernel
theorem dX5_isWay_117 : decode cX5_isWay 117 = .ok (.iload 4, 2) := by decide +kernel
theorem dX5_isWay_119 : decode cX5_isWay 119 = .ok (.iload 9, 2) := by decide +kernel
theorem dX5_isWay_121 : decode cX5_isWay 121 = .ok (.ifCond .eq 10, 3) := by decide +kernel
theorem dX5_isWay_124 : decode cX5_isWay 124 = .ok (.iconst 1, 1) := by decide +kernel
theorem dX5_isWay_125 : decode cX5_isWay 125 = .ok (.iload 7, 2) := by decide +kernel
theorem dX5_isWay_127 : decode cX5_isWay 127 = .ok (.ishl, 1) := by decide +kernel
theorem dX5_isWay_128 : decode cX5_isWay 128 = .ok (.goto 4, 3) := by decide +kernel
theorem dX5_isWay_131 : decode cX5_isWay 131 = .ok (.iconst 0, 1) := by decide +kernel
theorem dX5_isWay_132 : decode cX5_isWay 132 = .ok (.ior, 1) := by decide +kernel
theorem dX5_isWay_133 : decode cX5_isWay 133 = .ok (.istore 4, 2) := by decide +kernel
theorem dX5_isWay_135 : decode cX5_isWay 135 = .ok (.iinc 7 1, 3) := by decide +kernel
theorem dX5_isWay_138 : decode cX5_isWay 138 = .ok (.goto (-96), 3) := by decide +kernel
theorem dX5_isWay_141 : decode cX5_isWay 141 = .ok (.goto (-128), 3) := by decide +kernel
theorem dX5_isWay_144 : decode cX5_isWay 144 = .ok (.iload 4, 2) := by decide +kernel
theorem dX5_isWay_146 : decode cX5_isWay 146 = .ok (.iload_n 2, 1) := by decide +kernel
theorem dX5_isWay_147 : decode cX5_isWay 147 = .ok (.if_icmp .ne 25, 3) := by decide +kernel
theorem dX5_isWay_150 : decode cX5_isWay 150 = .ok (.aload_n 0, 1) := by decide +kernel
theorem dX5_isWay_151 : decode cX5_isWay 151 = .ok (.iload_n 3, 1) := by decide +kernel
theorem dX5_isWay_152 : decode cX5_isWay 152 = .ok (.aload_n 0, 1) := by decide +kernel
theorem dX5_isWay_153 : decode cX5_isWay 153 = .ok (.getfield 46, 3) := by decide +kernel
theorem dX5_isWay_156 : decode cX5_isWay 156 = .ok (.iload_n 1, 1) := by decide +kernel
theorem dX5_isWay_157 : decode cX5_isWay 157 = .ok (.iaload, 1) := by decide +kernel
theorem dX5_isWay_158 : decode cX5_isWay 158 = .ok (.iload_n 2, 1) := by decide +kernel
theorem dX5_isWay_159 : decode cX5_isWay 159 = .ok (.invokevirtual 133, 3) := by decide +kernel
theorem dX5_isWay_162 : decode cX5_isWay 162 = .ok (.iconst 1, 1) := by decide +kernel
theorem dX5_isWay_163 : decode cX5_isWay 163 = .ok (.iand, 1) := by decide +kernel
theorem dX5_isWay_164 : decode cX5_isWay 164 = .ok (.iconst 1, 1) := by decide +kernel
theorem dX5_isWay_165 : decode cX5_isWay 165 = .ok (.if_icmp .ne 7, 3) := by decide +kernel
theorem dX5_isWay_168 : decode cX5_isWay 168 = .ok (.iconst 1, 1) := by decide +kernel
theorem dX5_isWay_169 : decode cX5_isWay 169 = .ok (.goto 4, 3) := by decide +kernel
theorem dX5_isWay_172 : decode cX5_isWay 172 = .ok (.iconst 0, 1) := by decide +kernel
theorem dX5_isWay_173 : decode cX5_isWay 173 = .ok (.ireturn, 1) := by decide +kernel
set_option maxRecDepth 20000 in
theorem ggX5_wayOf_X5_count : GoodIn wsX5_wayOf wsX5_count := goodIn_r _ [6] (by decide +kernel) (by decide +kernel)
set_option maxRecDepth 20000 in
theorem gX5_wayOf_X5_count : GoodIn wsX5_wayOf (va_wsS RX5 160 yX5_count wsX5_count) := goodIn_app (goodIn_of _ (by decide +kernel)) ggX5_wayOf_X5_count
set_option maxRecDepth 20000 in
theorem ggX5_wayOf_X5_isWay : GoodIn wsX5_wayOf wsX5_isWay := goodIn_r _ [10, 2, 11, 1, 12, 13, 14, 15, 16, 5, 17, 18, 19, 20, 21, 22, 23, 24, 25, 26, 27, 28, 29, 30, 31, 32, 33, 34, 35, 36, 37, 38, 39, 40, 41, 42, 43, 44, 45, 46, 47, 48, 49, 50, 51, 52, 53, 54, 55, 56, 57] (by decide +kernel) (by decide +kernel)
set_option maxRecDepth 20000 in
theorem gX5_wayOf_X5_isWay : GoodIn wsX5_wayOf (wsV RX5 163 RX5 yX5_isWay wsX5_isWay) := goodIn_app (goodIn_of _ (by decide +kernel)) ggX5_wayOf_X5_isWay
theorem dX5_wayOf_0 : decode cX5_wayOf 0 = .ok (.iconst 0, 1) := by decide +kernel
theorem dX5_wayOf_1 : decode cX5_wayOf 1 = .ok (.istore_n 2, 1) := by decide +kernel
theorem dX5_wayOf_2 : decode cX5_wayOf 2 = .ok (.iconst 1, 1) := by decide +kernel
theorem dX5_wayOf_3 : decode cX5_wayOf 3 = .ok (.istore_n 3, 1) := by decide +kernel
theorem dX5_wayOf_4 : decode cX5_wayOf 4 = .ok (.iload_n 3, 1) := by decide +kernel
theorem dX5_wayOf_5 : decode cX5_wayOf 5 = .ok (.iconst 1, 1) := by decide +kernel
theorem dX5_wayOf_6 : decode cX5_wayOf 6 = .ok (.aload_n 0, 1) := by decide +kernel
theorem dX5_wayOf_7 : decode cX5_wayOf 7 = .ok (.getfield 13, 3) := by decide +kernel
theorem dX5_wayOf_10 : decode cX5_wayOf 10 = .ok (.aload_n 0, 1) := by decide +kernel
theorem dX5_wayOf_11 : decode cX5_wayOf 11 = .ok (.getfield 43, 3) := by decide +kernel
theorem dX5_wayOf_14 : decode cX5_wayOf 14 = .ok (.iload_n 1, 1) := by decide +kernel
theorem dX5_wayOf_15 : decode cX5_wayOf 15 = .ok (.iaload, 1) := by decide +kernel
theorem dX5_wayOf_16 : decode cX5_wayOf 16 = .ok (.iaload, 1) := by decide +kernel
theorem dX5_wayOf_17 : decode cX5_wayOf 17 = .ok (.ishl, 1) := by decide +kernel
theorem dX5_wayOf_18 : decode cX5_wayOf 18 = .ok (.if_icmp .ge 39, 3) := by decide +kernel
theorem dX5_wayOf_21 : decode cX5_wayOf 21 = .ok (.iload_n 2, 1) := by decide +kernel
theorem dX5_wayOf_22 : decode cX5_wayOf 22 = .ok (.ifCond .eq 14, 3) := by decide +kernel
theorem dX5_wayOf_25 : decode cX5_wayOf 25 = .ok (.iload_n 3, 1) := by decide +kernel
theorem dX5_wayOf_26 : decode cX5_wayOf 26 = .ok (.invokestatic 160, 3) := by decide +kernel
theorem dX5_wayOf_29 : decode cX5_wayOf 29 = .ok (.iload_n 2, 1) := by decide +kernel
theorem dX5_wayOf_30 : decode cX5_wayOf 30 = .ok (.invokestatic 160, 3) := by decide +kernel
theorem dX5_wayOf_33 : decode cX5_wayOf 33 = .ok (.if_icmp .ge 16, 3) := by decide +kernel
theorem dX5_wayOf_36 : decode cX5_wayOf 36 = .ok (.aload_n 0, 1) := by decide +kernel
theorem dX5_wayOf_37 : decode cX5_wayOf 37 = .ok (.iload_n 1, 1) := by decide +kernel
theorem dX5_wayOf_38 : decode cX5_wayOf 38 = .ok (.iload_n 3, 1) := by decide +kernel
theorem dX5_wayOf_39 : decode cX5_wayOf 39 = .ok (.invokevirtual 163, 3) := by decide +kernel
theorem dX5_wayOf_42 : decode cX5_wayOf 42 = .ok (.ifCond .eq 7, 3) := by decide +kernel
theorem dX5_wayOf_45 : decode cX5_wayOf 45 = .ok (.iload_n 3, 1) := by decide +kernel
theorem dX5_wayOf_46 : decode cX5_wayOf 46 = .ok (.goto 4, 3) := by decide +kernel
theorem dX5_wayOf_49 : decode cX5_wayOf 49 = .ok (.iload_n 2, 1) := by decide +kernel
theorem dX5_wayOf_50 : decode cX5_wayOf 50 = .ok (.istore_n 2, 1) := by decide +kernel
theorem dX5_wayOf_51 : decode cX5_wayOf 51 = .ok (.iinc 3 1, 3) := by decide +kernel
theorem dX5_wayOf_54 : decode cX5_wayOf 54 = .ok (.goto (-50), 3) := by decide +kernel
theorem dX5_wayOf_57 : decode cX5_wayOf 57 = .ok (.iload_n 2, 1) := by decide +kernel
theorem dX5_wayOf_58 : decode cX5_wayOf 58 = .ok (.ireturn, 1) := by decide +kernel
theorem dX5_left_0 : decode cX5_left 0 = .ok (.bipush 60, 2) := by decide +kernel
theorem dX5_left_2 : decode cX5_left 2 = .ok (.aload_n 0, 1) := by decide +kernel
theorem dX5_left_3 : decode cX5_left 3 = .ok (.getfield 55, 3) := by decide +kernel
theorem dX5_left_6 : decode cX5_left 6 = .ok (.iload_n 1, 1) := by decide +kernel
theorem dX5_left_7 : decode cX5_left 7 = .ok (.iaload, 1) := by decide +kernel
theorem dX5_left_8 : decode cX5_left 8 = .ok (.isub, 1) := by decide +kernel
theorem dX5_left_9 : decode cX5_left 9 = .ok (.aload_n 0, 1) := by decide +kernel
theorem dX5_left_10 : decode cX5_left 10 = .ok (.getfield 141, 3) := by decide +kernel
theorem dX5_left_13 : decode cX5_left 13 = .ok (.aload_n 0, 1) := by decide +kernel
theorem dX5_left_14 : decode cX5_left 14 = .ok (.getfield 52, 3) := by decide +kernel
theorem dX5_left_17 : decode cX5_left 17 = .ok (.iload_n 1, 1) := by decide +kernel
theorem dX5_left_18 : decode cX5_left 18 = .ok (.iaload, 1) := by decide +kernel
theorem dX5_left_19 : decode cX5_left 19 = .ok (.isub, 1) := by decide +kernel
theorem dX5_left_20 : decode cX5_left 20 = .ok (.isub, 1) := by decide +kernel
theorem dX5_left_21 : decode cX5_left 21 = .ok (.ireturn, 1) := by decide +kernel
set_option maxRecDepth 20000 in
theorem ggX5_hint_X5_isGroup : GoodIn wsX5_hint wsX5_isGroup := goodIn_r _ [9, 10, 11, 12, 8, 13, 63, 64, 65, 66, 67, 68, 69, 70, 71, 72, 73, 74, 75, 76, 77, 78, 79, 80, 81, 82, 83, 84, 85, 86, 87, 88, 89, 90, 91, 92, 93, 94, 95] (by decide +kernel) (by decide +kernel)
set_option maxRecDepth 20000 in
theorem gX5_hint_X5_isGroup : GoodIn wsX5_hint (wsV RX5 153 RX5 yX5_isGroup wsX5_isGroup) := goodIn_app (goodIn_of _ (by decide +kernel)) ggX5_hint_X5_isGroup
set_option maxRecDepth 20000 in
theorem ggX5_hint_X5_refused : GoodIn wsX5_hint wsX5_refused := goodIn_r _ [17, 18, 63, 64, 65, 66, 67, 68, 69, 70, 71, 72, 73, 74, 75, 76, 77, 78, 79, 80, 81, 82, 83, 84, 85, 86, 87, 88, 89, 90, 91, 92, 93, 94, 95] (by decide +kernel) (by decide +kernel)
set_option maxRecDepth 20000 in
theorem gX5_hint_X5_refused : GoodIn wsX5_hint (wsV RX5 120 RX5 yX5_refused wsX5_refused) := goodIn_app (goodIn_of _ (by decide +kernel)) ggX5_hint_X5_refused
set_option maxRecDepth 20000 in
theorem ggX5_hint_X5_wayOf : GoodIn wsX5_hint wsX5_wayOf := goodIn_r _ [22, 23, 24, 25, 26, 8, 27, 28, 29, 30, 31, 32, 33, 34, 35, 36, 37, 38, 39, 40, 41, 42, 43, 44, 45, 63, 64, 65, 66, 67, 68, 69, 70, 71, 72, 73, 74, 75, 76, 77, 78, 79, 80, 81, 82, 83, 84, 85, 86, 87, 88, 89, 90, 91, 92, 93, 94, 95] (by decide +kernel) (by decide +kernel)
set_option maxRecDepth 20000 in
theorem gX5_hint_X5_wayOf : GoodIn wsX5_hint (wsV RX5 166 RX5 yX5_wayOf wsX5_wayOf) := goodIn_app (goodIn_of _ (by decide +kernel)) ggX5_hint_X5_wayOf
set_option maxRecDepth 20000 in
theorem ggX5_hint_X5_maySolve : GoodIn wsX5_hint wsX5_maySolve := goodIn_r _ [49, 24, 33, 34, 32, 40, 41, 42, 8, 43, 44, 45, 63, 64, 65, 66, 67, 68, 69, 70, 71, 72, 73, 74, 75, 76, 77, 78, 79, 80, 81, 82, 83, 84, 85, 86, 87, 88, 89, 90, 91, 92, 93, 94, 95] (by decide +kernel) (by decide +kernel)
set_option maxRecDepth 20000 in
theorem gX5_hint_X5_maySolve : GoodIn wsX5_hint (wsV RX5 156 RX5 yX5_maySolve wsX5_maySolve) := goodIn_app (goodIn_of _ (by decide +kernel)) ggX5_hint_X5_maySolve
set_option maxRecDepth 20000 in
theorem ggX5_hint_X5_left : GoodIn wsX5_hint wsX5_left := goodIn_r _ [53, 2, 54, 55, 63, 64, 65, 66, 67, 68, 69, 70, 71, 72, 73, 74, 75, 76, 77, 78, 79, 80, 81, 82, 83, 84, 85, 86, 87, 88, 89, 90, 91, 92, 93, 94, 95] (by decide +kernel) (by decide +kernel)
set_option maxRecDepth 20000 in
theorem gX5_hint_X5_left : GoodIn wsX5_hint (wsV RX5 169 RX5 yX5_left wsX5_left) := goodIn_app (goodIn_of _ (by decide +kernel)) ggX5_hint_X5_left
set_option maxRecDepth 20000 in
theorem ggX5_hint_X5_leaves : GoodIn wsX5_hint wsX5_leaves := goodIn_r _ [59, 24, 1, 60, 61, 33, 62, 63, 64, 65, 66, 67, 68, 69, 70, 71, 72, 73, 74, 75, 76, 77, 78, 79, 80, 81, 82, 83, 84, 85, 86, 87, 88, 89, 90, 91, 92, 93, 94, 95] (by decide +kernel) (by decide +kernel)
set_option maxRecDepth 20000 in
theorem gX5_hint_X5_leaves : GoodIn wsX5_hint (wsV RX5 126 RX5 yX5_leaves wsX5_leaves) := goodIn_app (goodIn_of _ (by decide +kernel)) ggX5_hint_X5_leaves
theorem dX5_hint_0 : decode cX5_hint 0 = .ok (.aload_n 0, 1) := by decide +kernel
theorem dX5_hint_1 : decode cX5_hint 1 = .ok (.iload_n 1, 1) := by decide +kernel
theorem dX5_hint_2 : decode cX5_hint 2 = .ok (.invokevirtual 153, 3) := by decide +kernel
theorem dX5_hint_5 : decode cX5_hint 5 = .ok (.istore_n 2, 1) := by decide +kernel
theorem dX5_hint_6 : decode cX5_hint 6 = .ok (.aload_n 0, 1) := by decide +kernel
theorem dX5_hint_7 : decode cX5_hint 7 = .ok (.iload_n 2, 1) := by decide +kernel
theorem dX5_hint_8 : decode cX5_hint 8 = .ok (.ifCond .ne 7, 3) := by decide +kernel
theorem dX5_hint_11 : decode cX5_hint 11 = .ok (.iconst 1, 1) := by decide +kernel
theorem dX5_hint_12 : decode cX5_hint 12 = .ok (.goto 17, 3) := by decide +kernel
theorem dX5_hint_15 : decode cX5_hint 15 = .ok (.aload_n 0, 1) := by decide +kernel
theorem dX5_hint_16 : decode cX5_hint 16 = .ok (.getfield 40, 3) := by decide +kernel
theorem dX5_hint_19 : decode cX5_hint 19 = .ok (.iload_n 1, 1) := by decide +kernel
theorem dX5_hint_20 : decode cX5_hint 20 = .ok (.iaload, 1) := by decide +kernel
theorem dX5_hint_21 : decode cX5_hint 21 = .ok (.ifCond .eq 7, 3) := by decide +kernel
theorem dX5_hint_24 : decode cX5_hint 24 = .ok (.iconst 2, 1) := by decide +kernel
theorem dX5_hint_25 : decode cX5_hint 25 = .ok (.goto 4, 3) := by decide +kernel
theorem dX5_hint_28 : decode cX5_hint 28 = .ok (.iconst 0, 1) := by decide +kernel
theorem dX5_hint_29 : decode cX5_hint 29 = .ok (.invokevirtual 120, 3) := by decide +kernel
theorem dX5_hint_32 : decode cX5_hint 32 = .ok (.ifCond .eq 5, 3) := by decide +kernel
theorem dX5_hint_35 : decode cX5_hint 35 = .ok (.iconst 0, 1) := by decide +kernel
theorem dX5_hint_36 : decode cX5_hint 36 = .ok (.ireturn, 1) := by decide +kernel
theorem dX5_hint_37 : decode cX5_hint 37 = .ok (.aload_n 0, 1) := by decide +kernel
theorem dX5_hint_38 : decode cX5_hint 38 = .ok (.iload_n 1, 1) := by decide +kernel
theorem dX5_hint_39 : decode cX5_hint 39 = .ok (.invokevirtual 166, 3) := by decide +kernel
theorem dX5_hint_42 : decode cX5_hint 42 = .ok (.istore_n 3, 1) := by decide +kernel
theorem dX5_hint_43 : decode cX5_hint 43 = .ok (.iconst (-1), 1) := by decide +kernel
theorem dX5_hint_44 : decode cX5_hint 44 = .ok (.istore 4, 2) := by decide +kernel
theorem dX5_hint_46 : decode cX5_hint 46 = .ok (.bipush 7, 2) := by decide +kernel
theorem dX5_hint_48 : decode cX5_hint 48 = .ok (.istore 5, 2) := by decide +kernel
theorem dX5_hint_50 : decode cX5_hint 50 = .ok (.iload 5, 2) := by decide +kernel
theorem dX5_hint_52 : decode cX5_hint 52 = .ok (.ifCond .lt 38, 3) := by decide +kernel
theorem dX5_hint_55 : decode cX5_hint 55 = .ok (.iload_n 3, 1) := by decide +kernel
theorem dX5_hint_56 : decode cX5_hint 56 = .ok (.iload 5, 2) := by decide +kernel
theorem dX5_hint_58 : decode cX5_hint 58 = .ok (.ishr, 1) := by decide +kernel
theorem dX5_hint_59 : decode cX5_hint 59 = .ok (.iconst 1, 1) := by decide +kernel
theorem dX5_hint_60 : decode cX5_hint 60 = .ok (.iand, 1) := by decide +kernel
theorem dX5_hint_61 : decode cX5_hint 61 = .ok (.iconst 1, 1) := by decide +kernel
theorem dX5_hint_62 : decode cX5_hint 62 = .ok (.if_icmp .ne 18, 3) := by decide +kernel
theorem dX5_hint_65 : decode cX5_hint 65 = .ok (.aload_n 0, 1) := by decide +kernel
theorem dX5_hint_66 : decode cX5_hint 66 = .ok (.iload_n 1, 1) := by decide +kernel
theorem dX5_hint_67 : decode cX5_hint 67 = .ok (.iload 5, 2) := by decide +kernel
theorem dX5_hint_69 : decode cX5_hint 69 = .ok (.invokevirtual 156, 3) := by decide +kernel
theorem dX5_hint_72 : decode cX5_hint 72 = .ok (.ifCond .eq 8, 3) := by decide +kernel
theorem dX5_hint_75 : decode cX5_hint 75 = .ok (.iload 5, 2) := by decide +kernel
theorem dX5_hint_77 : decode cX5_hint 77 = .ok (.goto 5, 3) := by decide +kernel
theorem dX5_hint_80 : decode cX5_hint 80 = .ok (.iload 4, 2) := by decide +kernel
theorem dX5_hint_82 : decode cX5_hint 82 = .ok (.istore 4, 2) := by decide +kernel
theorem dX5_hint_84 : decode cX5_hint 84 = .ok (.iinc 5 (-1), 3) := by decide +kernel
theorem dX5_hint_87 : decode cX5_hint 87 = .ok (.goto (-37), 3) := by decide +kernel
theorem dX5_hint_90 : decode cX5_hint 90 = .ok (.aload_n 0, 1) := by decide +kernel
theorem dX5_hint_91 : decode cX5_hint 91 = .ok (.getfield 55, 3) := by decide +kernel
theorem dX5_hint_94 : decode cX5_hint 94 = .ok (.iload_n 1, 1) := by decide +kernel
theorem dX5_hint_95 : decode cX5_hint 95 = .ok (.dup2, 1) := by decide +kernel
theorem dX5_hint_96 : decode cX5_hint 96 = .ok (.iaload, 1) := by decide +kernel
theorem dX5_hint_97 : decode cX5_hint 97 = .ok (.iconst 2, 1) := by decide +kernel
theorem dX5_hint_98 : decode cX5_hint 98 = .ok (.iconst 3, 1) := by decide +kernel
theorem dX5_hint_99 : decode cX5_hint 99 = .ok (.aload_n 0, 1) := by decide +kernel
theorem dX5_hint_100 : decode cX5_hint 100 = .ok (.getfield 61, 3) := by decide +kernel
theorem dX5_hint_103 : decode cX5_hint 103 = .ok (.bipush 8, 2) := by decide +kernel
theorem dX5_hint_105 : decode cX5_hint 105 = .ok (.iload_n 1, 1) := by decide +kernel
theorem dX5_hint_106 : decode cX5_hint 106 = .ok (.imul, 1) := by decide +kernel
theorem dX5_hint_107 : decode cX5_hint 107 = .ok (.iload 4, 2) := by decide +kernel
theorem dX5_hint_109 : decode cX5_hint 109 = .ok (.iadd, 1) := by decide +kernel
theorem dX5_hint_110 : decode cX5_hint 110 = .ok (.iaload, 1) := by decide +kernel
theorem dX5_hint_111 : decode cX5_hint 111 = .ok (.imul, 1) := by decide +kernel
theorem dX5_hint_112 : decode cX5_hint 112 = .ok (.iadd, 1) := by decide +kernel
theorem dX5_hint_113 : decode cX5_hint 113 = .ok (.iadd, 1) := by decide +kernel
theorem dX5_hint_114 : decode cX5_hint 114 = .ok (.iastore, 1) := by decide +kernel
theorem dX5_hint_115 : decode cX5_hint 115 = .ok (.aload_n 0, 1) := by decide +kernel
theorem dX5_hint_116 : decode cX5_hint 116 = .ok (.getfield 61, 3) := by decide +kernel
theorem dX5_hint_119 : decode cX5_hint 119 = .ok (.bipush 8, 2) := by decide +kernel
theorem dX5_hint_121 : decode cX5_hint 121 = .ok (.iload_n 1, 1) := by decide +kernel
theorem dX5_hint_122 : decode cX5_hint 122 = .ok (.imul, 1) := by decide +kernel
theorem dX5_hint_123 : decode cX5_hint 123 = .ok (.iload 4, 2) := by decide +kernel
theorem dX5_hint_125 : decode cX5_hint 125 = .ok (.iadd, 1) := by decide +kernel
theorem dX5_hint_126 : decode cX5_hint 126 = .ok (.dup2, 1) := by decide +kernel
theorem dX5_hint_127 : decode cX5_hint 127 = .ok (.iaload, 1) := by decide +kernel
theorem dX5_hint_128 : decode cX5_hint 128 = .ok (.iconst 1, 1) := by decide +kernel
theorem dX5_hint_129 : decode cX5_hint 129 = .ok (.iadd, 1) := by decide +kernel
theorem dX5_hint_130 : decode cX5_hint 130 = .ok (.iastore, 1) := by decide +kernel
theorem dX5_hint_131 : decode cX5_hint 131 = .ok (.aload_n 0, 1) := by decide +kernel
theorem dX5_hint_132 : decode cX5_hint 132 = .ok (.getfield 58, 3) := by decide +kernel
theorem dX5_hint_135 : decode cX5_hint 135 = .ok (.iload_n 1, 1) := by decide +kernel
theorem dX5_hint_136 : decode cX5_hint 136 = .ok (.dup2, 1) := by decide +kernel
theorem dX5_hint_137 : decode cX5_hint 137 = .ok (.iaload, 1) := by decide +kernel
theorem dX5_hint_138 : decode cX5_hint 138 = .ok (.iconst 1, 1) := by decide +kernel
theorem dX5_hint_139 : decode cX5_hint 139 = .ok (.iadd, 1) := by decide +kernel
theorem dX5_hint_140 : decode cX5_hint 140 = .ok (.iastore, 1) := by decide +kernel
theorem dX5_hint_141 : decode cX5_hint 141 = .ok (.aload_n 0, 1) := by decide +kernel
theorem dX5_hint_142 : decode cX5_hint 142 = .ok (.iload_n 1, 1) := by decide +kernel
theorem dX5_hint_143 : decode cX5_hint 143 = .ok (.invokevirtual 169, 3) := by decide +kernel
theorem dX5_hint_146 : decode cX5_hint 146 = .ok (.ifCond .gt 9, 3) := by decide +kernel
theorem dX5_hint_149 : decode cX5_hint 149 = .ok (.aload_n 0, 1) := by decide +kernel
theorem dX5_hint_150 : decode cX5_hint 150 = .ok (.iload_n 1, 1) := by decide +kernel
theorem dX5_hint_151 : decode cX5_hint 151 = .ok (.iconst 2, 1) := by decide +kernel
theorem dX5_hint_152 : decode cX5_hint 152 = .ok (.invokevirtual 126, 3) := by decide +kernel
theorem dX5_hint_155 : decode cX5_hint 155 = .ok (.iload 4, 2) := by decide +kernel
theorem dX5_hint_157 : decode cX5_hint 157 = .ok (.ireturn, 1) := by decide +kernel
set_option maxRecDepth 20000 in
theorem ggX5_giveUp_X5_isGroup : GoodIn wsX5_giveUp wsX5_isGroup := goodIn_r _ [6, 7, 8, 9, 5, 10, 25, 26, 27, 28, 29, 30, 31, 32, 33, 34, 35, 36, 37, 38, 39, 40, 41, 42, 43, 44, 45, 46, 47, 48, 49, 50, 51, 52, 53, 54, 55, 56, 57] (by decide +kernel) (by decide +kernel)
set_option maxRecDepth 20000 in
theorem gX5_giveUp_X5_isGroup : GoodIn wsX5_giveUp (wsV RX5 153 RX5 yX5_isGroup wsX5_isGroup) := goodIn_app (goodIn_of _ (by decide +kernel)) ggX5_giveUp_X5_isGroup
set_option maxRecDepth 20000 in
theorem ggX5_giveUp_X5_refused : GoodIn wsX5_giveUp wsX5_refused := goodIn_r _ [14, 15, 25, 26, 27, 28, 29, 30, 31, 32, 33, 34, 35, 36, 37, 38, 39, 40, 41, 42, 43, 44, 45, 46, 47, 48, 49, 50, 51, 52, 53, 54, 55, 56, 57] (by decide +kernel) (by decide +kernel)
set_option maxRecDepth 20000 in
theorem gX5_giveUp_X5_refused : GoodIn wsX5_giveUp (wsV RX5 120 RX5 yX5_refused wsX5_refused) := goodIn_app (goodIn_of _ (by decide +kernel)) ggX5_giveUp_X5_refused
set_option maxRecDepth 20000 in
theorem ggX5_giveUp_X5_leaves : GoodIn wsX5_giveUp wsX5_leaves := goodIn_r _ [19, 20, 1, 21, 22, 23, 24, 25, 26, 27, 28, 29, 30, 31, 32, 33, 34, 35, 36, 37, 38, 39, 40, 41, 42, 43, 44, 45, 46, 47, 48, 49, 50, 51, 52, 53, 54, 55, 56, 57] (by decide +kernel) (by decide +kernel)
set_option maxRecDepth 20000 in
theorem gX5_giveUp_X5_leaves : GoodIn wsX5_giveUp (wsV RX5 126 RX5 yX5_leaves wsX5_leaves) := goodIn_app (goodIn_of _ (by decide +kernel)) ggX5_giveUp_X5_leaves
theorem dX5_giveUp_0 : decode cX5_giveUp 0 = .ok (.aload_n 0, 1) := by decide +kernel
theorem dX5_giveUp_1 : decode cX5_giveUp 1 = .ok (.iload_n 1, 1) := by decide +kernel
theorem dX5_giveUp_2 : decode cX5_giveUp 2 = .ok (.invokevirtual 153, 3) := by decide +kernel
theorem dX5_giveUp_5 : decode cX5_giveUp 5 = .ok (.istore_n 2, 1) := by decide +kernel
theorem dX5_giveUp_6 : decode cX5_giveUp 6 = .ok (.aload_n 0, 1) := by decide +kernel
theorem dX5_giveUp_7 : decode cX5_giveUp 7 = .ok (.iload_n 2, 1) := by decide +kernel
theorem dX5_giveUp_8 : decode cX5_giveUp 8 = .ok (.ifCond .ne 7, 3) := by decide +kernel
theorem dX5_giveUp_11 : decode cX5_giveUp 11 = .ok (.iconst 1, 1) := by decide +kernel
theorem dX5_giveUp_12 : decode cX5_giveUp 12 = .ok (.goto 17, 3) := by decide +kernel
theorem dX5_giveUp_15 : decode cX5_giveUp 15 = .ok (.aload_n 0, 1) := by decide +kernel
theorem dX5_giveUp_16 : decode cX5_giveUp 16 = .ok (.getfield 40, 3) := by decide +kernel
theorem dX5_giveUp_19 : decode cX5_giveUp 19 = .ok (.iload_n 1, 1) := by decide +kernel
theorem dX5_giveUp_20 : decode cX5_giveUp 20 = .ok (.iaload, 1) := by decide +kernel
theorem dX5_giveUp_21 : decode cX5_giveUp 21 = .ok (.ifCond .eq 7, 3) := by decide +kernel
theorem dX5_giveUp_24 : decode cX5_giveUp 24 = .ok (.iconst 2, 1) := by decide +kernel
theorem dX5_giveUp_25 : decode cX5_giveUp 25 = .ok (.goto 4, 3) := by decide +kernel
theorem dX5_giveUp_28 : decode cX5_giveUp 28 = .ok (.iconst 0, 1) := by decide +kernel
theorem dX5_giveUp_29 : decode cX5_giveUp 29 = .ok (.invokevirtual 120, 3) := by decide +kernel
theorem dX5_giveUp_32 : decode cX5_giveUp 32 = .ok (.ifCond .ne 9, 3) := by decide +kernel
theorem dX5_giveUp_35 : decode cX5_giveUp 35 = .ok (.aload_n 0, 1) := by decide +kernel
theorem dX5_giveUp_36 : decode cX5_giveUp 36 = .ok (.iload_n 1, 1) := by decide +kernel
theorem dX5_giveUp_37 : decode cX5_giveUp 37 = .ok (.iconst 2, 1) := by decide +kernel
theorem dX5_giveUp_38 : decode cX5_giveUp 38 = .ok (.invokevirtual 126, 3) := by decide +kernel
theorem dX5_giveUp_41 : decode cX5_giveUp 41 = .ok (.return_, 1) := by decide +kernel
theorem dX5_nextToReset_0 : decode cX5_nextToReset 0 = .ok (.iconst (-1), 1) := by decide +kernel
theorem dX5_nextToReset_1 : decode cX5_nextToReset 1 = .ok (.istore_n 2, 1) := by decide +kernel
theorem dX5_nextToReset_2 : decode cX5_nextToReset 2 = .ok (.iconst (-1), 1) := by decide +kernel
theorem dX5_nextToReset_3 : decode cX5_nextToReset 3 = .ok (.istore_n 3, 1) := by decide +kernel
theorem dX5_nextToReset_4 : decode cX5_nextToReset 4 = .ok (.iconst 0, 1) := by decide +kernel
theorem dX5_nextToReset_5 : decode cX5_nextToReset 5 = .ok (.istore 4, 2) := by decide +kernel
theorem dX5_nextToReset_7 : decode cX5_nextToReset 7 = .ok (.iload 4, 2) := by decide +kernel
theorem dX5_nextToReset_9 : decode cX5_nextToReset 9 = .ok (.aload_n 0, 1) := by decide +kernel
theorem dX5_nextToReset_10 : decode cX5_nextToReset 10 = .ok (.getfield 13, 3) := by decide +kernel
theorem dX5_nextToReset_13 : decode cX5_nextToReset 13 = .ok (.iload_n 1, 1) := by decide +kernel
theorem dX5_nextToReset_14 : decode cX5_nextToReset 14 = .ok (.iaload, 1) := by decide +kernel
theorem dX5_nextToReset_15 : decode cX5_nextToReset 15 = .ok (.if_icmp .ge 136, 3) := by decide +kernel
theorem dX5_nextToReset_18 : decode cX5_nextToReset 18 = .ok (.aload_n 0, 1) := by decide +kernel
theorem dX5_nextToReset_19 : decode cX5_nextToReset 19 = .ok (.getfield 19, 3) := by decide +kernel
theorem dX5_nextToReset_22 : decode cX5_nextToReset 22 = .ok (.iload_n 1, 1) := by decide +kernel
theorem dX5_nextToReset_23 : decode cX5_nextToReset 23 = .ok (.iaload, 1) := by decide +kernel
theorem dX5_nextToReset_24 : decode cX5_nextToReset 24 = .ok (.iload 4, 2) := by decide +kernel
theorem dX5_nextToReset_26 : decode cX5_nextToReset 26 = .ok (.ishr, 1) := by decide +kernel
theorem dX5_nextToReset_27 : decode cX5_nextToReset 27 = .ok (.iconst 1, 1) := by decide +kernel
theorem dX5_nextToReset_28 : decode cX5_nextToReset 28 = .ok (.iand, 1) := by decide +kernel
theorem dX5_nextToReset_29 : decode cX5_nextToReset 29 = .ok (.iconst 1, 1) := by decide +kernel
theorem dX5_nextToReset_30 : decode cX5_nextToReset 30 = .ok (.if_icmp .ne 115, 3) := by decide +kernel
theorem dX5_nextToReset_33 : decode cX5_nextToReset 33 = .ok (.iload 4, 2) := by decide +kernel
theorem dX5_nextToReset_35 : decode cX5_nextToReset 35 = .ok (.istore_n 2, 1) := by decide +kernel
theorem dX5_nextToReset_36 : decode cX5_nextToReset 36 = .ok (.aload_n 0, 1) := by decide +kernel
theorem dX5_nextToReset_37 : decode cX5_nextToReset 37 = .ok (.getfield 31, 3) := by decide +kernel
theorem dX5_nextToReset_40 : decode cX5_nextToReset 40 = .ok (.bipush 8, 2) := by decide +kernel
theorem dX5_nextToReset_42 : decode cX5_nextToReset 42 = .ok (.iload_n 1, 1) := by decide +kernel
theorem dX5_nextToReset_43 : decode cX5_nextToReset 43 = .ok (.imul, 1) := by decide +kernel
theorem dX5_nextToReset_44 : decode cX5_nextToReset 44 = .ok (.iload 4, 2) := by decide +kernel
theorem dX5_nextToReset_46 : decode cX5_nextToReset 46 = .ok (.iadd, 1) := by decide +kernel
theorem dX5_nextToReset_47 : decode cX5_nextToReset 47 = .ok (.iaload, 1) := by decide +kernel
theorem dX5_nextToReset_48 : decode cX5_nextToReset 48 = .ok (.aload_n 0, 1) := by decide +kernel
theorem dX5_nextToReset_49 : decode cX5_nextToReset 49 = .ok (.getfield 7, 3) := by decide +kernel
theorem dX5_nextToReset_52 : decode cX5_nextToReset 52 = .ok (.iload_n 1, 1) := by decide +kernel
theorem dX5_nextToReset_53 : decode cX5_nextToReset 53 = .ok (.iaload, 1) := by decide +kernel
theorem dX5_nextToReset_54 : decode cX5_nextToReset 54 = .ok (.iconst (-1), 1) := by decide +kernel
theorem dX5_nextToReset_55 : decode cX5_nextToReset 55 = .ok (.ixor, 1) := by decide +kernel
theorem dX5_nextToReset_56 : decode cX5_nextToReset 56 = .ok (.iand, 1) := by decide +kernel
theorem dX5_nextToReset_57 : decode cX5_nextToReset 57 = .ok (.istore 5, 2) := by decide +kernel
theorem dX5_nextToReset_59 : decode cX5_nextToReset 59 = .ok (.iconst 1, 1) := by decide +kernel
theorem dX5_nextToReset_60 : decode cX5_nextToReset 60 = .ok (.istore 6, 2) := by decide +kernel
theorem dX5_nextToReset_62 : decode cX5_nextToReset 62 = .ok (.iconst 0, 1) := by decide +kernel
theorem dX5_nextToReset_63 : decode cX5_nextToReset 63 = .ok (.istore 7, 2) := by decide +kernel
theorem dX5_nextToReset_65 : decode cX5_nextToReset 65 = .ok (.iload 7, 2) := by decide +kernel
theorem dX5_nextToReset_67 : decode cX5_nextToReset 67 = .ok (.aload_n 0, 1) := by decide +kernel
theorem dX5_nextToReset_68 : decode cX5_nextToReset 68 = .ok (.getfield 13, 3) := by decide +kernel
theorem dX5_nextToReset_71 : decode cX5_nextToReset 71 = .ok (.iload_n 1, 1) := by decide +kernel
theorem dX5_nextToReset_72 : decode cX5_nextToReset 72 = .ok (.iaload, 1) := by decide +kernel
theorem dX5_nextToReset_73 : decode cX5_nextToReset 73 = .ok (.if_icmp .ge 60, 3) := by decide +kernel
theorem dX5_nextToReset_76 : decode cX5_nextToReset 76 = .ok (.iload 6, 2) := by decide +kernel
theorem dX5_nextToReset_78 : decode cX5_nextToReset 78 = .ok (.ifCond .eq 46, 3) := by decide +kernel
theorem dX5_nextToReset_81 : decode cX5_nextToReset 81 = .ok (.iload 7, 2) := by decide +kernel
theorem dX5_nextToReset_83 : decode cX5_nextToReset 83 = .ok (.iload 4, 2) := by decide +kernel
theorem dX5_nextToReset_85 : decode cX5_nextToReset 85 = .ok (.if_icmp .eq 35, 3) := by decide +kernel
theorem dX5_nextToReset_88 : decode cX5_nextToReset 88 = .ok (.aload_n 0, 1) := by decide +kernel
theorem dX5_nextToReset_89 : decode cX5_nextToReset 89 = .ok (.getfield 19, 3) := by decide +kernel
theorem dX5_nextToReset_92 : decode cX5_nextToReset 92 = .ok (.iload_n 1, 1) := by decide +kernel
theorem dX5_nextToReset_93 : decode cX5_nextToReset 93 = .ok (.iaload, 1) := by decide +kernel
theorem dX5_nextToReset_94 : decode cX5_nextToReset 94 = .ok (.iload 7, 2) := by decide +kernel
theorem dX5_nextToReset_96 : decode cX5_nextToReset 96 = .ok (.ishr, 1) := by decide +kernel
theorem dX5_nextToReset_97 : decode cX5_nextToReset 97 = .ok (.iconst 1, 1) := by decide +kernel
theorem dX5_nextToReset_98 : decode cX5_nextToReset 98 = .ok (.iand, 1) := by decide +kernel
theorem dX5_nextToReset_99 : decode cX5_nextToReset 99 = .ok (.ifCond .eq 21, 3) := by decide +kernel
theorem dX5_nextToReset_102 : decode cX5_nextToReset 102 = .ok (.aload_n 0, 1) := by decide +kernel
theorem dX5_nextToReset_103 : decode cX5_nextToReset 103 = .ok (.getfield 28, 3) := by decide +kernel
theorem dX5_nextToReset_106 : decode cX5_nextToReset 106 = .ok (.bipush 8, 2) := by decide +kernel
theorem dX5_nextToReset_108 : decode cX5_nextToReset 108 = .ok (.iload_n 1, 1) := by decide +kernel
theorem dX5_nextToReset_109 : decode cX5_nextToReset 109 = .ok (.imul, 1) := by decide +kernel
theorem dX5_nextToReset_110 : decode cX5_nextToReset 110 = .ok (.iload 7, 2) := by decide +kernel
theorem dX5_nextToReset_112 : decode cX5_nextToReset 112 = .ok (.iadd, 1) := by decide +kernel
theorem dX5_nextToReset_113 : decode cX5_nextToReset 113 = .ok (.iaload, 1) := by decide +kernel
theorem dX5_nextToReset_114 : decode cX5_nextToReset 114 = .ok (.iload 5, 2) := by decide +kernel
theorem dX5_nextToReset_116 : decode cX5_nextToReset 116 = .ok (.iand, 1) := by decide +kernel
theorem dX5_nextToReset_117 : decode cX5_nextToReset 117 = .ok (.ifCond .ne 7, 3) := by decide +kernel
theorem dX5_nextToReset_120 : decode cX5_nextToReset 120 = .ok (.iconst 1, 1) := by decide +kernel
theorem dX5_nextToReset_121 : decode cX5_nextToReset 121 = .ok (.goto 4, 3) := by decide +kernel
theorem dX5_nextToReset_124 : decode cX5_nextToReset 124 = .ok (.iconst 0, 1) := by decide +kernel
theorem dX5_nextToReset_125 : decode cX5_nextToReset 125 = .ok (.istore 6, 2) := by decide +kernel
theorem dX5_nextToReset_127 : decode cX5_nextToReset 127 = .ok (.iinc 7 1, 3) := by decide +kernel
theorem dX5_nextToReset_130 : decode cX5_nextToReset 130 = .ok (.goto (-65), 3) := by decide +kernel
theorem dX5_nextToReset_133 : decode cX5_nextToReset 133 = .ok (.iload 6, 2) := by decide +kernel
theorem dX5_nextToReset_135 : decode cX5_nextToReset 135 = .ok (.ifCond .eq 8, 3) := by decide +kernel
theorem dX5_nextToReset_138 : decode cX5_nextToReset 138 = .ok (.iload 4, 2) := by decide +kernel
theorem dX5_nextToReset_140 : decode cX5_nextToReset 140 = .ok (.goto 4, 3) := by decide +kernel
theorem dX5_nextToReset_143 : decode cX5_nextToReset 143 = .ok (.iload_n 3, 1) := by decide +kernel
theorem dX5_nextToReset_144 : decode cX5_nextToReset 144 = .ok (.istore_n 3, 1) := by decide +kernel
theorem dX5_nextToReset_145 : decode cX5_nextToReset 145 = .ok (.iinc 4 1, 3) := by decide +kernel
theorem dX5_nextToReset_148 : decode cX5_nextToReset 148 = .ok (.goto (-141), 3) := by decide +kernel
theorem dX5_nextToReset_151 : decode cX5_nextToReset 151 = .ok (.iload_n 3, 1) := by decide +kernel
theorem dX5_nextToReset_152 : decode cX5_nextToReset 152 = .ok (.iconst (-1), 1) := by decide +kernel
theorem dX5_nextToReset_153 : decode cX5_nextToReset 153 = .ok (.if_icmp .ne 7, 3) := by decide +kernel
theorem dX5_nextToReset_156 : decode cX5_nextToReset 156 = .ok (.iload_n 2, 1) := by decide +kernel
theorem dX5_nextToReset_157 : decode cX5_nextToReset 157 = .ok (.goto 4, 3) := by decide +kernel
theorem dX5_nextToReset_160 : decode cX5_nextToReset 160 = .ok (.iload_n 3, 1) := by decide +kernel
theorem dX5_nextToReset_161 : decode cX5_nextToReset 161 = .ok (.ireturn, 1) := by decide +kernel
set_option maxRecDepth 20000 in
theorem ggX5_begins_X5_nextToReset : GoodIn wsX5_begins wsX5_nextToReset := goodIn_r _ [12, 13, 4, 14, 15, 16, 22, 23, 24, 25, 26, 27, 28, 29, 30, 31, 32, 33, 34, 35, 36, 37, 38, 39, 40, 41, 42, 43, 44, 45, 46, 47, 48, 49, 50, 51, 52, 53, 54] (by decide +kernel) (by decide +kernel)
set_option maxRecDepth 20000 in
theorem gX5_begins_X5_nextToReset : GoodIn wsX5_begins (wsV RX5 172 RX5 yX5_nextToReset wsX5_nextToReset) := goodIn_app (goodIn_of _ (by decide +kernel)) ggX5_begins_X5_nextToReset
set_option maxRecDepth 20000 in
theorem ggX5_begins_X5_isDone : GoodIn wsX5_begins wsX5_isDone := goodIn_r _ [20, 21, 1, 5, 22, 23, 24, 25, 26, 27, 28, 29, 30, 31, 32, 33, 34, 35, 36, 37, 38, 39, 40, 41, 42, 43, 44, 45, 46, 47, 48, 49, 50, 51, 52, 53, 54] (by decide +kernel) (by decide +kernel)
set_option maxRecDepth 20000 in
theorem gX5_begins_X5_isDone : GoodIn wsX5_begins (wsV RX5 175 RX5 yX5_isDone wsX5_isDone) := goodIn_app (goodIn_of _ (by decide +kernel)) ggX5_begins_X5_isDone
theorem dX5_begins_0 : decode cX5_begins 0 = .ok (.aload_n 0, 1) := by decide +kernel
theorem dX5_begins_1 : decode cX5_begins 1 = .ok (.getfield 64, 3) := by decide +kernel
theorem dX5_begins_4 : decode cX5_begins 4 = .ok (.iload_n 1, 1) := by decide +kernel
theorem dX5_begins_5 : decode cX5_begins 5 = .ok (.iaload, 1) := by decide +kernel
theorem dX5_begins_6 : decode cX5_begins 6 = .ok (.istore_n 2, 1) := by decide +kernel
theorem dX5_begins_7 : decode cX5_begins 7 = .ok (.aload_n 0, 1) := by decide +kernel
theorem dX5_begins_8 : decode cX5_begins 8 = .ok (.iload_n 2, 1) := by decide +kernel
theorem dX5_begins_9 : decode cX5_begins 9 = .ok (.invokevirtual 172, 3) := by decide +kernel
theorem dX5_begins_12 : decode cX5_begins 12 = .ok (.istore_n 3, 1) := by decide +kernel
theorem dX5_begins_13 : decode cX5_begins 13 = .ok (.iload_n 3, 1) := by decide +kernel
theorem dX5_begins_14 : decode cX5_begins 14 = .ok (.iconst (-1), 1) := by decide +kernel
theorem dX5_begins_15 : decode cX5_begins 15 = .ok (.if_icmp .ne 46, 3) := by decide +kernel
theorem dX5_begins_18 : decode cX5_begins 18 = .ok (.aload_n 0, 1) := by decide +kernel
theorem dX5_begins_19 : decode cX5_begins 19 = .ok (.getfield 73, 3) := by decide +kernel
theorem dX5_begins_22 : decode cX5_begins 22 = .ok (.iload_n 1, 1) := by decide +kernel
theorem dX5_begins_23 : decode cX5_begins 23 = .ok (.baload, 1) := by decide +kernel
theorem dX5_begins_24 : decode cX5_begins 24 = .ok (.ifCond .eq 37, 3) := by decide +kernel
theorem dX5_begins_27 : decode cX5_begins 27 = .ok (.aload_n 0, 1) := by decide +kernel
theorem dX5_begins_28 : decode cX5_begins 28 = .ok (.getfield 22, 3) := by decide +kernel
theorem dX5_begins_31 : decode cX5_begins 31 = .ok (.iload_n 2, 1) := by decide +kernel
theorem dX5_begins_32 : decode cX5_begins 32 = .ok (.iaload, 1) := by decide +kernel
theorem dX5_begins_33 : decode cX5_begins 33 = .ok (.ifCond .eq 28, 3) := by decide +kernel
theorem dX5_begins_36 : decode cX5_begins 36 = .ok (.aload_n 0, 1) := by decide +kernel
theorem dX5_begins_37 : decode cX5_begins 37 = .ok (.getfield 19, 3) := by decide +kernel
theorem dX5_begins_40 : decode cX5_begins 40 = .ok (.iload_n 2, 1) := by decide +kernel
theorem dX5_begins_41 : decode cX5_begins 41 = .ok (.aload_n 0, 1) := by decide +kernel
theorem dX5_begins_42 : decode cX5_begins 42 = .ok (.getfield 22, 3) := by decide +kernel
theorem dX5_begins_45 : decode cX5_begins 45 = .ok (.iload_n 2, 1) := by decide +kernel
theorem dX5_begins_46 : decode cX5_begins 46 = .ok (.iaload, 1) := by decide +kernel
theorem dX5_begins_47 : decode cX5_begins 47 = .ok (.iastore, 1) := by decide +kernel
theorem dX5_begins_48 : decode cX5_begins 48 = .ok (.aload_n 0, 1) := by decide +kernel
theorem dX5_begins_49 : decode cX5_begins 49 = .ok (.getfield 22, 3) := by decide +kernel
theorem dX5_begins_52 : decode cX5_begins 52 = .ok (.iload_n 2, 1) := by decide +kernel
theorem dX5_begins_53 : decode cX5_begins 53 = .ok (.iconst 0, 1) := by decide +kernel
theorem dX5_begins_54 : decode cX5_begins 54 = .ok (.iastore, 1) := by decide +kernel
theorem dX5_begins_55 : decode cX5_begins 55 = .ok (.aload_n 0, 1) := by decide +kernel
theorem dX5_begins_56 : decode cX5_begins 56 = .ok (.iload_n 2, 1) := by decide +kernel
theorem dX5_begins_57 : decode cX5_begins 57 = .ok (.invokevirtual 172, 3) := by decide +kernel
theorem dX5_begins_60 : decode cX5_begins 60 = .ok (.istore_n 3, 1) := by decide +kernel
theorem dX5_begins_61 : decode cX5_begins 61 = .ok (.aload_n 0, 1) := by decide +kernel
theorem dX5_begins_62 : decode cX5_begins 62 = .ok (.getfield 67, 3) := by decide +kernel
theorem dX5_begins_65 : decode cX5_begins 65 = .ok (.iload_n 1, 1) := by decide +kernel
theorem dX5_begins_66 : decode cX5_begins 66 = .ok (.iload_n 3, 1) := by decide +kernel
theorem dX5_begins_67 : decode cX5_begins 67 = .ok (.iastore, 1) := by decide +kernel
theorem dX5_begins_68 : decode cX5_begins 68 = .ok (.iload_n 3, 1) := by decide +kernel
theorem dX5_begins_69 : decode cX5_begins 69 = .ok (.iconst (-1), 1) := by decide +kernel
theorem dX5_begins_70 : decode cX5_begins 70 = .ok (.if_icmp .eq 23, 3) := by decide +kernel
theorem dX5_begins_73 : decode cX5_begins 73 = .ok (.aload_n 0, 1) := by decide +kernel
theorem dX5_begins_74 : decode cX5_begins 74 = .ok (.getfield 70, 3) := by decide +kernel
theorem dX5_begins_77 : decode cX5_begins 77 = .ok (.iload_n 1, 1) := by decide +kernel
theorem dX5_begins_78 : decode cX5_begins 78 = .ok (.aload_n 0, 1) := by decide +kernel
theorem dX5_begins_79 : decode cX5_begins 79 = .ok (.getfield 37, 3) := by decide +kernel
theorem dX5_begins_82 : decode cX5_begins 82 = .ok (.bipush 8, 2) := by decide +kernel
theorem dX5_begins_84 : decode cX5_begins 84 = .ok (.iload_n 2, 1) := by decide +kernel
theorem dX5_begins_85 : decode cX5_begins 85 = .ok (.imul, 1) := by decide +kernel
theorem dX5_begins_86 : decode cX5_begins 86 = .ok (.iload_n 3, 1) := by decide +kernel
theorem dX5_begins_87 : decode cX5_begins 87 = .ok (.iadd, 1) := by decide +kernel
theorem dX5_begins_88 : decode cX5_begins 88 = .ok (.iaload, 1) := by decide +kernel
theorem dX5_begins_89 : decode cX5_begins 89 = .ok (.iastore, 1) := by decide +kernel
theorem dX5_begins_90 : decode cX5_begins 90 = .ok (.goto 27, 3) := by decide +kernel
theorem dX5_begins_93 : decode cX5_begins 93 = .ok (.aload_n 0, 1) := by decide +kernel
theorem dX5_begins_94 : decode cX5_begins 94 = .ok (.getfield 73, 3) := by decide +kernel
theorem dX5_begins_97 : decode cX5_begins 97 = .ok (.iload_n 1, 1) := by decide +kernel
theorem dX5_begins_98 : decode cX5_begins 98 = .ok (.baload, 1) := by decide +kernel
theorem dX5_begins_99 : decode cX5_begins 99 = .ok (.ifCond .eq 13, 3) := by decide +kernel
theorem dX5_begins_102 : decode cX5_begins 102 = .ok (.aload_n 0, 1) := by decide +kernel
theorem dX5_begins_103 : decode cX5_begins 103 = .ok (.getfield 70, 3) := by decide +kernel
theorem dX5_begins_106 : decode cX5_begins 106 = .ok (.iload_n 1, 1) := by decide +kernel
theorem dX5_begins_107 : decode cX5_begins 107 = .ok (.iconst 5, 1) := by decide +kernel
theorem dX5_begins_108 : decode cX5_begins 108 = .ok (.iastore, 1) := by decide +kernel
theorem dX5_begins_109 : decode cX5_begins 109 = .ok (.goto 8, 3) := by decide +kernel
theorem dX5_begins_112 : decode cX5_begins 112 = .ok (.aload_n 0, 1) := by decide +kernel
theorem dX5_begins_113 : decode cX5_begins 113 = .ok (.iload_n 1, 1) := by decide +kernel
theorem dX5_begins_114 : decode cX5_begins 114 = .ok (.invokevirtual 175, 3) := by decide +kernel
theorem dX5_begins_117 : decode cX5_begins 117 = .ok (.return_, 1) := by decide +kernel
theorem dX5_isDone_0 : decode cX5_isDone 0 = .ok (.aload_n 0, 1) := by decide +kernel
theorem dX5_isDone_1 : decode cX5_isDone 1 = .ok (.getfield 16, 3) := by decide +kernel
theorem dX5_isDone_4 : decode cX5_isDone 4 = .ok (.aload_n 0, 1) := by decide +kernel
theorem dX5_isDone_5 : decode cX5_isDone 5 = .ok (.getfield 64, 3) := by decide +kernel
theorem dX5_isDone_8 : decode cX5_isDone 8 = .ok (.iload_n 1, 1) := by decide +kernel
theorem dX5_isDone_9 : decode cX5_isDone 9 = .ok (.iaload, 1) := by decide +kernel
theorem dX5_isDone_10 : decode cX5_isDone 10 = .ok (.iconst 0, 1) := by decide +kernel
theorem dX5_isDone_11 : decode cX5_isDone 11 = .ok (.iastore, 1) := by decide +kernel
theorem dX5_isDone_12 : decode cX5_isDone 12 = .ok (.aload_n 0, 1) := by decide +kernel
theorem dX5_isDone_13 : decode cX5_isDone 13 = .ok (.getfield 64, 3) := by decide +kernel
theorem dX5_isDone_16 : decode cX5_isDone 16 = .ok (.iload_n 1, 1) := by decide +kernel
theorem dX5_isDone_17 : decode cX5_isDone 17 = .ok (.iconst (-1), 1) := by decide +kernel
theorem dX5_isDone_18 : decode cX5_isDone 18 = .ok (.iastore, 1) := by decide +kernel
theorem dX5_isDone_19 : decode cX5_isDone 19 = .ok (.aload_n 0, 1) := by decide +kernel
theorem dX5_isDone_20 : decode cX5_isDone 20 = .ok (.getfield 67, 3) := by decide +kernel
theorem dX5_isDone_23 : decode cX5_isDone 23 = .ok (.iload_n 1, 1) := by decide +kernel
theorem dX5_isDone_24 : decode cX5_isDone 24 = .ok (.iconst (-1), 1) := by decide +kernel
theorem dX5_isDone_25 : decode cX5_isDone 25 = .ok (.iastore, 1) := by decide +kernel
theorem dX5_isDone_26 : decode cX5_isDone 26 = .ok (.return_, 1) := by decide +kernel
set_option maxRecDepth 20000 in
theorem ggX5_reset_X5_isRoom : GoodIn wsX5_reset wsX5_isRoom := goodIn_r _ [9, 10, 11, 12, 8, 13, 42, 43, 44, 45, 46, 47, 48, 49, 50, 51, 52, 53, 54, 55, 56, 57, 58, 59, 60, 61, 62, 63, 64, 65, 66, 67, 68, 69, 70, 71, 72, 73, 74] (by decide +kernel) (by decide +kernel)
set_option maxRecDepth 20000 in
theorem gX5_reset_X5_isRoom : GoodIn wsX5_reset (wsV RX5 123 RX5 yX5_isRoom wsX5_isRoom) := goodIn_app (goodIn_of _ (by decide +kernel)) ggX5_reset_X5_isRoom
set_option maxRecDepth 20000 in
theorem ggX5_reset_X5_isCrew : GoodIn wsX5_reset wsX5_isCrew := goodIn_r _ [16, 11, 12, 8, 13] (by decide +kernel) (by decide +kernel)
set_option maxRecDepth 20000 in
theorem gX5_reset_X5_isCrew : GoodIn wsX5_reset (va_wsS RX5 179 yX5_isCrew wsX5_isCrew) := goodIn_app (goodIn_of _ (by decide +kernel)) ggX5_reset_X5_isCrew
set_option maxRecDepth 20000 in
theorem ggX5_reset_X5_refused : GoodIn wsX5_reset wsX5_refused := goodIn_r _ [20, 21, 42, 43, 44, 45, 46, 47, 48, 49, 50, 51, 52, 53, 54, 55, 56, 57, 58, 59, 60, 61, 62, 63, 64, 65, 66, 67, 68, 69, 70, 71, 72, 73, 74] (by decide +kernel) (by decide +kernel)
set_option maxRecDepth 20000 in
theorem gX5_reset_X5_refused : GoodIn wsX5_reset (wsV RX5 120 RX5 yX5_refused wsX5_refused) := goodIn_app (goodIn_of _ (by decide +kernel)) ggX5_reset_X5_refused
set_option maxRecDepth 20000 in
theorem ggX5_reset_X5_begins : GoodIn wsX5_reset wsX5_begins := goodIn_r _ [25, 2, 4, 3, 26, 27, 28, 29, 30, 31, 32, 8, 33, 34, 35, 36, 37, 38, 39, 40, 41, 1, 42, 43, 44, 45, 46, 47, 48, 49, 50, 51, 52, 53, 54, 55, 56, 57, 58, 59, 60, 61, 62, 63, 64, 65, 66, 67, 68, 69, 70, 71, 72, 73, 74] (by decide +kernel) (by decide +kernel)
set_option maxRecDepth 20000 in
theorem gX5_reset_X5_begins : GoodIn wsX5_reset (wsV RX5 182 RX5 yX5_begins wsX5_begins) := goodIn_app (goodIn_of _ (by decide +kernel)) ggX5_reset_X5_begins
theorem dX5_reset_0 : decode cX5_reset 0 = .ok (.aload_n 0, 1) := by decide +kernel
theorem dX5_reset_1 : decode cX5_reset 1 = .ok (.iload_n 1, 1) := by decide +kernel
theorem dX5_reset_2 : decode cX5_reset 2 = .ok (.invokevirtual 123, 3) := by decide +kernel
theorem dX5_reset_5 : decode cX5_reset 5 = .ok (.ifCond .eq 14, 3) := by decide +kernel
theorem dX5_reset_8 : decode cX5_reset 8 = .ok (.iload_n 2, 1) := by decide +kernel
theorem dX5_reset_9 : decode cX5_reset 9 = .ok (.invokestatic 179, 3) := by decide +kernel
theorem dX5_reset_12 : decode cX5_reset 12 = .ok (.ifCond .eq 7, 3) := by decide +kernel
theorem dX5_reset_15 : decode cX5_reset 15 = .ok (.iconst 1, 1) := by decide +kernel
theorem dX5_reset_16 : decode cX5_reset 16 = .ok (.goto 4, 3) := by decide +kernel
theorem dX5_reset_19 : decode cX5_reset 19 = .ok (.iconst 0, 1) := by decide +kernel
theorem dX5_reset_20 : decode cX5_reset 20 = .ok (.istore 4, 2) := by decide +kernel
theorem dX5_reset_22 : decode cX5_reset 22 = .ok (.aload_n 0, 1) := by decide +kernel
theorem dX5_reset_23 : decode cX5_reset 23 = .ok (.iload 4, 2) := by decide +kernel
theorem dX5_reset_25 : decode cX5_reset 25 = .ok (.ifCond .ne 7, 3) := by decide +kernel
theorem dX5_reset_28 : decode cX5_reset 28 = .ok (.iconst 1, 1) := by decide +kernel
theorem dX5_reset_29 : decode cX5_reset 29 = .ok (.goto 28, 3) := by decide +kernel
theorem dX5_reset_32 : decode cX5_reset 32 = .ok (.aload_n 0, 1) := by decide +kernel
theorem dX5_reset_33 : decode cX5_reset 33 = .ok (.getfield 16, 3) := by decide +kernel
theorem dX5_reset_36 : decode cX5_reset 36 = .ok (.iload_n 1, 1) := by decide +kernel
theorem dX5_reset_37 : decode cX5_reset 37 = .ok (.iaload, 1) := by decide +kernel
theorem dX5_reset_38 : decode cX5_reset 38 = .ok (.iconst 2, 1) := by decide +kernel
theorem dX5_reset_39 : decode cX5_reset 39 = .ok (.if_icmp .ne 13, 3) := by decide +kernel
theorem dX5_reset_42 : decode cX5_reset 42 = .ok (.aload_n 0, 1) := by decide +kernel
theorem dX5_reset_43 : decode cX5_reset 43 = .ok (.getfield 64, 3) := by decide +kernel
theorem dX5_reset_46 : decode cX5_reset 46 = .ok (.iload_n 2, 1) := by decide +kernel
theorem dX5_reset_47 : decode cX5_reset 47 = .ok (.iaload, 1) := by decide +kernel
theorem dX5_reset_48 : decode cX5_reset 48 = .ok (.iconst (-1), 1) := by decide +kernel
theorem dX5_reset_49 : decode cX5_reset 49 = .ok (.if_icmp .eq 7, 3) := by decide +kernel
theorem dX5_reset_52 : decode cX5_reset 52 = .ok (.iconst 2, 1) := by decide +kernel
theorem dX5_reset_53 : decode cX5_reset 53 = .ok (.goto 4, 3) := by decide +kernel
theorem dX5_reset_56 : decode cX5_reset 56 = .ok (.iconst 0, 1) := by decide +kernel
theorem dX5_reset_57 : decode cX5_reset 57 = .ok (.invokevirtual 120, 3) := by decide +kernel
theorem dX5_reset_60 : decode cX5_reset 60 = .ok (.ifCond .eq 4, 3) := by decide +kernel
theorem dX5_reset_63 : decode cX5_reset 63 = .ok (.return_, 1) := by decide +kernel
theorem dX5_reset_64 : decode cX5_reset 64 = .ok (.aload_n 0, 1) := by decide +kernel
theorem dX5_reset_65 : decode cX5_reset 65 = .ok (.getfield 16, 3) := by decide +kernel
theorem dX5_reset_68 : decode cX5_reset 68 = .ok (.iload_n 1, 1) := by decide +kernel
theorem dX5_reset_69 : decode cX5_reset 69 = .ok (.iconst 3, 1) := by decide +kernel
theorem dX5_reset_70 : decode cX5_reset 70 = .ok (.iastore, 1) := by decide +kernel
theorem dX5_reset_71 : decode cX5_reset 71 = .ok (.aload_n 0, 1) := by decide +kernel
theorem dX5_reset_72 : decode cX5_reset 72 = .ok (.getfield 22, 3) := by decide +kernel
theorem dX5_reset_75 : decode cX5_reset 75 = .ok (.iload_n 1, 1) := by decide +kernel
theorem dX5_reset_76 : decode cX5_reset 76 = .ok (.iconst 0, 1) := by decide +kernel
theorem dX5_reset_77 : decode cX5_reset 77 = .ok (.iastore, 1) := by decide +kernel
theorem dX5_reset_78 : decode cX5_reset 78 = .ok (.aload_n 0, 1) := by decide +kernel
theorem dX5_reset_79 : decode cX5_reset 79 = .ok (.getfield 64, 3) := by decide +kernel
theorem dX5_reset_82 : decode cX5_reset 82 = .ok (.iload_n 2, 1) := by decide +kernel
theorem dX5_reset_83 : decode cX5_reset 83 = .ok (.iload_n 1, 1) := by decide +kernel
theorem dX5_reset_84 : decode cX5_reset 84 = .ok (.iastore, 1) := by decide +kernel
theorem dX5_reset_85 : decode cX5_reset 85 = .ok (.aload_n 0, 1) := by decide +kernel
theorem dX5_reset_86 : decode cX5_reset 86 = .ok (.getfield 73, 3) := by decide +kernel
theorem dX5_reset_89 : decode cX5_reset 89 = .ok (.iload_n 2, 1) := by decide +kernel
theorem dX5_reset_90 : decode cX5_reset 90 = .ok (.iload_n 3, 1) := by decide +kernel
theorem dX5_reset_91 : decode cX5_reset 91 = .ok (.bastore, 1) := by decide +kernel
theorem dX5_reset_92 : decode cX5_reset 92 = .ok (.aload_n 0, 1) := by decide +kernel
theorem dX5_reset_93 : decode cX5_reset 93 = .ok (.iload_n 2, 1) := by decide +kernel
theorem dX5_reset_94 : decode cX5_reset 94 = .ok (.invokevirtual 182, 3) := by decide +kernel
theorem dX5_reset_97 : decode cX5_reset 97 = .ok (.return_, 1) := by decide +kernel
set_option maxRecDepth 20000 in
theorem ggX5_forget_X5_isCrew : GoodIn wsX5_forget wsX5_isCrew := goodIn_r _ [8, 9, 10, 7, 11] (by decide +kernel) (by decide +kernel)
set_option maxRecDepth 20000 in
theorem gX5_forget_X5_isCrew : GoodIn wsX5_forget (va_wsS RX5 179 yX5_isCrew wsX5_isCrew) := goodIn_app (goodIn_of _ (by decide +kernel)) ggX5_forget_X5_isCrew
set_option maxRecDepth 20000 in
theorem ggX5_forget_X5_refused : GoodIn wsX5_forget wsX5_refused := goodIn_r _ [15, 16, 37, 38, 39, 40, 41, 42, 43, 44, 45, 46, 47, 48, 49, 50, 51, 52, 53, 54, 55, 56, 57, 58, 59, 60, 61, 62, 63, 64, 65, 66, 67, 68, 69] (by decide +kernel) (by decide +kernel)
set_option maxRecDepth 20000 in
theorem gX5_forget_X5_refused : GoodIn wsX5_forget (wsV RX5 120 RX5 yX5_refused wsX5_refused) := goodIn_app (goodIn_of _ (by decide +kernel)) ggX5_forget_X5_refused
set_option maxRecDepth 20000 in
theorem ggX5_forget_X5_begins : GoodIn wsX5_forget wsX5_begins := goodIn_r _ [20, 2, 21, 4, 3, 1, 22, 23, 24, 25, 26, 7, 27, 28, 29, 30, 31, 32, 33, 34, 35, 36, 37, 38, 39, 40, 41, 42, 43, 44, 45, 46, 47, 48, 49, 50, 51, 52, 53, 54, 55, 56, 57, 58, 59, 60, 61, 62, 63, 64, 65, 66, 67, 68, 69] (by decide +kernel) (by decide +kernel)
set_option maxRecDepth 20000 in
theorem gX5_forget_X5_begins : GoodIn wsX5_forget (wsV RX5 182 RX5 yX5_begins wsX5_begins) := goodIn_app (goodIn_of _ (by decide +kernel)) ggX5_forget_X5_begins
theorem dX5_forget_0 : decode cX5_forget 0 = .ok (.iload_n 1, 1) := by decide +kernel
theorem dX5_forget_1 : decode cX5_forget 1 = .ok (.invokestatic 179, 3) := by decide +kernel
theorem dX5_forget_4 : decode cX5_forget 4 = .ok (.istore_n 2, 1) := by decide +kernel
theorem dX5_forget_5 : decode cX5_forget 5 = .ok (.aload_n 0, 1) := by decide +kernel
theorem dX5_forget_6 : decode cX5_forget 6 = .ok (.iload_n 2, 1) := by decide +kernel
theorem dX5_forget_7 : decode cX5_forget 7 = .ok (.ifCond .ne 7, 3) := by decide +kernel
theorem dX5_forget_10 : decode cX5_forget 10 = .ok (.iconst 1, 1) := by decide +kernel
theorem dX5_forget_11 : decode cX5_forget 11 = .ok (.goto 18, 3) := by decide +kernel
theorem dX5_forget_14 : decode cX5_forget 14 = .ok (.aload_n 0, 1) := by decide +kernel
theorem dX5_forget_15 : decode cX5_forget 15 = .ok (.getfield 67, 3) := by decide +kernel
theorem dX5_forget_18 : decode cX5_forget 18 = .ok (.iload_n 1, 1) := by decide +kernel
theorem dX5_forget_19 : decode cX5_forget 19 = .ok (.iaload, 1) := by decide +kernel
theorem dX5_forget_20 : decode cX5_forget 20 = .ok (.iconst (-1), 1) := by decide +kernel
theorem dX5_forget_21 : decode cX5_forget 21 = .ok (.if_icmp .ne 7, 3) := by decide +kernel
theorem dX5_forget_24 : decode cX5_forget 24 = .ok (.iconst 2, 1) := by decide +kernel
theorem dX5_forget_25 : decode cX5_forget 25 = .ok (.goto 4, 3) := by decide +kernel
theorem dX5_forget_28 : decode cX5_forget 28 = .ok (.iconst 0, 1) := by decide +kernel
theorem dX5_forget_29 : decode cX5_forget 29 = .ok (.invokevirtual 120, 3) := by decide +kernel
theorem dX5_forget_32 : decode cX5_forget 32 = .ok (.ifCond .eq 5, 3) := by decide +kernel
theorem dX5_forget_35 : decode cX5_forget 35 = .ok (.iconst 0, 1) := by decide +kernel
theorem dX5_forget_36 : decode cX5_forget 36 = .ok (.ireturn, 1) := by decide +kernel
theorem dX5_forget_37 : decode cX5_forget 37 = .ok (.aload_n 0, 1) := by decide +kernel
theorem dX5_forget_38 : decode cX5_forget 38 = .ok (.getfield 67, 3) := by decide +kernel
theorem dX5_forget_41 : decode cX5_forget 41 = .ok (.iload_n 1, 1) := by decide +kernel
theorem dX5_forget_42 : decode cX5_forget 42 = .ok (.iaload, 1) := by decide +kernel
theorem dX5_forget_43 : decode cX5_forget 43 = .ok (.istore_n 3, 1) := by decide +kernel
theorem dX5_forget_44 : decode cX5_forget 44 = .ok (.aload_n 0, 1) := by decide +kernel
theorem dX5_forget_45 : decode cX5_forget 45 = .ok (.getfield 64, 3) := by decide +kernel
theorem dX5_forget_48 : decode cX5_forget 48 = .ok (.iload_n 1, 1) := by decide +kernel
theorem dX5_forget_49 : decode cX5_forget 49 = .ok (.iaload, 1) := by decide +kernel
theorem dX5_forget_50 : decode cX5_forget 50 = .ok (.istore 4, 2) := by decide +kernel
theorem dX5_forget_52 : decode cX5_forget 52 = .ok (.aload_n 0, 1) := by decide +kernel
theorem dX5_forget_53 : decode cX5_forget 53 = .ok (.getfield 19, 3) := by decide +kernel
theorem dX5_forget_56 : decode cX5_forget 56 = .ok (.iload 4, 2) := by decide +kernel
theorem dX5_forget_58 : decode cX5_forget 58 = .ok (.dup2, 1) := by decide +kernel
theorem dX5_forget_59 : decode cX5_forget 59 = .ok (.iaload, 1) := by decide +kernel
theorem dX5_forget_60 : decode cX5_forget 60 = .ok (.iconst 1, 1) := by decide +kernel
theorem dX5_forget_61 : decode cX5_forget 61 = .ok (.iload_n 3, 1) := by decide +kernel
theorem dX5_forget_62 : decode cX5_forget 62 = .ok (.ishl, 1) := by decide +kernel
theorem dX5_forget_63 : decode cX5_forget 63 = .ok (.iconst (-1), 1) := by decide +kernel
theorem dX5_forget_64 : decode cX5_forget 64 = .ok (.ixor, 1) := by decide +kernel
theorem dX5_forget_65 : decode cX5_forget 65 = .ok (.iand, 1) := by decide +kernel
theorem dX5_forget_66 : decode cX5_forget 66 = .ok (.iastore, 1) := by decide +kernel
theorem dX5_forget_67 : decode cX5_forget 67 = .ok (.aload_n 0, 1) := by decide +kernel
theorem dX5_forget_68 : decode cX5_forget 68 = .ok (.getfield 22, 3) := by decide +kernel
theorem dX5_forget_71 : decode cX5_forget 71 = .ok (.iload 4, 2) := by decide +kernel
theorem dX5_forget_73 : decode cX5_forget 73 = .ok (.dup2, 1) := by decide +kernel
theorem dX5_forget_74 : decode cX5_forget 74 = .ok (.iaload, 1) := by decide +kernel
theorem dX5_forget_75 : decode cX5_forget 75 = .ok (.iconst 1, 1) := by decide +kernel
theorem dX5_forget_76 : decode cX5_forget 76 = .ok (.iload_n 3, 1) := by decide +kernel
theorem dX5_forget_77 : decode cX5_forget 77 = .ok (.ishl, 1) := by decide +kernel
theorem dX5_forget_78 : decode cX5_forget 78 = .ok (.ior, 1) := by decide +kernel
theorem dX5_forget_79 : decode cX5_forget 79 = .ok (.iastore, 1) := by decide +kernel
theorem dX5_forget_80 : decode cX5_forget 80 = .ok (.aload_n 0, 1) := by decide +kernel
theorem dX5_forget_81 : decode cX5_forget 81 = .ok (.iload_n 1, 1) := by decide +kernel
theorem dX5_forget_82 : decode cX5_forget 82 = .ok (.invokevirtual 182, 3) := by decide +kernel
theorem dX5_forget_85 : decode cX5_forget 85 = .ok (.iload_n 3, 1) := by decide +kernel
theorem dX5_forget_86 : decode cX5_forget 86 = .ok (.ireturn, 1) := by decide +kernel
set_option maxRecDepth 20000 in
theorem ggX5_canBook_X5_gapOf : GoodIn wsX5_canBook wsX5_gapOf := goodIn_r _ [9, 10, 11, 12, 13, 14, 15, 16, 17, 18, 19, 20, 21, 22, 23, 24, 25, 26, 27, 28, 29, 30, 31, 32, 33, 34, 35, 36, 37, 38, 39, 40, 41, 42, 43, 44] (by decide +kernel) (by decide +kernel)
set_option maxRecDepth 20000 in
theorem gX5_canBook_X5_gapOf : GoodIn wsX5_canBook (wsV RX5 144 RX5 yX5_gapOf wsX5_gapOf) := goodIn_app (goodIn_of _ (by decide +kernel)) ggX5_canBook_X5_gapOf
theorem dX5_canBook_0 : decode cX5_canBook 0 = .ok (.bipush 60, 2) := by decide +kernel
theorem dX5_canBook_2 : decode cX5_canBook 2 = .ok (.aload_n 0, 1) := by decide +kernel
theorem dX5_canBook_3 : decode cX5_canBook 3 = .ok (.iload_n 1, 1) := by decide +kernel
theorem dX5_canBook_4 : decode cX5_canBook 4 = .ok (.invokevirtual 144, 3) := by decide +kernel
theorem dX5_canBook_7 : decode cX5_canBook 7 = .ok (.iadd, 1) := by decide +kernel
theorem dX5_canBook_8 : decode cX5_canBook 8 = .ok (.istore_n 3, 1) := by decide +kernel
theorem dX5_canBook_9 : decode cX5_canBook 9 = .ok (.iconst 1, 1) := by decide +kernel
theorem dX5_canBook_10 : decode cX5_canBook 10 = .ok (.istore 4, 2) := by decide +kernel
theorem dX5_canBook_12 : decode cX5_canBook 12 = .ok (.iconst 0, 1) := by decide +kernel
theorem dX5_canBook_13 : decode cX5_canBook 13 = .ok (.istore 5, 2) := by decide +kernel
theorem dX5_canBook_15 : decode cX5_canBook 15 = .ok (.iload 5, 2) := by decide +kernel
theorem dX5_canBook_17 : decode cX5_canBook 17 = .ok (.aload_n 0, 1) := by decide +kernel
theorem dX5_canBook_18 : decode cX5_canBook 18 = .ok (.getfield 106, 3) := by decide +kernel
theorem dX5_canBook_21 : decode cX5_canBook 21 = .ok (.if_icmp .ge 83, 3) := by decide +kernel
theorem dX5_canBook_24 : decode cX5_canBook 24 = .ok (.aload_n 0, 1) := by decide +kernel
theorem dX5_canBook_25 : decode cX5_canBook 25 = .ok (.getfield 80, 3) := by decide +kernel
theorem dX5_canBook_28 : decode cX5_canBook 28 = .ok (.iload 5, 2) := by decide +kernel
theorem dX5_canBook_30 : decode cX5_canBook 30 = .ok (.iaload, 1) := by decide +kernel
theorem dX5_canBook_31 : decode cX5_canBook 31 = .ok (.iload_n 2, 1) := by decide +kernel
theorem dX5_canBook_32 : decode cX5_canBook 32 = .ok (.if_icmp .le 15, 3) := by decide +kernel
theorem dX5_canBook_35 : decode cX5_canBook 35 = .ok (.aload_n 0, 1) := by decide +kernel
theorem dX5_canBook_36 : decode cX5_canBook 36 = .ok (.getfield 80, 3) := by decide +kernel
theorem dX5_canBook_39 : decode cX5_canBook 39 = .ok (.iload 5, 2) := by decide +kernel
theorem dX5_canBook_41 : decode cX5_canBook 41 = .ok (.iaload, 1) := by decide +kernel
theorem dX5_canBook_42 : decode cX5_canBook 42 = .ok (.iload_n 2, 1) := by decide +kernel
theorem dX5_canBook_43 : decode cX5_canBook 43 = .ok (.isub, 1) := by decide +kernel
theorem dX5_canBook_44 : decode cX5_canBook 44 = .ok (.goto 12, 3) := by decide +kernel
theorem dX5_canBook_47 : decode cX5_canBook 47 = .ok (.iload_n 2, 1) := by decide +kernel
theorem dX5_canBook_48 : decode cX5_canBook 48 = .ok (.aload_n 0, 1) := by decide +kernel
theorem dX5_canBook_49 : decode cX5_canBook 49 = .ok (.getfield 80, 3) := by decide +kernel
theorem dX5_canBook_52 : decode cX5_canBook 52 = .ok (.iload 5, 2) := by decide +kernel
theorem dX5_canBook_54 : decode cX5_canBook 54 = .ok (.iaload, 1) := by decide +kernel
theorem dX5_canBook_55 : decode cX5_canBook 55 = .ok (.isub, 1) := by decide +kernel
theorem dX5_canBook_56 : decode cX5_canBook 56 = .ok (.istore 6, 2) := by decide +kernel
theorem dX5_canBook_58 : decode cX5_canBook 58 = .ok (.iload 4, 2) := by decide +kernel
theorem dX5_canBook_60 : decode cX5_canBook 60 = .ok (.ifCond .eq 35, 3) := by decide +kernel
theorem dX5_canBook_63 : decode cX5_canBook 63 = .ok (.aload_n 0, 1) := by decide +kernel
theorem dX5_canBook_64 : decode cX5_canBook 64 = .ok (.getfield 77, 3) := by decide +kernel
theorem dX5_canBook_67 : decode cX5_canBook 67 = .ok (.iload 5, 2) := by decide +kernel
theorem dX5_canBook_69 : decode cX5_canBook 69 = .ok (.iaload, 1) := by decide +kernel
theorem dX5_canBook_70 : decode cX5_canBook 70 = .ok (.iload_n 1, 1) := by decide +kernel
theorem dX5_canBook_71 : decode cX5_canBook 71 = .ok (.if_icmp .ne 20, 3) := by decide +kernel
theorem dX5_canBook_74 : decode cX5_canBook 74 = .ok (.aload_n 0, 1) := by decide +kernel
theorem dX5_canBook_75 : decode cX5_canBook 75 = .ok (.getfield 83, 3) := by decide +kernel
theorem dX5_canBook_78 : decode cX5_canBook 78 = .ok (.iload 5, 2) := by decide +kernel
theorem dX5_canBook_80 : decode cX5_canBook 80 = .ok (.iaload, 1) := by decide +kernel
theorem dX5_canBook_81 : decode cX5_canBook 81 = .ok (.iconst 2, 1) := by decide +kernel
theorem dX5_canBook_82 : decode cX5_canBook 82 = .ok (.if_icmp .eq 9, 3) := by decide +kernel
theorem dX5_canBook_85 : decode cX5_canBook 85 = .ok (.iload 6, 2) := by decide +kernel
theorem dX5_canBook_87 : decode cX5_canBook 87 = .ok (.iload_n 3, 1) := by decide +kernel
theorem dX5_canBook_88 : decode cX5_canBook 88 = .ok (.if_icmp .lt 7, 3) := by decide +kernel
theorem dX5_canBook_91 : decode cX5_canBook 91 = .ok (.iconst 1, 1) := by decide +kernel
theorem dX5_canBook_92 : decode cX5_canBook 92 = .ok (.goto 4, 3) := by decide +kernel
theorem dX5_canBook_95 : decode cX5_canBook 95 = .ok (.iconst 0, 1) := by decide +kernel
theorem dX5_canBook_96 : decode cX5_canBook 96 = .ok (.istore 4, 2) := by decide +kernel
theorem dX5_canBook_98 : decode cX5_canBook 98 = .ok (.iinc 5 1, 3) := by decide +kernel
theorem dX5_canBook_101 : decode cX5_canBook 101 = .ok (.goto (-86), 3) := by decide +kernel
theorem dX5_canBook_104 : decode cX5_canBook 104 = .ok (.iload 4, 2) := by decide +kernel
theorem dX5_canBook_106 : decode cX5_canBook 106 = .ok (.ireturn, 1) := by decide +kernel
set_option maxRecDepth 20000 in
theorem ggX5_book_X5_isRoom : GoodIn wsX5_book wsX5_isRoom := goodIn_r _ [11, 12, 13, 14, 10, 15, 31, 32, 33, 34, 35, 36, 37, 38, 39, 40, 41, 42, 43, 44, 45, 46, 47, 48, 49, 50, 51, 52, 53, 54, 55, 56, 57, 58, 59, 60, 61, 62, 63] (by decide +kernel) (by decide +kernel)
set_option maxRecDepth 20000 in
theorem gX5_book_X5_isRoom : GoodIn wsX5_book (wsV RX5 123 RX5 yX5_isRoom wsX5_isRoom) := goodIn_app (goodIn_of _ (by decide +kernel)) ggX5_book_X5_isRoom
set_option maxRecDepth 20000 in
theorem ggX5_book_X5_in : GoodIn wsX5_book wsX5_in := goodIn_r _ [15] (by decide +kernel) (by decide +kernel)
set_option maxRecDepth 20000 in
theorem gX5_book_X5_in : GoodIn wsX5_book (va_wsS RX5 99 yX5_in wsX5_in) := goodIn_app (goodIn_of _ (by decide +kernel)) ggX5_book_X5_in
set_option maxRecDepth 20000 in
theorem ggX5_book_X5_canBook : GoodIn wsX5_book wsX5_canBook := goodIn_r _ [19, 2, 4, 3, 5, 20, 21, 22, 10, 23, 24, 25, 31, 32, 33, 34, 35, 36, 37, 38, 39, 40, 41, 42, 43, 44, 45, 46, 47, 48, 49, 50, 51, 52, 53, 54, 55, 56, 57, 58, 59, 60, 61, 62, 63] (by decide +kernel) (by decide +kernel)
set_option maxRecDepth 20000 in
theorem gX5_book_X5_canBook : GoodIn wsX5_book (wsV RX5 185 RX5 yX5_canBook wsX5_canBook) := goodIn_app (goodIn_of _ (by decide +kernel)) ggX5_book_X5_canBook
set_option maxRecDepth 20000 in
theorem ggX5_book_X5_refused : GoodIn wsX5_book wsX5_refused := goodIn_r _ [29, 30, 31, 32, 33, 34, 35, 36, 37, 38, 39, 40, 41, 42, 43, 44, 45, 46, 47, 48, 49, 50, 51, 52, 53, 54, 55, 56, 57, 58, 59, 60, 61, 62, 63] (by decide +kernel) (by decide +kernel)
set_option maxRecDepth 20000 in
theorem gX5_book_X5_refused : GoodIn wsX5_book (wsV RX5 120 RX5 yX5_refused wsX5_refused) := goodIn_app (goodIn_of _ (by decide +kernel)) ggX5_book_X5_refused
theorem dX5_book_0 : decode cX5_book 0 = .ok (.aload_n 0, 1) := by decide +kernel
theorem dX5_book_1 : decode cX5_book 1 = .ok (.iload_n 1, 1) := by decide +kernel
theorem dX5_book_2 : decode cX5_book 2 = .ok (.invokevirtual 123, 3) := by decide +kernel
theorem dX5_book_5 : decode cX5_book 5 = .ok (.istore_n 3, 1) := by decide +kernel
theorem dX5_book_6 : decode cX5_book 6 = .ok (.aload_n 0, 1) := by decide +kernel
theorem dX5_book_7 : decode cX5_book 7 = .ok (.iload_n 3, 1) := by decide +kernel
theorem dX5_book_8 : decode cX5_book 8 = .ok (.ifCond .ne 7, 3) := by decide +kernel
theorem dX5_book_11 : decode cX5_book 11 = .ok (.iconst 1, 1) := by decide +kernel
theorem dX5_book_12 : decode cX5_book 12 = .ok (.goto 44, 3) := by decide +kernel
theorem dX5_book_15 : decode cX5_book 15 = .ok (.iload_n 2, 1) := by decide +kernel
theorem dX5_book_16 : decode cX5_book 16 = .ok (.aload_n 0, 1) := by decide +kernel
theorem dX5_book_17 : decode cX5_book 17 = .ok (.getfield 141, 3) := by decide +kernel
theorem dX5_book_20 : decode cX5_book 20 = .ok (.sipush 4940, 3) := by decide +kernel
theorem dX5_book_23 : decode cX5_book 23 = .ok (.invokestatic 99, 3) := by decide +kernel
theorem dX5_book_26 : decode cX5_book 26 = .ok (.ifCond .ne 7, 3) := by decide +kernel
theorem dX5_book_29 : decode cX5_book 29 = .ok (.iconst 2, 1) := by decide +kernel
theorem dX5_book_30 : decode cX5_book 30 = .ok (.goto 26, 3) := by decide +kernel
theorem dX5_book_33 : decode cX5_book 33 = .ok (.aload_n 0, 1) := by decide +kernel
theorem dX5_book_34 : decode cX5_book 34 = .ok (.iload_n 1, 1) := by decide +kernel
theorem dX5_book_35 : decode cX5_book 35 = .ok (.iload_n 2, 1) := by decide +kernel
theorem dX5_book_36 : decode cX5_book 36 = .ok (.invokevirtual 185, 3) := by decide +kernel
theorem dX5_book_39 : decode cX5_book 39 = .ok (.ifCond .eq 12, 3) := by decide +kernel
theorem dX5_book_42 : decode cX5_book 42 = .ok (.aload_n 0, 1) := by decide +kernel
theorem dX5_book_43 : decode cX5_book 43 = .ok (.getfield 106, 3) := by decide +kernel
theorem dX5_book_46 : decode cX5_book 46 = .ok (.bipush 30, 2) := by decide +kernel
theorem dX5_book_48 : decode cX5_book 48 = .ok (.if_icmp .ne 7, 3) := by decide +kernel
theorem dX5_book_51 : decode cX5_book 51 = .ok (.iconst 3, 1) := by decide +kernel
theorem dX5_book_52 : decode cX5_book 52 = .ok (.goto 4, 3) := by decide +kernel
theorem dX5_book_55 : decode cX5_book 55 = .ok (.iconst 0, 1) := by decide +kernel
theorem dX5_book_56 : decode cX5_book 56 = .ok (.invokevirtual 120, 3) := by decide +kernel
theorem dX5_book_59 : decode cX5_book 59 = .ok (.ifCond .eq 5, 3) := by decide +kernel
theorem dX5_book_62 : decode cX5_book 62 = .ok (.iconst 0, 1) := by decide +kernel
theorem dX5_book_63 : decode cX5_book 63 = .ok (.ireturn, 1) := by decide +kernel
theorem dX5_book_64 : decode cX5_book 64 = .ok (.aload_n 0, 1) := by decide +kernel
theorem dX5_book_65 : decode cX5_book 65 = .ok (.getfield 77, 3) := by decide +kernel
theorem dX5_book_68 : decode cX5_book 68 = .ok (.aload_n 0, 1) := by decide +kernel
theorem dX5_book_69 : decode cX5_book 69 = .ok (.getfield 106, 3) := by decide +kernel
theorem dX5_book_72 : decode cX5_book 72 = .ok (.iload_n 1, 1) := by decide +kernel
theorem dX5_book_73 : decode cX5_book 73 = .ok (.iastore, 1) := by decide +kernel
theorem dX5_book_74 : decode cX5_book 74 = .ok (.aload_n 0, 1) := by decide +kernel
theorem dX5_book_75 : decode cX5_book 75 = .ok (.getfield 80, 3) := by decide +kernel
theorem dX5_book_78 : decode cX5_book 78 = .ok (.aload_n 0, 1) := by decide +kernel
theorem dX5_book_79 : decode cX5_book 79 = .ok (.getfield 106, 3) := by decide +kernel
theorem dX5_book_82 : decode cX5_book 82 = .ok (.iload_n 2, 1) := by decide +kernel
theorem dX5_book_83 : decode cX5_book 83 = .ok (.iastore, 1) := by decide +kernel
theorem dX5_book_84 : decode cX5_book 84 = .ok (.aload_n 0, 1) := by decide +kernel
theorem dX5_book_85 : decode cX5_book 85 = .ok (.getfield 83, 3) := by decide +kernel
theorem dX5_book_88 : decode cX5_book 88 = .ok (.aload_n 0, 1) := by decide +kernel
theorem dX5_book_89 : decode cX5_book 89 = .ok (.getfield 106, 3) := by decide +kernel
theorem dX5_book_92 : decode cX5_book 92 = .ok (.iconst 0, 1) := by decide +kernel
theorem dX5_book_93 : decode cX5_book 93 = .ok (.iastore, 1) := by decide +kernel
theorem dX5_book_94 : decode cX5_book 94 = .ok (.aload_n 0, 1) := by decide +kernel
theorem dX5_book_95 : decode cX5_book 95 = .ok (.getfield 86, 3) := by decide +kernel
theorem dX5_book_98 : decode cX5_book 98 = .ok (.aload_n 0, 1) := by decide +kernel
theorem dX5_book_99 : decode cX5_book 99 = .ok (.getfield 106, 3) := by decide +kernel
theorem dX5_book_102 : decode cX5_book 102 = .ok (.iconst (-1), 1) := by decide +kernel
theorem dX5_book_103 : decode cX5_book 103 = .ok (.iastore, 1) := by decide +kernel
theorem dX5_book_104 : decode cX5_book 104 = .ok (.aload_n 0, 1) := by decide +kernel
theorem dX5_book_105 : decode cX5_book 105 = .ok (.dup, 1) := by decide +kernel
theorem dX5_book_106 : decode cX5_book 106 = .ok (.getfield 106, 3) := by decide +kernel
theorem dX5_book_109 : decode cX5_book 109 = .ok (.iconst 1, 1) := by decide +kernel
theorem dX5_book_110 : decode cX5_book 110 = .ok (.iadd, 1) := by decide +kernel
theorem dX5_book_111 : decode cX5_book 111 = .ok (.putfield 106, 3) := by decide +kernel
theorem dX5_book_114 : decode cX5_book 114 = .ok (.aload_n 0, 1) := by decide +kernel
theorem dX5_book_115 : decode cX5_book 115 = .ok (.getfield 106, 3) := by decide +kernel
theorem dX5_book_118 : decode cX5_book 118 = .ok (.iconst 1, 1) := by decide +kernel
theorem dX5_book_119 : decode cX5_book 119 = .ok (.isub, 1) := by decide +kernel
theorem dX5_book_120 : decode cX5_book 120 = .ok (.ireturn, 1) := by decide +kernel
set_option maxRecDepth 20000 in
theorem ggX5_cancel_X5_isBooking : GoodIn wsX5_cancel wsX5_isBooking := goodIn_r _ [6, 7, 8, 9, 5, 10, 16, 17, 18, 19, 20, 21, 22, 23, 24, 25, 26, 27, 28, 29, 30, 31, 32, 33, 34, 35, 36, 37, 38, 39, 40, 41, 42, 43, 44, 45, 46, 47, 48] (by decide +kernel) (by decide +kernel)
set_option maxRecDepth 20000 in
theorem gX5_cancel_X5_isBooking : GoodIn wsX5_cancel (wsV RX5 188 RX5 yX5_isBooking wsX5_isBooking) := goodIn_app (goodIn_of _ (by decide +kernel)) ggX5_cancel_X5_isBooking
set_option maxRecDepth 20000 in
theorem ggX5_cancel_X5_refused : GoodIn wsX5_cancel wsX5_refused := goodIn_r _ [14, 15, 16, 17, 18, 19, 20, 21, 22, 23, 24, 25, 26, 27, 28, 29, 30, 31, 32, 33, 34, 35, 36, 37, 38, 39, 40, 41, 42, 43, 44, 45, 46, 47, 48] (by decide +kernel) (by decide +kernel)
set_option maxRecDepth 20000 in
theorem gX5_cancel_X5_refused : GoodIn wsX5_cancel (wsV RX5 120 RX5 yX5_refused wsX5_refused) := goodIn_app (goodIn_of _ (by decide +kernel)) ggX5_cancel_X5_refused
theorem dX5_cancel_0 : decode cX5_cancel 0 = .ok (.aload_n 0, 1) := by decide +kernel
theorem dX5_cancel_1 : decode cX5_cancel 1 = .ok (.iload_n 1, 1) := by decide +kernel
theorem dX5_cancel_2 : decode cX5_cancel 2 = .ok (.invokevirtual 188, 3) := by decide +kernel
theorem dX5_cancel_5 : decode cX5_cancel 5 = .ok (.istore_n 2, 1) := by decide +kernel
theorem dX5_cancel_6 : decode cX5_cancel 6 = .ok (.aload_n 0, 1) := by decide +kernel
theorem dX5_cancel_7 : decode cX5_cancel 7 = .ok (.iload_n 2, 1) := by decide +kernel
theorem dX5_cancel_8 : decode cX5_cancel 8 = .ok (.ifCond .ne 7, 3) := by decide +kernel
theorem dX5_cancel_11 : decode cX5_cancel 11 = .ok (.iconst 1, 1) := by decide +kernel
theorem dX5_cancel_12 : decode cX5_cancel 12 = .ok (.goto 17, 3) := by decide +kernel
theorem dX5_cancel_15 : decode cX5_cancel 15 = .ok (.aload_n 0, 1) := by decide +kernel
theorem dX5_cancel_16 : decode cX5_cancel 16 = .ok (.getfield 83, 3) := by decide +kernel
theorem dX5_cancel_19 : decode cX5_cancel 19 = .ok (.iload_n 1, 1) := by decide +kernel
theorem dX5_cancel_20 : decode cX5_cancel 20 = .ok (.iaload, 1) := by decide +kernel
theorem dX5_cancel_21 : decode cX5_cancel 21 = .ok (.ifCond .eq 7, 3) := by decide +kernel
theorem dX5_cancel_24 : decode cX5_cancel 24 = .ok (.iconst 2, 1) := by decide +kernel
theorem dX5_cancel_25 : decode cX5_cancel 25 = .ok (.goto 4, 3) := by decide +kernel
theorem dX5_cancel_28 : decode cX5_cancel 28 = .ok (.iconst 0, 1) := by decide +kernel
theorem dX5_cancel_29 : decode cX5_cancel 29 = .ok (.invokevirtual 120, 3) := by decide +kernel
theorem dX5_cancel_32 : decode cX5_cancel 32 = .ok (.ifCond .ne 10, 3) := by decide +kernel
theorem dX5_cancel_35 : decode cX5_cancel 35 = .ok (.aload_n 0, 1) := by decide +kernel
theorem dX5_cancel_36 : decode cX5_cancel 36 = .ok (.getfield 83, 3) := by decide +kernel
theorem dX5_cancel_39 : decode cX5_cancel 39 = .ok (.iload_n 1, 1) := by decide +kernel
theorem dX5_cancel_40 : decode cX5_cancel 40 = .ok (.iconst 2, 1) := by decide +kernel
theorem dX5_cancel_41 : decode cX5_cancel 41 = .ok (.iastore, 1) := by decide +kernel
theorem dX5_cancel_42 : decode cX5_cancel 42 = .ok (.return_, 1) := by decide +kernel
set_option maxRecDepth 20000 in
theorem ggX5_offer_X5_isRoom : GoodIn wsX5_offer wsX5_isRoom := goodIn_r _ [6, 7, 8, 9, 5, 10, 30, 31, 32, 33, 34, 35, 36, 37, 38, 39, 40, 41, 42, 43, 44, 45, 46, 47, 48, 49, 50, 51, 52, 53, 54, 55, 56, 57, 58, 59, 60, 61, 62] (by decide +kernel) (by decide +kernel)
set_option maxRecDepth 20000 in
theorem gX5_offer_X5_isRoom : GoodIn wsX5_offer (wsV RX5 123 RX5 yX5_isRoom wsX5_isRoom) := goodIn_app (goodIn_of _ (by decide +kernel)) ggX5_offer_X5_isRoom
set_option maxRecDepth 20000 in
theorem ggX5_offer_X5_in : GoodIn wsX5_offer wsX5_in := goodIn_r _ [10] (by decide +kernel) (by decide +kernel)
set_option maxRecDepth 20000 in
theorem gX5_offer_X5_in : GoodIn wsX5_offer (va_wsS RX5 99 yX5_in wsX5_in) := goodIn_app (goodIn_of _ (by decide +kernel)) ggX5_offer_X5_in
set_option maxRecDepth 20000 in
theorem ggX5_offer_X5_refused : GoodIn wsX5_offer wsX5_refused := goodIn_r _ [14, 15, 30, 31, 32, 33, 34, 35, 36, 37, 38, 39, 40, 41, 42, 43, 44, 45, 46, 47, 48, 49, 50, 51, 52, 53, 54, 55, 56, 57, 58, 59, 60, 61, 62] (by decide +kernel) (by decide +kernel)
set_option maxRecDepth 20000 in
theorem gX5_offer_X5_refused : GoodIn wsX5_offer (wsV RX5 120 RX5 yX5_refused wsX5_refused) := goodIn_app (goodIn_of _ (by decide +kernel)) ggX5_offer_X5_refused
set_option maxRecDepth 20000 in
theorem ggX5_offer_X5_canBook : GoodIn wsX5_offer wsX5_canBook := goodIn_r _ [19, 20, 21, 22, 23, 24, 25, 26, 5, 27, 28, 29, 30, 31, 32, 33, 34, 35, 36, 37, 38, 39, 40, 41, 42, 43, 44, 45, 46, 47, 48, 49, 50, 51, 52, 53, 54, 55, 56, 57, 58, 59, 60, 61, 62] (by decide +kernel) (by decide +kernel)
set_option maxRecDepth 20000 in
theorem gX5_offer_X5_canBook : GoodIn wsX5_offer (wsV RX5 185 RX5 yX5_canBook wsX5_canBook) := goodIn_app (goodIn_of _ (by decide +kernel)) ggX5_offer_X5_canBook
theorem dX5_offer_0 : decode cX5_offer 0 = .ok (.aload_n 0, 1) := by decide +kernel
theorem dX5_offer_1 : decode cX5_offer 1 = .ok (.aload_n 0, 1) := by decide +kernel
theorem dX5_offer_2 : decode cX5_offer 2 = .ok (.iload_n 1, 1) := by decide +kernel
theorem dX5_offer_3 : decode cX5_offer 3 = .ok (.invokevirtual 123, 3) := by decide +kernel
theorem dX5_offer_6 : decode cX5_offer 6 = .ok (.ifCond .ne 7, 3) := by decide +kernel
theorem dX5_offer_9 : decode cX5_offer 9 = .ok (.iconst 1, 1) := by decide +kernel
theorem dX5_offer_10 : decode cX5_offer 10 = .ok (.goto 19, 3) := by decide +kernel
theorem dX5_offer_13 : decode cX5_offer 13 = .ok (.iload_n 2, 1) := by decide +kernel
theorem dX5_offer_14 : decode cX5_offer 14 = .ok (.iconst 0, 1) := by decide +kernel
theorem dX5_offer_15 : decode cX5_offer 15 = .ok (.sipush 4940, 3) := by decide +kernel
theorem dX5_offer_18 : decode cX5_offer 18 = .ok (.invokestatic 99, 3) := by decide +kernel
theorem dX5_offer_21 : decode cX5_offer 21 = .ok (.ifCond .ne 7, 3) := by decide +kernel
theorem dX5_offer_24 : decode cX5_offer 24 = .ok (.iconst 2, 1) := by decide +kernel
theorem dX5_offer_25 : decode cX5_offer 25 = .ok (.goto 4, 3) := by decide +kernel
theorem dX5_offer_28 : decode cX5_offer 28 = .ok (.iconst 0, 1) := by decide +kernel
theorem dX5_offer_29 : decode cX5_offer 29 = .ok (.invokevirtual 120, 3) := by decide +kernel
theorem dX5_offer_32 : decode cX5_offer 32 = .ok (.ifCond .eq 5, 3) := by decide +kernel
theorem dX5_offer_35 : decode cX5_offer 35 = .ok (.iconst 0, 1) := by decide +kernel
theorem dX5_offer_36 : decode cX5_offer 36 = .ok (.ireturn, 1) := by decide +kernel
theorem dX5_offer_37 : decode cX5_offer 37 = .ok (.iload_n 2, 1) := by decide +kernel
theorem dX5_offer_38 : decode cX5_offer 38 = .ok (.aload_n 0, 1) := by decide +kernel
theorem dX5_offer_39 : decode cX5_offer 39 = .ok (.getfield 141, 3) := by decide +kernel
theorem dX5_offer_42 : decode cX5_offer 42 = .ok (.if_icmp .le 7, 3) := by decide +kernel
theorem dX5_offer_45 : decode cX5_offer 45 = .ok (.iload_n 2, 1) := by decide +kernel
theorem dX5_offer_46 : decode cX5_offer 46 = .ok (.goto 7, 3) := by decide +kernel
theorem dX5_offer_49 : decode cX5_offer 49 = .ok (.aload_n 0, 1) := by decide +kernel
theorem dX5_offer_50 : decode cX5_offer 50 = .ok (.getfield 141, 3) := by decide +kernel
theorem dX5_offer_53 : decode cX5_offer 53 = .ok (.istore_n 3, 1) := by decide +kernel
theorem dX5_offer_54 : decode cX5_offer 54 = .ok (.iload_n 3, 1) := by decide +kernel
theorem dX5_offer_55 : decode cX5_offer 55 = .ok (.sipush 4940, 3) := by decide +kernel
theorem dX5_offer_58 : decode cX5_offer 58 = .ok (.if_icmp .gt 20, 3) := by decide +kernel
theorem dX5_offer_61 : decode cX5_offer 61 = .ok (.aload_n 0, 1) := by decide +kernel
theorem dX5_offer_62 : decode cX5_offer 62 = .ok (.iload_n 1, 1) := by decide +kernel
theorem dX5_offer_63 : decode cX5_offer 63 = .ok (.iload_n 3, 1) := by decide +kernel
theorem dX5_offer_64 : decode cX5_offer 64 = .ok (.invokevirtual 185, 3) := by decide +kernel
theorem dX5_offer_67 : decode cX5_offer 67 = .ok (.ifCond .eq 5, 3) := by decide +kernel
theorem dX5_offer_70 : decode cX5_offer 70 = .ok (.iload_n 3, 1) := by decide +kernel
theorem dX5_offer_71 : decode cX5_offer 71 = .ok (.ireturn, 1) := by decide +kernel
theorem dX5_offer_72 : decode cX5_offer 72 = .ok (.iinc 3 1, 3) := by decide +kernel
theorem dX5_offer_75 : decode cX5_offer 75 = .ok (.goto (-21), 3) := by decide +kernel
theorem dX5_offer_78 : decode cX5_offer 78 = .ok (.iconst (-1), 1) := by decide +kernel
theorem dX5_offer_79 : decode cX5_offer 79 = .ok (.ireturn, 1) := by decide +kernel
set_option maxRecDepth 20000 in
theorem ggX5_pass_X5_in : GoodIn wsX5_pass wsX5_in := goodIn_r _ [11] (by decide +kernel) (by decide +kernel)
set_option maxRecDepth 20000 in
theorem gX5_pass_X5_in : GoodIn wsX5_pass (va_wsS RX5 99 yX5_in wsX5_in) := goodIn_app (goodIn_of _ (by decide +kernel)) ggX5_pass_X5_in
set_option maxRecDepth 20000 in
theorem ggX5_pass_X5_refused : GoodIn wsX5_pass wsX5_refused := goodIn_r _ [15, 16, 57, 58, 59, 60, 61, 62, 63, 64, 65, 66, 67, 68, 69, 70, 71, 72, 73, 74, 75, 76, 77, 78, 79, 80, 81, 82, 83, 84, 85, 86, 87, 88, 89] (by decide +kernel) (by decide +kernel)
set_option maxRecDepth 20000 in
theorem gX5_pass_X5_refused : GoodIn wsX5_pass (wsV RX5 120 RX5 yX5_refused wsX5_refused) := goodIn_app (goodIn_of _ (by decide +kernel)) ggX5_pass_X5_refused
set_option maxRecDepth 20000 in
theorem ggX5_pass_X5_left : GoodIn wsX5_pass wsX5_left := goodIn_r _ [20, 21, 1, 22, 57, 58, 59, 60, 61, 62, 63, 64, 65, 66, 67, 68, 69, 70, 71, 72, 73, 74, 75, 76, 77, 78, 79, 80, 81, 82, 83, 84, 85, 86, 87, 88, 89] (by decide +kernel) (by decide +kernel)
set_option maxRecDepth 20000 in
theorem gX5_pass_X5_left : GoodIn wsX5_pass (wsV RX5 169 RX5 yX5_left wsX5_left) := goodIn_app (goodIn_of _ (by decide +kernel)) ggX5_pass_X5_left
set_option maxRecDepth 20000 in
theorem ggX5_pass_X5_leaves : GoodIn wsX5_pass wsX5_leaves := goodIn_r _ [26, 27, 28, 3, 29, 30, 4, 57, 58, 59, 60, 61, 62, 63, 64, 65, 66, 67, 68, 69, 70, 71, 72, 73, 74, 75, 76, 77, 78, 79, 80, 81, 82, 83, 84, 85, 86, 87, 88, 89] (by decide +kernel) (by decide +kernel)
set_option maxRecDepth 20000 in
theorem gX5_pass_X5_leaves : GoodIn wsX5_pass (wsV RX5 126 RX5 yX5_leaves wsX5_leaves) := goodIn_app (goodIn_of _ (by decide +kernel)) ggX5_pass_X5_leaves
set_option maxRecDepth 20000 in
theorem ggX5_pass_X5_works : GoodIn wsX5_pass wsX5_works := goodIn_r _ [34, 35, 36, 37, 29, 38, 39, 40, 10, 41, 3, 42, 43, 44, 45, 46, 47, 48, 49, 50, 51, 52, 53, 54, 55, 56, 57, 58, 59, 60, 61, 62, 63, 64, 65, 66, 67, 68, 69, 70, 71, 72, 73, 74, 75, 76, 77, 78, 79, 80, 81, 82, 83, 84, 85, 86, 87, 88, 89] (by decide +kernel) (by decide +kernel)
set_option maxRecDepth 20000 in
theorem gX5_pass_X5_works : GoodIn wsX5_pass (wsV RX5 191 RX5 yX5_works wsX5_works) := goodIn_app (goodIn_of _ (by decide +kernel)) ggX5_pass_X5_works
theorem dX5_pass_0 : decode cX5_pass 0 = .ok (.aload_n 0, 1) := by decide +kernel
theorem dX5_pass_1 : decode cX5_pass 1 = .ok (.iload_n 1, 1) := by decide +kernel
theorem dX5_pass_2 : decode cX5_pass 2 = .ok (.iconst 1, 1) := by decide +kernel
theorem dX5_pass_3 : decode cX5_pass 3 = .ok (.sipush 600, 3) := by decide +kernel
theorem dX5_pass_6 : decode cX5_pass 6 = .ok (.invokestatic 99, 3) := by decide +kernel
theorem dX5_pass_9 : decode cX5_pass 9 = .ok (.ifCond .ne 7, 3) := by decide +kernel
theorem dX5_pass_12 : decode cX5_pass 12 = .ok (.iconst 1, 1) := by decide +kernel
theorem dX5_pass_13 : decode cX5_pass 13 = .ok (.goto 20, 3) := by decide +kernel
theorem dX5_pass_16 : decode cX5_pass 16 = .ok (.aload_n 0, 1) := by decide +kernel
theorem dX5_pass_17 : decode cX5_pass 17 = .ok (.getfield 141, 3) := by decide +kernel
theorem dX5_pass_20 : decode cX5_pass 20 = .ok (.iload_n 1, 1) := by decide +kernel
theorem dX5_pass_21 : decode cX5_pass 21 = .ok (.iadd, 1) := by decide +kernel
theorem dX5_pass_22 : decode cX5_pass 22 = .ok (.sipush 5000, 3) := by decide +kernel
theorem dX5_pass_25 : decode cX5_pass 25 = .ok (.if_icmp .le 7, 3) := by decide +kernel
theorem dX5_pass_28 : decode cX5_pass 28 = .ok (.iconst 2, 1) := by decide +kernel
theorem dX5_pass_29 : decode cX5_pass 29 = .ok (.goto 4, 3) := by decide +kernel
theorem dX5_pass_32 : decode cX5_pass 32 = .ok (.iconst 0, 1) := by decide +kernel
theorem dX5_pass_33 : decode cX5_pass 33 = .ok (.invokevirtual 120, 3) := by decide +kernel
theorem dX5_pass_36 : decode cX5_pass 36 = .ok (.ifCond .eq 5, 3) := by decide +kernel
theorem dX5_pass_39 : decode cX5_pass 39 = .ok (.iconst 0, 1) := by decide +kernel
theorem dX5_pass_40 : decode cX5_pass 40 = .ok (.ireturn, 1) := by decide +kernel
theorem dX5_pass_41 : decode cX5_pass 41 = .ok (.iconst 0, 1) := by decide +kernel
theorem dX5_pass_42 : decode cX5_pass 42 = .ok (.istore_n 2, 1) := by decide +kernel
theorem dX5_pass_43 : decode cX5_pass 43 = .ok (.iload_n 2, 1) := by decide +kernel
theorem dX5_pass_44 : decode cX5_pass 44 = .ok (.iload_n 1, 1) := by decide +kernel
theorem dX5_pass_45 : decode cX5_pass 45 = .ok (.if_icmp .ge 144, 3) := by decide +kernel
theorem dX5_pass_48 : decode cX5_pass 48 = .ok (.aload_n 0, 1) := by decide +kernel
theorem dX5_pass_49 : decode cX5_pass 49 = .ok (.dup, 1) := by decide +kernel
theorem dX5_pass_50 : decode cX5_pass 50 = .ok (.getfield 141, 3) := by decide +kernel
theorem dX5_pass_53 : decode cX5_pass 53 = .ok (.iconst 1, 1) := by decide +kernel
theorem dX5_pass_54 : decode cX5_pass 54 = .ok (.iadd, 1) := by decide +kernel
theorem dX5_pass_55 : decode cX5_pass 55 = .ok (.putfield 141, 3) := by decide +kernel
theorem dX5_pass_58 : decode cX5_pass 58 = .ok (.iconst 0, 1) := by decide +kernel
theorem dX5_pass_59 : decode cX5_pass 59 = .ok (.istore_n 3, 1) := by decide +kernel
theorem dX5_pass_60 : decode cX5_pass 60 = .ok (.iload_n 3, 1) := by decide +kernel
theorem dX5_pass_61 : decode cX5_pass 61 = .ok (.aload_n 0, 1) := by decide +kernel
theorem dX5_pass_62 : decode cX5_pass 62 = .ok (.getfield 96, 3) := by decide +kernel
theorem dX5_pass_65 : decode cX5_pass 65 = .ok (.if_icmp .ge 43, 3) := by decide +kernel
theorem dX5_pass_68 : decode cX5_pass 68 = .ok (.aload_n 0, 1) := by decide +kernel
theorem dX5_pass_69 : decode cX5_pass 69 = .ok (.getfield 16, 3) := by decide +kernel
theorem dX5_pass_72 : decode cX5_pass 72 = .ok (.iload_n 3, 1) := by decide +kernel
theorem dX5_pass_73 : decode cX5_pass 73 = .ok (.iaload, 1) := by decide +kernel
theorem dX5_pass_74 : decode cX5_pass 74 = .ok (.iconst 1, 1) := by decide +kernel
theorem dX5_pass_75 : decode cX5_pass 75 = .ok (.if_icmp .ne 27, 3) := by decide +kernel
theorem dX5_pass_78 : decode cX5_pass 78 = .ok (.aload_n 0, 1) := by decide +kernel
theorem dX5_pass_79 : decode cX5_pass 79 = .ok (.aload_n 0, 1) := by decide +kernel
theorem dX5_pass_80 : decode cX5_pass 80 = .ok (.getfield 25, 3) := by decide +kernel
theorem dX5_pass_83 : decode cX5_pass 83 = .ok (.iload_n 3, 1) := by decide +kernel
theorem dX5_pass_84 : decode cX5_pass 84 = .ok (.iaload, 1) := by decide +kernel
theorem dX5_pass_85 : decode cX5_pass 85 = .ok (.invokevirtual 169, 3) := by decide +kernel
theorem dX5_pass_88 : decode cX5_pass 88 = .ok (.ifCond .gt 14, 3) := by decide +kernel
theorem dX5_pass_91 : decode cX5_pass 91 = .ok (.aload_n 0, 1) := by decide +kernel
theorem dX5_pass_92 : decode cX5_pass 92 = .ok (.aload_n 0, 1) := by decide +kernel
theorem dX5_pass_93 : decode cX5_pass 93 = .ok (.getfield 25, 3) := by decide +kernel
theorem dX5_pass_96 : decode cX5_pass 96 = .ok (.iload_n 3, 1) := by decide +kernel
theorem dX5_pass_97 : decode cX5_pass 97 = .ok (.iaload, 1) := by decide +kernel
theorem dX5_pass_98 : decode cX5_pass 98 = .ok (.iconst 2, 1) := by decide +kernel
theorem dX5_pass_99 : decode cX5_pass 99 = .ok (.invokevirtual 126, 3) := by decide +kernel
theorem dX5_pass_102 : decode cX5_pass 102 = .ok (.iinc 3 1, 3) := by decide +kernel
theorem dX5_pass_105 : decode cX5_pass 105 = .ok (.goto (-45), 3) := by decide +kernel
theorem dX5_pass_108 : decode cX5_pass 108 = .ok (.iconst 0, 1) := by decide +kernel
theorem dX5_pass_109 : decode cX5_pass 109 = .ok (.istore_n 3, 1) := by decide +kernel
theorem dX5_pass_110 : decode cX5_pass 110 = .ok (.iload_n 3, 1) := by decide +kernel
theorem dX5_pass_111 : decode cX5_pass 111 = .ok (.iconst 3, 1) := by decide +kernel
theorem dX5_pass_112 : decode cX5_pass 112 = .ok (.if_icmp .ge 14, 3) := by decide +kernel
theorem dX5_pass_115 : decode cX5_pass 115 = .ok (.aload_n 0, 1) := by decide +kernel
theorem dX5_pass_116 : decode cX5_pass 116 = .ok (.iload_n 3, 1) := by decide +kernel
theorem dX5_pass_117 : decode cX5_pass 117 = .ok (.invokevirtual 191, 3) := by decide +kernel
theorem dX5_pass_120 : decode cX5_pass 120 = .ok (.iinc 3 1, 3) := by decide +kernel
theorem dX5_pass_123 : decode cX5_pass 123 = .ok (.goto (-13), 3) := by decide +kernel
theorem dX5_pass_126 : decode cX5_pass 126 = .ok (.iconst 0, 1) := by decide +kernel
theorem dX5_pass_127 : decode cX5_pass 127 = .ok (.istore_n 3, 1) := by decide +kernel
theorem dX5_pass_128 : decode cX5_pass 128 = .ok (.iload_n 3, 1) := by decide +kernel
theorem dX5_pass_129 : decode cX5_pass 129 = .ok (.aload_n 0, 1) := by decide +kernel
theorem dX5_pass_130 : decode cX5_pass 130 = .ok (.getfield 106, 3) := by decide +kernel
theorem dX5_pass_133 : decode cX5_pass 133 = .ok (.if_icmp .ge 50, 3) := by decide +kernel
theorem dX5_pass_136 : decode cX5_pass 136 = .ok (.aload_n 0, 1) := by decide +kernel
theorem dX5_pass_137 : decode cX5_pass 137 = .ok (.getfield 83, 3) := by decide +kernel
theorem dX5_pass_140 : decode cX5_pass 140 = .ok (.iload_n 3, 1) := by decide +kernel
theorem dX5_pass_141 : decode cX5_pass 141 = .ok (.aload_n 0, 1) := by decide +kernel
theorem dX5_pass_142 : decode cX5_pass 142 = .ok (.getfield 83, 3) := by decide +kernel
theorem dX5_pass_145 : decode cX5_pass 145 = .ok (.iload_n 3, 1) := by decide +kernel
theorem dX5_pass_146 : decode cX5_pass 146 = .ok (.iaload, 1) := by decide +kernel
theorem dX5_pass_147 : decode cX5_pass 147 = .ok (.ifCond .ne 23, 3) := by decide +kernel
theorem dX5_pass_150 : decode cX5_pass 150 = .ok (.aload_n 0, 1) := by decide +kernel
theorem dX5_pass_151 : decode cX5_pass 151 = .ok (.getfield 141, 3) := by decide +kernel
theorem dX5_pass_154 : decode cX5_pass 154 = .ok (.aload_n 0, 1) := by decide +kernel
theorem dX5_pass_155 : decode cX5_pass 155 = .ok (.getfield 80, 3) := by decide +kernel
theorem dX5_pass_158 : decode cX5_pass 158 = .ok (.iload_n 3, 1) := by decide +kernel
theorem dX5_pass_159 : decode cX5_pass 159 = .ok (.iaload, 1) := by decide +kernel
theorem dX5_pass_160 : decode cX5_pass 160 = .ok (.isub, 1) := by decide +kernel
theorem dX5_pass_161 : decode cX5_pass 161 = .ok (.bipush 15, 2) := by decide +kernel
theorem dX5_pass_163 : decode cX5_pass 163 = .ok (.if_icmp .lt 7, 3) := by decide +kernel
theorem dX5_pass_166 : decode cX5_pass 166 = .ok (.iconst 2, 1) := by decide +kernel
theorem dX5_pass_167 : decode cX5_pass 167 = .ok (.goto 9, 3) := by decide +kernel
theorem dX5_pass_170 : decode cX5_pass 170 = .ok (.aload_n 0, 1) := by decide +kernel
theorem dX5_pass_171 : decode cX5_pass 171 = .ok (.getfield 83, 3) := by decide +kernel
theorem dX5_pass_174 : decode cX5_pass 174 = .ok (.iload_n 3, 1) := by decide +kernel
theorem dX5_pass_175 : decode cX5_pass 175 = .ok (.iaload, 1) := by decide +kernel
theorem dX5_pass_176 : decode cX5_pass 176 = .ok (.iastore, 1) := by decide +kernel
theorem dX5_pass_177 : decode cX5_pass 177 = .ok (.iinc 3 1, 3) := by decide +kernel
theorem dX5_pass_180 : decode cX5_pass 180 = .ok (.goto (-52), 3) := by decide +kernel
theorem dX5_pass_183 : decode cX5_pass 183 = .ok (.iinc 2 1, 3) := by decide +kernel
theorem dX5_pass_186 : decode cX5_pass 186 = .ok (.goto (-143), 3) := by decide +kernel
theorem dX5_pass_189 : decode cX5_pass 189 = .ok (.aload_n 0, 1) := by decide +kernel
theorem dX5_pass_190 : decode cX5_pass 190 = .ok (.getfield 141, 3) := by decide +kernel
theorem dX5_pass_193 : decode cX5_pass 193 = .ok (.ireturn, 1) := by decide +kernel
set_option maxRecDepth 20000 in
theorem ggX5_works_X5_isDone : GoodIn wsX5_works wsX5_isDone := goodIn_r _ [9, 10, 1, 3, 26, 27, 28, 29, 30, 31, 32, 33, 34, 35, 36, 37, 38, 39, 40, 41, 42, 43, 44, 45, 46, 47, 48, 49, 50, 51, 52, 53, 54, 55, 56, 57, 58] (by decide +kernel) (by decide +kernel)
set_option maxRecDepth 20000 in
theorem gX5_works_X5_isDone : GoodIn wsX5_works (wsV RX5 175 RX5 yX5_isDone wsX5_isDone) := goodIn_app (goodIn_of _ (by decide +kernel)) ggX5_works_X5_isDone
set_option maxRecDepth 20000 in
theorem ggX5_works_X5_begins : GoodIn wsX5_works wsX5_begins := goodIn_r _ [14, 1, 15, 16, 4, 3, 2, 17, 18, 19, 20, 8, 21, 22, 23, 24, 25, 5, 6, 7, 9, 10, 26, 27, 28, 29, 30, 31, 32, 33, 34, 35, 36, 37, 38, 39, 40, 41, 42, 43, 44, 45, 46, 47, 48, 49, 50, 51, 52, 53, 54, 55, 56, 57, 58] (by decide +kernel) (by decide +kernel)
set_option maxRecDepth 20000 in
theorem gX5_works_X5_begins : GoodIn wsX5_works (wsV RX5 182 RX5 yX5_begins wsX5_begins) := goodIn_app (goodIn_of _ (by decide +kernel)) ggX5_works_X5_begins
theorem dX5_works_0 : decode cX5_works 0 = .ok (.aload_n 0, 1) := by decide +kernel
theorem dX5_works_1 : decode cX5_works 1 = .ok (.getfield 64, 3) := by decide +kernel
theorem dX5_works_4 : decode cX5_works 4 = .ok (.iload_n 1, 1) := by decide +kernel
theorem dX5_works_5 : decode cX5_works 5 = .ok (.iaload, 1) := by decide +kernel
theorem dX5_works_6 : decode cX5_works 6 = .ok (.iconst (-1), 1) := by decide +kernel
theorem dX5_works_7 : decode cX5_works 7 = .ok (.if_icmp .ne 4, 3) := by decide +kernel
theorem dX5_works_10 : decode cX5_works 10 = .ok (.return_, 1) := by decide +kernel
theorem dX5_works_11 : decode cX5_works 11 = .ok (.aload_n 0, 1) := by decide +kernel
theorem dX5_works_12 : decode cX5_works 12 = .ok (.getfield 70, 3) := by decide +kernel
theorem dX5_works_15 : decode cX5_works 15 = .ok (.iload_n 1, 1) := by decide +kernel
theorem dX5_works_16 : decode cX5_works 16 = .ok (.dup2, 1) := by decide +kernel
theorem dX5_works_17 : decode cX5_works 17 = .ok (.iaload, 1) := by decide +kernel
theorem dX5_works_18 : decode cX5_works 18 = .ok (.iconst 1, 1) := by decide +kernel
theorem dX5_works_19 : decode cX5_works 19 = .ok (.isub, 1) := by decide +kernel
theorem dX5_works_20 : decode cX5_works 20 = .ok (.iastore, 1) := by decide +kernel
theorem dX5_works_21 : decode cX5_works 21 = .ok (.aload_n 0, 1) := by decide +kernel
theorem dX5_works_22 : decode cX5_works 22 = .ok (.getfield 70, 3) := by decide +kernel
theorem dX5_works_25 : decode cX5_works 25 = .ok (.iload_n 1, 1) := by decide +kernel
theorem dX5_works_26 : decode cX5_works 26 = .ok (.iaload, 1) := by decide +kernel
theorem dX5_works_27 : decode cX5_works 27 = .ok (.ifCond .ne 21, 3) := by decide +kernel
theorem dX5_works_30 : decode cX5_works 30 = .ok (.aload_n 0, 1) := by decide +kernel
theorem dX5_works_31 : decode cX5_works 31 = .ok (.getfield 67, 3) := by decide +kernel
theorem dX5_works_34 : decode cX5_works 34 = .ok (.iload_n 1, 1) := by decide +kernel
theorem dX5_works_35 : decode cX5_works 35 = .ok (.iaload, 1) := by decide +kernel
theorem dX5_works_36 : decode cX5_works 36 = .ok (.iconst (-1), 1) := by decide +kernel
theorem dX5_works_37 : decode cX5_works 37 = .ok (.if_icmp .ne 11, 3) := by decide +kernel
theorem dX5_works_40 : decode cX5_works 40 = .ok (.aload_n 0, 1) := by decide +kernel
theorem dX5_works_41 : decode cX5_works 41 = .ok (.iload_n 1, 1) := by decide +kernel
theorem dX5_works_42 : decode cX5_works 42 = .ok (.invokevirtual 175, 3) := by decide +kernel
theorem dX5_works_45 : decode cX5_works 45 = .ok (.goto 41, 3) := by decide +kernel
theorem dX5_works_48 : decode cX5_works 48 = .ok (.aload_n 0, 1) := by decide +kernel
theorem dX5_works_49 : decode cX5_works 49 = .ok (.getfield 70, 3) := by decide +kernel
theorem dX5_works_52 : decode cX5_works 52 = .ok (.iload_n 1, 1) := by decide +kernel
theorem dX5_works_53 : decode cX5_works 53 = .ok (.iaload, 1) := by decide +kernel
theorem dX5_works_54 : decode cX5_works 54 = .ok (.ifCond .ne 32, 3) := by decide +kernel
theorem dX5_works_57 : decode cX5_works 57 = .ok (.aload_n 0, 1) := by decide +kernel
theorem dX5_works_58 : decode cX5_works 58 = .ok (.getfield 19, 3) := by decide +kernel
theorem dX5_works_61 : decode cX5_works 61 = .ok (.aload_n 0, 1) := by decide +kernel
theorem dX5_works_62 : decode cX5_works 62 = .ok (.getfield 64, 3) := by decide +kernel
theorem dX5_works_65 : decode cX5_works 65 = .ok (.iload_n 1, 1) := by decide +kernel
theorem dX5_works_66 : decode cX5_works 66 = .ok (.iaload, 1) := by decide +kernel
theorem dX5_works_67 : decode cX5_works 67 = .ok (.dup2, 1) := by decide +kernel
theorem dX5_works_68 : decode cX5_works 68 = .ok (.iaload, 1) := by decide +kernel
theorem dX5_works_69 : decode cX5_works 69 = .ok (.iconst 1, 1) := by decide +kernel
theorem dX5_works_70 : decode cX5_works 70 = .ok (.aload_n 0, 1) := by decide +kernel
theorem dX5_works_71 : decode cX5_works 71 = .ok (.getfield 67, 3) := by decide +kernel
theorem dX5_works_74 : decode cX5_works 74 = .ok (.iload_n 1, 1) := by decide +kernel
theorem dX5_works_75 : decode cX5_works 75 = .ok (.iaload, 1) := by decide +kernel
theorem dX5_works_76 : decode cX5_works 76 = .ok (.ishl, 1) := by decide +kernel
theorem dX5_works_77 : decode cX5_works 77 = .ok (.iconst (-1), 1) := by decide +kernel
theorem dX5_works_78 : decode cX5_works 78 = .ok (.ixor, 1) := by decide +kernel
theorem dX5_works_79 : decode cX5_works 79 = .ok (.iand, 1) := by decide +kernel
theorem dX5_works_80 : decode cX5_works 80 = .ok (.iastore, 1) := by decide +kernel
theorem dX5_works_81 : decode cX5_works 81 = .ok (.aload_n 0, 1) := by decide +kernel
theorem dX5_works_82 : decode cX5_works 82 = .ok (.iload_n 1, 1) := by decide +kernel
theorem dX5_works_83 : decode cX5_works 83 = .ok (.invokevirtual 182, 3) := by decide +kernel
theorem dX5_works_86 : decode cX5_works 86 = .ok (.return_, 1) := by decide +kernel
theorem dX5_minute_0 : decode cX5_minute 0 = .ok (.aload_n 0, 1) := by decide +kernel
theorem dX5_minute_1 : decode cX5_minute 1 = .ok (.iconst 0, 1) := by decide +kernel
theorem dX5_minute_2 : decode cX5_minute 2 = .ok (.putfield 92, 3) := by decide +kernel
theorem dX5_minute_5 : decode cX5_minute 5 = .ok (.aload_n 0, 1) := by decide +kernel
theorem dX5_minute_6 : decode cX5_minute 6 = .ok (.getfield 141, 3) := by decide +kernel
theorem dX5_minute_9 : decode cX5_minute 9 = .ok (.ireturn, 1) := by decide +kernel
set_option maxRecDepth 20000 in
theorem ggX5_state_X5_isRoom : GoodIn wsX5_state wsX5_isRoom := goodIn_r _ [9, 10, 11, 12, 8, 13, 25, 26, 27, 28, 29, 30, 31, 32, 33, 34, 35, 36, 37, 38, 39, 40, 41, 42, 43, 44, 45, 46, 47, 48, 49, 50, 51, 52, 53, 54, 55, 56, 57] (by decide +kernel) (by decide +kernel)
set_option maxRecDepth 20000 in
theorem gX5_state_X5_isRoom : GoodIn wsX5_state (wsV RX5 123 RX5 yX5_isRoom wsX5_isRoom) := goodIn_app (goodIn_of _ (by decide +kernel)) ggX5_state_X5_isRoom
set_option maxRecDepth 20000 in
theorem ggX5_state_X5_in : GoodIn wsX5_state wsX5_in := goodIn_r _ [13] (by decide +kernel) (by decide +kernel)
set_option maxRecDepth 20000 in
theorem gX5_state_X5_in : GoodIn wsX5_state (va_wsS RX5 99 yX5_in wsX5_in) := goodIn_app (goodIn_of _ (by decide +kernel)) ggX5_state_X5_in
set_option maxRecDepth 20000 in
theorem ggX5_state_X5_refused : GoodIn wsX5_state wsX5_refused := goodIn_r _ [17, 18, 25, 26, 27, 28, 29, 30, 31, 32, 33, 34, 35, 36, 37, 38, 39, 40, 41, 42, 43, 44, 45, 46, 47, 48, 49, 50, 51, 52, 53, 54, 55, 56, 57] (by decide +kernel) (by decide +kernel)
set_option maxRecDepth 20000 in
theorem gX5_state_X5_refused : GoodIn wsX5_state (wsV RX5 120 RX5 yX5_refused wsX5_refused) := goodIn_app (goodIn_of _ (by decide +kernel)) ggX5_state_X5_refused
set_option maxRecDepth 20000 in
theorem ggX5_state_X5_gapOf : GoodIn wsX5_state wsX5_gapOf := goodIn_r _ [22, 23, 24, 25, 26, 27, 28, 29, 30, 31, 32, 33, 34, 35, 36, 37, 38, 39, 40, 41, 42, 43, 44, 45, 46, 47, 48, 49, 50, 51, 52, 53, 54, 55, 56, 57] (by decide +kernel) (by decide +kernel)
set_option maxRecDepth 20000 in
theorem gX5_state_X5_gapOf : GoodIn wsX5_state (wsV RX5 144 RX5 yX5_gapOf wsX5_gapOf) := goodIn_app (goodIn_of _ (by decide +kernel)) ggX5_state_X5_gapOf
theorem dX5_state_0 : decode cX5_state 0 = .ok (.aload_n 0, 1) := by decide +kernel
theorem dX5_state_1 : decode cX5_state 1 = .ok (.aload_n 0, 1) := by decide +kernel
theorem dX5_state_2 : decode cX5_state 2 = .ok (.iload_n 1, 1) := by decide +kernel
theorem dX5_state_3 : decode cX5_state 3 = .ok (.invokevirtual 123, 3) := by decide +kernel
theorem dX5_state_6 : decode cX5_state 6 = .ok (.ifCond .ne 7, 3) := by decide +kernel
theorem dX5_state_9 : decode cX5_state 9 = .ok (.iconst 1, 1) := by decide +kernel
theorem dX5_state_10 : decode cX5_state 10 = .ok (.goto 17, 3) := by decide +kernel
theorem dX5_state_13 : decode cX5_state 13 = .ok (.iload_n 2, 1) := by decide +kernel
theorem dX5_state_14 : decode cX5_state 14 = .ok (.iconst 0, 1) := by decide +kernel
theorem dX5_state_15 : decode cX5_state 15 = .ok (.iconst 4, 1) := by decide +kernel
theorem dX5_state_16 : decode cX5_state 16 = .ok (.invokestatic 99, 3) := by decide +kernel
theorem dX5_state_19 : decode cX5_state 19 = .ok (.ifCond .ne 7, 3) := by decide +kernel
theorem dX5_state_22 : decode cX5_state 22 = .ok (.iconst 2, 1) := by decide +kernel
theorem dX5_state_23 : decode cX5_state 23 = .ok (.goto 4, 3) := by decide +kernel
theorem dX5_state_26 : decode cX5_state 26 = .ok (.iconst 0, 1) := by decide +kernel
theorem dX5_state_27 : decode cX5_state 27 = .ok (.invokevirtual 120, 3) := by decide +kernel
theorem dX5_state_30 : decode cX5_state 30 = .ok (.ifCond .eq 5, 3) := by decide +kernel
theorem dX5_state_33 : decode cX5_state 33 = .ok (.iconst 0, 1) := by decide +kernel
theorem dX5_state_34 : decode cX5_state 34 = .ok (.ireturn, 1) := by decide +kernel
theorem dX5_state_35 : decode cX5_state 35 = .ok (.iload_n 2, 1) := by decide +kernel
theorem dX5_state_36 : decode cX5_state 36 = .ok (.ifCond .ne 12, 3) := by decide +kernel
theorem dX5_state_39 : decode cX5_state 39 = .ok (.aload_n 0, 1) := by decide +kernel
theorem dX5_state_40 : decode cX5_state 40 = .ok (.getfield 16, 3) := by decide +kernel
theorem dX5_state_43 : decode cX5_state 43 = .ok (.iload_n 1, 1) := by decide +kernel
theorem dX5_state_44 : decode cX5_state 44 = .ok (.iaload, 1) := by decide +kernel
theorem dX5_state_45 : decode cX5_state 45 = .ok (.goto 50, 3) := by decide +kernel
theorem dX5_state_48 : decode cX5_state 48 = .ok (.iload_n 2, 1) := by decide +kernel
theorem dX5_state_49 : decode cX5_state 49 = .ok (.iconst 1, 1) := by decide +kernel
theorem dX5_state_50 : decode cX5_state 50 = .ok (.if_icmp .ne 12, 3) := by decide +kernel
theorem dX5_state_53 : decode cX5_state 53 = .ok (.aload_n 0, 1) := by decide +kernel
theorem dX5_state_54 : decode cX5_state 54 = .ok (.getfield 19, 3) := by decide +kernel
theorem dX5_state_57 : decode cX5_state 57 = .ok (.iload_n 1, 1) := by decide +kernel
theorem dX5_state_58 : decode cX5_state 58 = .ok (.iaload, 1) := by decide +kernel
theorem dX5_state_59 : decode cX5_state 59 = .ok (.goto 36, 3) := by decide +kernel
theorem dX5_state_62 : decode cX5_state 62 = .ok (.iload_n 2, 1) := by decide +kernel
theorem dX5_state_63 : decode cX5_state 63 = .ok (.iconst 2, 1) := by decide +kernel
theorem dX5_state_64 : decode cX5_state 64 = .ok (.if_icmp .ne 12, 3) := by decide +kernel
theorem dX5_state_67 : decode cX5_state 67 = .ok (.aload_n 0, 1) := by decide +kernel
theorem dX5_state_68 : decode cX5_state 68 = .ok (.getfield 22, 3) := by decide +kernel
theorem dX5_state_71 : decode cX5_state 71 = .ok (.iload_n 1, 1) := by decide +kernel
theorem dX5_state_72 : decode cX5_state 72 = .ok (.iaload, 1) := by decide +kernel
theorem dX5_state_73 : decode cX5_state 73 = .ok (.goto 22, 3) := by decide +kernel
theorem dX5_state_76 : decode cX5_state 76 = .ok (.iload_n 2, 1) := by decide +kernel
theorem dX5_state_77 : decode cX5_state 77 = .ok (.iconst 3, 1) := by decide +kernel
theorem dX5_state_78 : decode cX5_state 78 = .ok (.if_icmp .ne 12, 3) := by decide +kernel
theorem dX5_state_81 : decode cX5_state 81 = .ok (.aload_n 0, 1) := by decide +kernel
theorem dX5_state_82 : decode cX5_state 82 = .ok (.getfield 25, 3) := by decide +kernel
theorem dX5_state_85 : decode cX5_state 85 = .ok (.iload_n 1, 1) := by decide +kernel
theorem dX5_state_86 : decode cX5_state 86 = .ok (.iaload, 1) := by decide +kernel
theorem dX5_state_87 : decode cX5_state 87 = .ok (.goto 8, 3) := by decide +kernel
theorem dX5_state_90 : decode cX5_state 90 = .ok (.aload_n 0, 1) := by decide +kernel
theorem dX5_state_91 : decode cX5_state 91 = .ok (.iload_n 1, 1) := by decide +kernel
theorem dX5_state_92 : decode cX5_state 92 = .ok (.invokevirtual 144, 3) := by decide +kernel
theorem dX5_state_95 : decode cX5_state 95 = .ok (.ireturn, 1) := by decide +kernel
set_option maxRecDepth 20000 in
theorem ggX5_group_X5_isGroup : GoodIn wsX5_group wsX5_isGroup := goodIn_r _ [10, 11, 12, 13, 9, 14, 27, 28, 29, 30, 31, 32, 33, 34, 35, 36, 37, 38, 39, 40, 41, 42, 43, 44, 45, 46, 47, 48, 49, 50, 51, 52, 53, 54, 55, 56, 57, 58, 59] (by decide +kernel) (by decide +kernel)
set_option maxRecDepth 20000 in
theorem gX5_group_X5_isGroup : GoodIn wsX5_group (wsV RX5 153 RX5 yX5_isGroup wsX5_isGroup) := goodIn_app (goodIn_of _ (by decide +kernel)) ggX5_group_X5_isGroup
set_option maxRecDepth 20000 in
theorem ggX5_group_X5_in : GoodIn wsX5_group wsX5_in := goodIn_r _ [14] (by decide +kernel) (by decide +kernel)
set_option maxRecDepth 20000 in
theorem gX5_group_X5_in : GoodIn wsX5_group (va_wsS RX5 99 yX5_in wsX5_in) := goodIn_app (goodIn_of _ (by decide +kernel)) ggX5_group_X5_in
set_option maxRecDepth 20000 in
theorem ggX5_group_X5_refused : GoodIn wsX5_group wsX5_refused := goodIn_r _ [18, 19, 27, 28, 29, 30, 31, 32, 33, 34, 35, 36, 37, 38, 39, 40, 41, 42, 43, 44, 45, 46, 47, 48, 49, 50, 51, 52, 53, 54, 55, 56, 57, 58, 59] (by decide +kernel) (by decide +kernel)
set_option maxRecDepth 20000 in
theorem gX5_group_X5_refused : GoodIn wsX5_group (wsV RX5 120 RX5 yX5_refused wsX5_refused) := goodIn_app (goodIn_of _ (by decide +kernel)) ggX5_group_X5_refused
set_option maxRecDepth 20000 in
theorem ggX5_group_X5_left : GoodIn wsX5_group wsX5_left := goodIn_r _ [23, 24, 25, 26, 27, 28, 29, 30, 31, 32, 33, 34, 35, 36, 37, 38, 39, 40, 41, 42, 43, 44, 45, 46, 47, 48, 49, 50, 51, 52, 53, 54, 55, 56, 57, 58, 59] (by decide +kernel) (by decide +kernel)
set_option maxRecDepth 20000 in
theorem gX5_group_X5_left : GoodIn wsX5_group (wsV RX5 169 RX5 yX5_left wsX5_left) := goodIn_app (goodIn_of _ (by decide +kernel)) ggX5_group_X5_left
theorem dX5_group_0 : decode cX5_group 0 = .ok (.aload_n 0, 1) := by decide +kernel
theorem dX5_group_1 : decode cX5_group 1 = .ok (.aload_n 0, 1) := by decide +kernel
theorem dX5_group_2 : decode cX5_group 2 = .ok (.iload_n 1, 1) := by decide +kernel
theorem dX5_group_3 : decode cX5_group 3 = .ok (.invokevirtual 153, 3) := by decide +kernel
theorem dX5_group_6 : decode cX5_group 6 = .ok (.ifCond .ne 7, 3) := by decide +kernel
theorem dX5_group_9 : decode cX5_group 9 = .ok (.iconst 1, 1) := by decide +kernel
theorem dX5_group_10 : decode cX5_group 10 = .ok (.goto 17, 3) := by decide +kernel
theorem dX5_group_13 : decode cX5_group 13 = .ok (.iload_n 2, 1) := by decide +kernel
theorem dX5_group_14 : decode cX5_group 14 = .ok (.iconst 0, 1) := by decide +kernel
theorem dX5_group_15 : decode cX5_group 15 = .ok (.iconst 5, 1) := by decide +kernel
theorem dX5_group_16 : decode cX5_group 16 = .ok (.invokestatic 99, 3) := by decide +kernel
theorem dX5_group_19 : decode cX5_group 19 = .ok (.ifCond .ne 7, 3) := by decide +kernel
theorem dX5_group_22 : decode cX5_group 22 = .ok (.iconst 2, 1) := by decide +kernel
theorem dX5_group_23 : decode cX5_group 23 = .ok (.goto 4, 3) := by decide +kernel
theorem dX5_group_26 : decode cX5_group 26 = .ok (.iconst 0, 1) := by decide +kernel
theorem dX5_group_27 : decode cX5_group 27 = .ok (.invokevirtual 120, 3) := by decide +kernel
theorem dX5_group_30 : decode cX5_group 30 = .ok (.ifCond .eq 5, 3) := by decide +kernel
theorem dX5_group_33 : decode cX5_group 33 = .ok (.iconst 0, 1) := by decide +kernel
theorem dX5_group_34 : decode cX5_group 34 = .ok (.ireturn, 1) := by decide +kernel
theorem dX5_group_35 : decode cX5_group 35 = .ok (.iload_n 2, 1) := by decide +kernel
theorem dX5_group_36 : decode cX5_group 36 = .ok (.tableswitch 83 0 4 #[36, 43, 50, 57, 64], 36) := by decide +kernel
theorem dX5_group_72 : decode cX5_group 72 = .ok (.aload_n 0, 1) := by decide +kernel
theorem dX5_group_73 : decode cX5_group 73 = .ok (.getfield 40, 3) := by decide +kernel
theorem dX5_group_76 : decode cX5_group 76 = .ok (.iload_n 1, 1) := by decide +kernel
theorem dX5_group_77 : decode cX5_group 77 = .ok (.iaload, 1) := by decide +kernel
theorem dX5_group_78 : decode cX5_group 78 = .ok (.ireturn, 1) := by decide +kernel
theorem dX5_group_79 : decode cX5_group 79 = .ok (.aload_n 0, 1) := by decide +kernel
theorem dX5_group_80 : decode cX5_group 80 = .ok (.getfield 43, 3) := by decide +kernel
theorem dX5_group_83 : decode cX5_group 83 = .ok (.iload_n 1, 1) := by decide +kernel
theorem dX5_group_84 : decode cX5_group 84 = .ok (.iaload, 1) := by decide +kernel
theorem dX5_group_85 : decode cX5_group 85 = .ok (.ireturn, 1) := by decide +kernel
theorem dX5_group_86 : decode cX5_group 86 = .ok (.aload_n 0, 1) := by decide +kernel
theorem dX5_group_87 : decode cX5_group 87 = .ok (.getfield 46, 3) := by decide +kernel
theorem dX5_group_90 : decode cX5_group 90 = .ok (.iload_n 1, 1) := by decide +kernel
theorem dX5_group_91 : decode cX5_group 91 = .ok (.iaload, 1) := by decide +kernel
theorem dX5_group_92 : decode cX5_group 92 = .ok (.ireturn, 1) := by decide +kernel
theorem dX5_group_93 : decode cX5_group 93 = .ok (.aload_n 0, 1) := by decide +kernel
theorem dX5_group_94 : decode cX5_group 94 = .ok (.getfield 49, 3) := by decide +kernel
theorem dX5_group_97 : decode cX5_group 97 = .ok (.iload_n 1, 1) := by decide +kernel
theorem dX5_group_98 : decode cX5_group 98 = .ok (.iaload, 1) := by decide +kernel
theorem dX5_group_99 : decode cX5_group 99 = .ok (.ireturn, 1) := by decide +kernel
theorem dX5_group_100 : decode cX5_group 100 = .ok (.aload_n 0, 1) := by decide +kernel
theorem dX5_group_101 : decode cX5_group 101 = .ok (.getfield 40, 3) := by decide +kernel
theorem dX5_group_104 : decode cX5_group 104 = .ok (.iload_n 1, 1) := by decide +kernel
theorem dX5_group_105 : decode cX5_group 105 = .ok (.iaload, 1) := by decide +kernel
theorem dX5_group_106 : decode cX5_group 106 = .ok (.ifCond .ne 11, 3) := by decide +kernel
theorem dX5_group_109 : decode cX5_group 109 = .ok (.aload_n 0, 1) := by decide +kernel
theorem dX5_group_110 : decode cX5_group 110 = .ok (.iload_n 1, 1) := by decide +kernel
theorem dX5_group_111 : decode cX5_group 111 = .ok (.invokevirtual 169, 3) := by decide +kernel
theorem dX5_group_114 : decode cX5_group 114 = .ok (.goto 4, 3) := by decide +kernel
theorem dX5_group_117 : decode cX5_group 117 = .ok (.iconst 0, 1) := by decide +kernel
theorem dX5_group_118 : decode cX5_group 118 = .ok (.ireturn, 1) := by decide +kernel
theorem dX5_group_119 : decode cX5_group 119 = .ok (.aload_n 0, 1) := by decide +kernel
theorem dX5_group_120 : decode cX5_group 120 = .ok (.getfield 58, 3) := by decide +kernel
theorem dX5_group_123 : decode cX5_group 123 = .ok (.iload_n 1, 1) := by decide +kernel
theorem dX5_group_124 : decode cX5_group 124 = .ok (.iaload, 1) := by decide +kernel
theorem dX5_group_125 : decode cX5_group 125 = .ok (.ireturn, 1) := by decide +kernel
set_option maxRecDepth 20000 in
theorem ggX5_crew_X5_isCrew : GoodIn wsX5_crew wsX5_isCrew := goodIn_r _ [7, 8, 9, 6, 10] (by decide +kernel) (by decide +kernel)
set_option maxRecDepth 20000 in
theorem gX5_crew_X5_isCrew : GoodIn wsX5_crew (va_wsS RX5 179 yX5_isCrew wsX5_isCrew) := goodIn_app (goodIn_of _ (by decide +kernel)) ggX5_crew_X5_isCrew
set_option maxRecDepth 20000 in
theorem ggX5_crew_X5_in : GoodIn wsX5_crew wsX5_in := goodIn_r _ [10] (by decide +kernel) (by decide +kernel)
set_option maxRecDepth 20000 in
theorem gX5_crew_X5_in : GoodIn wsX5_crew (va_wsS RX5 99 yX5_in wsX5_in) := goodIn_app (goodIn_of _ (by decide +kernel)) ggX5_crew_X5_in
set_option maxRecDepth 20000 in
theorem ggX5_crew_X5_refused : GoodIn wsX5_crew wsX5_refused := goodIn_r _ [14, 15, 16, 17, 18, 19, 20, 21, 22, 23, 24, 25, 26, 27, 28, 29, 30, 31, 32, 33, 34, 35, 36, 37, 38, 39, 40, 41, 42, 43, 44, 45, 46, 47, 48] (by decide +kernel) (by decide +kernel)
set_option maxRecDepth 20000 in
theorem gX5_crew_X5_refused : GoodIn wsX5_crew (wsV RX5 120 RX5 yX5_refused wsX5_refused) := goodIn_app (goodIn_of _ (by decide +kernel)) ggX5_crew_X5_refused
theorem dX5_crew_0 : decode cX5_crew 0 = .ok (.aload_n 0, 1) := by decide +kernel
theorem dX5_crew_1 : decode cX5_crew 1 = .ok (.iload_n 1, 1) := by decide +kernel
theorem dX5_crew_2 : decode cX5_crew 2 = .ok (.invokestatic 179, 3) := by decide +kernel
theorem dX5_crew_5 : decode cX5_crew 5 = .ok (.ifCond .ne 7, 3) := by decide +kernel
theorem dX5_crew_8 : decode cX5_crew 8 = .ok (.iconst 1, 1) := by decide +kernel
theorem dX5_crew_9 : decode cX5_crew 9 = .ok (.goto 17, 3) := by decide +kernel
theorem dX5_crew_12 : decode cX5_crew 12 = .ok (.iload_n 2, 1) := by decide +kernel
theorem dX5_crew_13 : decode cX5_crew 13 = .ok (.iconst 0, 1) := by decide +kernel
theorem dX5_crew_14 : decode cX5_crew 14 = .ok (.iconst 2, 1) := by decide +kernel
theorem dX5_crew_15 : decode cX5_crew 15 = .ok (.invokestatic 99, 3) := by decide +kernel
theorem dX5_crew_18 : decode cX5_crew 18 = .ok (.ifCond .ne 7, 3) := by decide +kernel
theorem dX5_crew_21 : decode cX5_crew 21 = .ok (.iconst 2, 1) := by decide +kernel
theorem dX5_crew_22 : decode cX5_crew 22 = .ok (.goto 4, 3) := by decide +kernel
theorem dX5_crew_25 : decode cX5_crew 25 = .ok (.iconst 0, 1) := by decide +kernel
theorem dX5_crew_26 : decode cX5_crew 26 = .ok (.invokevirtual 120, 3) := by decide +kernel
theorem dX5_crew_29 : decode cX5_crew 29 = .ok (.ifCond .eq 5, 3) := by decide +kernel
theorem dX5_crew_32 : decode cX5_crew 32 = .ok (.iconst 0, 1) := by decide +kernel
theorem dX5_crew_33 : decode cX5_crew 33 = .ok (.ireturn, 1) := by decide +kernel
theorem dX5_crew_34 : decode cX5_crew 34 = .ok (.iload_n 2, 1) := by decide +kernel
theorem dX5_crew_35 : decode cX5_crew 35 = .ok (.ifCond .ne 12, 3) := by decide +kernel
theorem dX5_crew_38 : decode cX5_crew 38 = .ok (.aload_n 0, 1) := by decide +kernel
theorem dX5_crew_39 : decode cX5_crew 39 = .ok (.getfield 64, 3) := by decide +kernel
theorem dX5_crew_42 : decode cX5_crew 42 = .ok (.iload_n 1, 1) := by decide +kernel
theorem dX5_crew_43 : decode cX5_crew 43 = .ok (.iaload, 1) := by decide +kernel
theorem dX5_crew_44 : decode cX5_crew 44 = .ok (.goto 37, 3) := by decide +kernel
theorem dX5_crew_47 : decode cX5_crew 47 = .ok (.iload_n 2, 1) := by decide +kernel
theorem dX5_crew_48 : decode cX5_crew 48 = .ok (.iconst 1, 1) := by decide +kernel
theorem dX5_crew_49 : decode cX5_crew 49 = .ok (.if_icmp .ne 12, 3) := by decide +kernel
theorem dX5_crew_52 : decode cX5_crew 52 = .ok (.aload_n 0, 1) := by decide +kernel
theorem dX5_crew_53 : decode cX5_crew 53 = .ok (.getfield 67, 3) := by decide +kernel
theorem dX5_crew_56 : decode cX5_crew 56 = .ok (.iload_n 1, 1) := by decide +kernel
theorem dX5_crew_57 : decode cX5_crew 57 = .ok (.iaload, 1) := by decide +kernel
theorem dX5_crew_58 : decode cX5_crew 58 = .ok (.goto 23, 3) := by decide +kernel
theorem dX5_crew_61 : decode cX5_crew 61 = .ok (.aload_n 0, 1) := by decide +kernel
theorem dX5_crew_62 : decode cX5_crew 62 = .ok (.getfield 64, 3) := by decide +kernel
theorem dX5_crew_65 : decode cX5_crew 65 = .ok (.iload_n 1, 1) := by decide +kernel
theorem dX5_crew_66 : decode cX5_crew 66 = .ok (.iaload, 1) := by decide +kernel
theorem dX5_crew_67 : decode cX5_crew 67 = .ok (.iconst (-1), 1) := by decide +kernel
theorem dX5_crew_68 : decode cX5_crew 68 = .ok (.if_icmp .ne 7, 3) := by decide +kernel
theorem dX5_crew_71 : decode cX5_crew 71 = .ok (.iconst (-1), 1) := by decide +kernel
theorem dX5_crew_72 : decode cX5_crew 72 = .ok (.goto 9, 3) := by decide +kernel
theorem dX5_crew_75 : decode cX5_crew 75 = .ok (.aload_n 0, 1) := by decide +kernel
theorem dX5_crew_76 : decode cX5_crew 76 = .ok (.getfield 70, 3) := by decide +kernel
theorem dX5_crew_79 : decode cX5_crew 79 = .ok (.iload_n 1, 1) := by decide +kernel
theorem dX5_crew_80 : decode cX5_crew 80 = .ok (.iaload, 1) := by decide +kernel
theorem dX5_crew_81 : decode cX5_crew 81 = .ok (.ireturn, 1) := by decide +kernel
set_option maxRecDepth 20000 in
theorem ggX5_booking_X5_isBooking : GoodIn wsX5_booking wsX5_isBooking := goodIn_r _ [9, 10, 11, 12, 8, 13, 19, 20, 21, 22, 23, 24, 25, 26, 27, 28, 29, 30, 31, 32, 33, 34, 35, 36, 37, 38, 39, 40, 41, 42, 43, 44, 45, 46, 47, 48, 49, 50, 51] (by decide +kernel) (by decide +kernel)
set_option maxRecDepth 20000 in
theorem gX5_booking_X5_isBooking : GoodIn wsX5_booking (wsV RX5 188 RX5 yX5_isBooking wsX5_isBooking) := goodIn_app (goodIn_of _ (by decide +kernel)) ggX5_booking_X5_isBooking
set_option maxRecDepth 20000 in
theorem ggX5_booking_X5_in : GoodIn wsX5_booking wsX5_in := goodIn_r _ [13] (by decide +kernel) (by decide +kernel)
set_option maxRecDepth 20000 in
theorem gX5_booking_X5_in : GoodIn wsX5_booking (va_wsS RX5 99 yX5_in wsX5_in) := goodIn_app (goodIn_of _ (by decide +kernel)) ggX5_booking_X5_in
set_option maxRecDepth 20000 in
theorem ggX5_booking_X5_refused : GoodIn wsX5_booking wsX5_refused := goodIn_r _ [17, 18, 19, 20, 21, 22, 23, 24, 25, 26, 27, 28, 29, 30, 31, 32, 33, 34, 35, 36, 37, 38, 39, 40, 41, 42, 43, 44, 45, 46, 47, 48, 49, 50, 51] (by decide +kernel) (by decide +kernel)
set_option maxRecDepth 20000 in
theorem gX5_booking_X5_refused : GoodIn wsX5_booking (wsV RX5 120 RX5 yX5_refused wsX5_refused) := goodIn_app (goodIn_of _ (by decide +kernel)) ggX5_booking_X5_refused
theorem dX5_booking_0 : decode cX5_booking 0 = .ok (.aload_n 0, 1) := by decide +kernel
theorem dX5_booking_1 : decode cX5_booking 1 = .ok (.aload_n 0, 1) := by decide +kernel
theorem dX5_booking_2 : decode cX5_booking 2 = .ok (.iload_n 1, 1) := by decide +kernel
theorem dX5_booking_3 : decode cX5_booking 3 = .ok (.invokevirtual 188, 3) := by decide +kernel
theorem dX5_booking_6 : decode cX5_booking 6 = .ok (.ifCond .ne 7, 3) := by decide +kernel
theorem dX5_booking_9 : decode cX5_booking 9 = .ok (.iconst 1, 1) := by decide +kernel
theorem dX5_booking_10 : decode cX5_booking 10 = .ok (.goto 17, 3) := by decide +kernel
theorem dX5_booking_13 : decode cX5_booking 13 = .ok (.iload_n 2, 1) := by decide +kernel
theorem dX5_booking_14 : decode cX5_booking 14 = .ok (.iconst 0, 1) := by decide +kernel
theorem dX5_booking_15 : decode cX5_booking 15 = .ok (.iconst 3, 1) := by decide +kernel
theorem dX5_booking_16 : decode cX5_booking 16 = .ok (.invokestatic 99, 3) := by decide +kernel
theorem dX5_booking_19 : decode cX5_booking 19 = .ok (.ifCond .ne 7, 3) := by decide +kernel
theorem dX5_booking_22 : decode cX5_booking 22 = .ok (.iconst 2, 1) := by decide +kernel
theorem dX5_booking_23 : decode cX5_booking 23 = .ok (.goto 4, 3) := by decide +kernel
theorem dX5_booking_26 : decode cX5_booking 26 = .ok (.iconst 0, 1) := by decide +kernel
theorem dX5_booking_27 : decode cX5_booking 27 = .ok (.invokevirtual 120, 3) := by decide +kernel
theorem dX5_booking_30 : decode cX5_booking 30 = .ok (.ifCond .eq 5, 3) := by decide +kernel
theorem dX5_booking_33 : decode cX5_booking 33 = .ok (.iconst 0, 1) := by decide +kernel
theorem dX5_booking_34 : decode cX5_booking 34 = .ok (.ireturn, 1) := by decide +kernel
theorem dX5_booking_35 : decode cX5_booking 35 = .ok (.iload_n 2, 1) := by decide +kernel
theorem dX5_booking_36 : decode cX5_booking 36 = .ok (.ifCond .ne 12, 3) := by decide +kernel
theorem dX5_booking_39 : decode cX5_booking 39 = .ok (.aload_n 0, 1) := by decide +kernel
theorem dX5_booking_40 : decode cX5_booking 40 = .ok (.getfield 77, 3) := by decide +kernel
theorem dX5_booking_43 : decode cX5_booking 43 = .ok (.iload_n 1, 1) := by decide +kernel
theorem dX5_booking_44 : decode cX5_booking 44 = .ok (.iaload, 1) := by decide +kernel
theorem dX5_booking_45 : decode cX5_booking 45 = .ok (.goto 37, 3) := by decide +kernel
theorem dX5_booking_48 : decode cX5_booking 48 = .ok (.iload_n 2, 1) := by decide +kernel
theorem dX5_booking_49 : decode cX5_booking 49 = .ok (.iconst 1, 1) := by decide +kernel
theorem dX5_booking_50 : decode cX5_booking 50 = .ok (.if_icmp .ne 12, 3) := by decide +kernel
theorem dX5_booking_53 : decode cX5_booking 53 = .ok (.aload_n 0, 1) := by decide +kernel
theorem dX5_booking_54 : decode cX5_booking 54 = .ok (.getfield 80, 3) := by decide +kernel
theorem dX5_booking_57 : decode cX5_booking 57 = .ok (.iload_n 1, 1) := by decide +kernel
theorem dX5_booking_58 : decode cX5_booking 58 = .ok (.iaload, 1) := by decide +kernel
theorem dX5_booking_59 : decode cX5_booking 59 = .ok (.goto 23, 3) := by decide +kernel
theorem dX5_booking_62 : decode cX5_booking 62 = .ok (.iload_n 2, 1) := by decide +kernel
theorem dX5_booking_63 : decode cX5_booking 63 = .ok (.iconst 2, 1) := by decide +kernel
theorem dX5_booking_64 : decode cX5_booking 64 = .ok (.if_icmp .ne 12, 3) := by decide +kernel
theorem dX5_booking_67 : decode cX5_booking 67 = .ok (.aload_n 0, 1) := by decide +kernel
theorem dX5_booking_68 : decode cX5_booking 68 = .ok (.getfield 83, 3) := by decide +kernel
theorem dX5_booking_71 : decode cX5_booking 71 = .ok (.iload_n 1, 1) := by decide +kernel
theorem dX5_booking_72 : decode cX5_booking 72 = .ok (.iaload, 1) := by decide +kernel
theorem dX5_booking_73 : decode cX5_booking 73 = .ok (.goto 9, 3) := by decide +kernel
theorem dX5_booking_76 : decode cX5_booking 76 = .ok (.aload_n 0, 1) := by decide +kernel
theorem dX5_booking_77 : decode cX5_booking 77 = .ok (.getfield 86, 3) := by decide +kernel
theorem dX5_booking_80 : decode cX5_booking 80 = .ok (.iload_n 1, 1) := by decide +kernel
theorem dX5_booking_81 : decode cX5_booking 81 = .ok (.iaload, 1) := by decide +kernel
theorem dX5_booking_82 : decode cX5_booking 82 = .ok (.ireturn, 1) := by decide +kernel
theorem dJ6_bitCount_0f7a4_0 : decode cJ6_bitCount_0f7a4 0 = .ok (.iload_n 0, 1) := by decide +kernel
theorem dJ6_bitCount_0f7a4_1 : decode cJ6_bitCount_0f7a4 1 = .ok (.iload_n 0, 1) := by decide +kernel
theorem dJ6_bitCount_0f7a4_2 : decode cJ6_bitCount_0f7a4 2 = .ok (.iconst 1, 1) := by decide +kernel
theorem dJ6_bitCount_0f7a4_3 : decode cJ6_bitCount_0f7a4 3 = .ok (.iushr, 1) := by decide +kernel
theorem dJ6_bitCount_0f7a4_4 : decode cJ6_bitCount_0f7a4 4 = .ok (.ldc_w 265, 3) := by decide +kernel
theorem dJ6_bitCount_0f7a4_7 : decode cJ6_bitCount_0f7a4 7 = .ok (.iand, 1) := by decide +kernel
theorem dJ6_bitCount_0f7a4_8 : decode cJ6_bitCount_0f7a4 8 = .ok (.isub, 1) := by decide +kernel
theorem dJ6_bitCount_0f7a4_9 : decode cJ6_bitCount_0f7a4 9 = .ok (.istore_n 0, 1) := by decide +kernel
theorem dJ6_bitCount_0f7a4_10 : decode cJ6_bitCount_0f7a4 10 = .ok (.iload_n 0, 1) := by decide +kernel
theorem dJ6_bitCount_0f7a4_11 : decode cJ6_bitCount_0f7a4 11 = .ok (.ldc_w 266, 3) := by decide +kernel
theorem dJ6_bitCount_0f7a4_14 : decode cJ6_bitCount_0f7a4 14 = .ok (.iand, 1) := by decide +kernel
theorem dJ6_bitCount_0f7a4_15 : decode cJ6_bitCount_0f7a4 15 = .ok (.iload_n 0, 1) := by decide +kernel
theorem dJ6_bitCount_0f7a4_16 : decode cJ6_bitCount_0f7a4 16 = .ok (.iconst 2, 1) := by decide +kernel
theorem dJ6_bitCount_0f7a4_17 : decode cJ6_bitCount_0f7a4 17 = .ok (.iushr, 1) := by decide +kernel
theorem dJ6_bitCount_0f7a4_18 : decode cJ6_bitCount_0f7a4 18 = .ok (.ldc_w 266, 3) := by decide +kernel
theorem dJ6_bitCount_0f7a4_21 : decode cJ6_bitCount_0f7a4 21 = .ok (.iand, 1) := by decide +kernel
theorem dJ6_bitCount_0f7a4_22 : decode cJ6_bitCount_0f7a4 22 = .ok (.iadd, 1) := by decide +kernel
theorem dJ6_bitCount_0f7a4_23 : decode cJ6_bitCount_0f7a4 23 = .ok (.istore_n 0, 1) := by decide +kernel
theorem dJ6_bitCount_0f7a4_24 : decode cJ6_bitCount_0f7a4 24 = .ok (.iload_n 0, 1) := by decide +kernel
theorem dJ6_bitCount_0f7a4_25 : decode cJ6_bitCount_0f7a4 25 = .ok (.iload_n 0, 1) := by decide +kernel
theorem dJ6_bitCount_0f7a4_26 : decode cJ6_bitCount_0f7a4 26 = .ok (.iconst 4, 1) := by decide +kernel
theorem dJ6_bitCount_0f7a4_27 : decode cJ6_bitCount_0f7a4 27 = .ok (.iushr, 1) := by decide +kernel
theorem dJ6_bitCount_0f7a4_28 : decode cJ6_bitCount_0f7a4 28 = .ok (.iadd, 1) := by decide +kernel
theorem dJ6_bitCount_0f7a4_29 : decode cJ6_bitCount_0f7a4 29 = .ok (.ldc_w 267, 3) := by decide +kernel
theorem dJ6_bitCount_0f7a4_32 : decode cJ6_bitCount_0f7a4 32 = .ok (.iand, 1) := by decide +kernel
theorem dJ6_bitCount_0f7a4_33 : decode cJ6_bitCount_0f7a4 33 = .ok (.istore_n 0, 1) := by decide +kernel
theorem dJ6_bitCount_0f7a4_34 : decode cJ6_bitCount_0f7a4 34 = .ok (.iload_n 0, 1) := by decide +kernel
theorem dJ6_bitCount_0f7a4_35 : decode cJ6_bitCount_0f7a4 35 = .ok (.iload_n 0, 1) := by decide +kernel
theorem dJ6_bitCount_0f7a4_36 : decode cJ6_bitCount_0f7a4 36 = .ok (.bipush 8, 2) := by decide +kernel
theorem dJ6_bitCount_0f7a4_38 : decode cJ6_bitCount_0f7a4 38 = .ok (.iushr, 1) := by decide +kernel
theorem dJ6_bitCount_0f7a4_39 : decode cJ6_bitCount_0f7a4 39 = .ok (.iadd, 1) := by decide +kernel
theorem dJ6_bitCount_0f7a4_40 : decode cJ6_bitCount_0f7a4 40 = .ok (.istore_n 0, 1) := by decide +kernel
theorem dJ6_bitCount_0f7a4_41 : decode cJ6_bitCount_0f7a4 41 = .ok (.iload_n 0, 1) := by decide +kernel
theorem dJ6_bitCount_0f7a4_42 : decode cJ6_bitCount_0f7a4 42 = .ok (.iload_n 0, 1) := by decide +kernel
theorem dJ6_bitCount_0f7a4_43 : decode cJ6_bitCount_0f7a4 43 = .ok (.bipush 16, 2) := by decide +kernel
theorem dJ6_bitCount_0f7a4_45 : decode cJ6_bitCount_0f7a4 45 = .ok (.iushr, 1) := by decide +kernel
theorem dJ6_bitCount_0f7a4_46 : decode cJ6_bitCount_0f7a4 46 = .ok (.iadd, 1) := by decide +kernel
theorem dJ6_bitCount_0f7a4_47 : decode cJ6_bitCount_0f7a4 47 = .ok (.istore_n 0, 1) := by decide +kernel
theorem dJ6_bitCount_0f7a4_48 : decode cJ6_bitCount_0f7a4 48 = .ok (.iload_n 0, 1) := by decide +kernel
theorem dJ6_bitCount_0f7a4_49 : decode cJ6_bitCount_0f7a4 49 = .ok (.bipush 63, 2) := by decide +kernel
theorem dJ6_bitCount_0f7a4_51 : decode cJ6_bitCount_0f7a4 51 = .ok (.iand, 1) := by decide +kernel
theorem dJ6_bitCount_0f7a4_52 : decode cJ6_bitCount_0f7a4 52 = .ok (.ireturn, 1) := by decide +kernel
theorem dJ9_abs_0f7a4_0 : decode cJ9_abs_0f7a4 0 = .ok (.iload_n 0, 1) := by decide +kernel
theorem dJ9_abs_0f7a4_1 : decode cJ9_abs_0f7a4 1 = .ok (.ifCond .ge 8, 3) := by decide +kernel
theorem dJ9_abs_0f7a4_4 : decode cJ9_abs_0f7a4 4 = .ok (.iload_n 0, 1) := by decide +kernel
theorem dJ9_abs_0f7a4_5 : decode cJ9_abs_0f7a4 5 = .ok (.ineg, 1) := by decide +kernel
theorem dJ9_abs_0f7a4_6 : decode cJ9_abs_0f7a4 6 = .ok (.goto 4, 3) := by decide +kernel
theorem dJ9_abs_0f7a4_9 : decode cJ9_abs_0f7a4 9 = .ok (.iload_n 0, 1) := by decide +kernel
theorem dJ9_abs_0f7a4_10 : decode cJ9_abs_0f7a4 10 = .ok (.ireturn, 1) := by decide +kernel
theorem dJ9_max_7cf53_0 : decode cJ9_max_7cf53 0 = .ok (.iload_n 0, 1) := by decide +kernel
theorem dJ9_max_7cf53_1 : decode cJ9_max_7cf53 1 = .ok (.iload_n 1, 1) := by decide +kernel
theorem dJ9_max_7cf53_2 : decode cJ9_max_7cf53 2 = .ok (.if_icmp .lt 7, 3) := by decide +kernel
theorem dJ9_max_7cf53_5 : decode cJ9_max_7cf53 5 = .ok (.iload_n 0, 1) := by decide +kernel
theorem dJ9_max_7cf53_6 : decode cJ9_max_7cf53 6 = .ok (.goto 4, 3) := by decide +kernel
theorem dJ9_max_7cf53_9 : decode cJ9_max_7cf53 9 = .ok (.iload_n 1, 1) := by decide +kernel
theorem dJ9_max_7cf53_10 : decode cJ9_max_7cf53 10 = .ok (.ireturn, 1) := by decide +kernel
set_option maxRecDepth 20000 in
theorem ggL_room_X4_room : GoodIn wsL_room wsX4_room := goodIn_ca (goodIn_ca (goodIn_r _ [7, 8, 9, 10, 11, 12, 13, 14, 15, 16, 17, 18, 6, 19, 20, 21, 22, 23, 24, 25, 26, 27, 28, 29, 30, 31, 32, 33, 34, 35, 36, 37, 38, 39, 40, 41, 42, 43, 44, 45, 46, 47, 48, 49, 50, 51, 52, 53, 54, 55, 56, 57] (by decide +kernel) (by decide +kernel)) (goodIn_sub (fun _ h => List.mem_cons_of_mem _ (List.mem_append_left _ (List.mem_append_right _ h))) (by decide +kernel))) (goodIn_sub (fun _ h => List.mem_cons_of_mem _ (List.mem_append_right _ h)) (by decide +kernel))
set_option maxRecDepth 20000 in
theorem gL_room_X4_room : GoodIn wsL_room (wsV RL 7 RX4 yX4_room wsX4_room) := goodIn_app (goodIn_of _ (by decide +kernel)) ggL_room_X4_room
