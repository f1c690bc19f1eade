set_option maxRecDepth 20000 in
theorem ggX0_init_X2_init : GoodIn wsX0_init wsX2_init := goodIn_r _ [9, 10, 2, 3, 11, 12, 13, 14, 15, 16, 17, 18, 19, 20, 21, 22, 23, 24, 25, 26, 27] (by decide +kernel) (by decide +kernel)
set_option maxRecDepth 20000 in
theorem gX0_init_X2_init_n11 : GoodIn wsX0_init (wsX2_init) := ggX0_init_X2_init
theorem dX0_init_0 : decode cX0_init 0 = .ok (.aload_n 0, 1) := by decide +kernel
theorem dX0_init_1 : decode cX0_init 1 = .ok (.invokespecial 3, 3) := by decide +kernel
theorem dX0_init_4 : decode cX0_init 4 = .ok (.aload_n 0, 1) := by decide +kernel
theorem dX0_init_5 : decode cX0_init 5 = .ok (.new 9, 3) := by decide +kernel
theorem dX0_init_8 : decode cX0_init 8 = .ok (.dup, 1) := by decide +kernel
theorem dX0_init_9 : decode cX0_init 9 = .ok (.invokespecial 11, 3) := by decide +kernel
theorem dX0_init_12 : decode cX0_init 12 = .ok (.putfield 12, 3) := by decide +kernel
theorem dX0_init_15 : decode cX0_init 15 = .ok (.return_, 1) := by decide +kernel
theorem dX0_begin_0 : decode cX0_begin 0 = .ok (.aload_n 0, 1) := by decide +kernel
theorem dX0_begin_1 : decode cX0_begin 1 = .ok (.iconst 0, 1) := by decide +kernel
theorem dX0_begin_2 : decode cX0_begin 2 = .ok (.putfield 18, 3) := by decide +kernel
theorem dX0_begin_5 : decode cX0_begin 5 = .ok (.aload_n 0, 1) := by decide +kernel
theorem dX0_begin_6 : decode cX0_begin 6 = .ok (.getfield 12, 3) := by decide +kernel
theorem dX0_begin_9 : decode cX0_begin 9 = .ok (.iconst 0, 1) := by decide +kernel
theorem dX0_begin_10 : decode cX0_begin 10 = .ok (.putfield 22, 3) := by decide +kernel
theorem dX0_begin_13 : decode cX0_begin 13 = .ok (.aload_n 0, 1) := by decide +kernel
theorem dX0_begin_14 : decode cX0_begin 14 = .ok (.getfield 12, 3) := by decide +kernel
theorem dX0_begin_17 : decode cX0_begin 17 = .ok (.iconst 0, 1) := by decide +kernel
theorem dX0_begin_18 : decode cX0_begin 18 = .ok (.putfield 25, 3) := by decide +kernel
theorem dX0_begin_21 : decode cX0_begin 21 = .ok (.return_, 1) := by decide +kernel
theorem dX0_mayEnd_0 : decode cX0_mayEnd 0 = .ok (.aload_n 0, 1) := by decide +kernel
theorem dX0_mayEnd_1 : decode cX0_mayEnd 1 = .ok (.getfield 18, 3) := by decide +kernel
theorem dX0_mayEnd_4 : decode cX0_mayEnd 4 = .ok (.bipush 9, 2) := by decide +kernel
theorem dX0_mayEnd_6 : decode cX0_mayEnd 6 = .ok (.if_icmp .ne 7, 3) := by decide +kernel
theorem dX0_mayEnd_9 : decode cX0_mayEnd 9 = .ok (.iconst 1, 1) := by decide +kernel
theorem dX0_mayEnd_10 : decode cX0_mayEnd 10 = .ok (.goto 4, 3) := by decide +kernel
theorem dX0_mayEnd_13 : decode cX0_mayEnd 13 = .ok (.iconst 0, 1) := by decide +kernel
theorem dX0_mayEnd_14 : decode cX0_mayEnd 14 = .ok (.ireturn, 1) := by decide +kernel
set_option maxRecDepth 20000 in
theorem ggX0_takes_X0_goesOn : GoodIn wsX0_takes wsX0_goesOn := goodIn_r _ [7, 1, 22, 23] (by decide +kernel) (by decide +kernel)
set_option maxRecDepth 20000 in
theorem gX0_takes_X0_goesOn : GoodIn wsX0_takes (wsV RX0 28 RX0 yX0_goesOn wsX0_goesOn) := goodIn_app (goodIn_of _ (by decide +kernel)) ggX0_takes_X0_goesOn
set_option maxRecDepth 20000 in
theorem ggX0_takes_X0_isDigit : GoodIn wsX0_takes wsX0_isDigit := goodIn_r _ [10] (by decide +kernel) (by decide +kernel)
set_option maxRecDepth 20000 in
theorem gX0_takes_X0_isDigit : GoodIn wsX0_takes (va_wsS RX0 35 yX0_isDigit wsX0_isDigit) := goodIn_app (goodIn_of _ (by decide +kernel)) ggX0_takes_X0_isDigit
set_option maxRecDepth 20000 in
theorem ggX0_takes_X0_takesDay : GoodIn wsX0_takes wsX0_takesDay := goodIn_r _ [14, 2, 8, 9, 6, 10, 3, 4, 5, 7, 1, 22, 23, 24, 25, 26, 27, 28, 29, 30, 31, 32, 33] (by decide +kernel) (by decide +kernel)
set_option maxRecDepth 20000 in
theorem gX0_takes_X0_takesDay : GoodIn wsX0_takes (wsV RX0 42 RX0 yX0_takesDay wsX0_takesDay) := goodIn_app (goodIn_of _ (by decide +kernel)) ggX0_takes_X0_takesDay
set_option maxRecDepth 20000 in
theorem ggX0_takes_X0_takesOfPupil : GoodIn wsX0_takes wsX0_takesOfPupil := goodIn_r _ [18, 1, 2, 19, 20, 6, 21, 3, 4, 5, 7, 8, 9, 10, 22, 23, 24, 25, 26, 27, 28, 29, 30, 31, 32, 33] (by decide +kernel) (by decide +kernel)
set_option maxRecDepth 20000 in
theorem gX0_takes_X0_takesOfPupil : GoodIn wsX0_takes (wsV RX0 45 RX0 yX0_takesOfPupil wsX0_takesOfPupil) := goodIn_app (goodIn_of _ (by decide +kernel)) ggX0_takes_X0_takesOfPupil
theorem dX0_takes_0 : decode cX0_takes 0 = .ok (.aload_n 0, 1) := by decide +kernel
theorem dX0_takes_1 : decode cX0_takes 1 = .ok (.getfield 18, 3) := by decide +kernel
theorem dX0_takes_4 : decode cX0_takes 4 = .ok (.tableswitch 202 0 9 #[56, 73, 94, 128, 145, 151, 202, 202, 202, 173], 56) := by decide +kernel
theorem dX0_takes_60 : decode cX0_takes 60 = .ok (.aload_n 0, 1) := by decide +kernel
theorem dX0_takes_61 : decode cX0_takes 61 = .ok (.iload_n 1, 1) := by decide +kernel
theorem dX0_takes_62 : decode cX0_takes 62 = .ok (.bipush 99, 2) := by decide +kernel
theorem dX0_takes_64 : decode cX0_takes 64 = .ok (.if_icmp .ne 7, 3) := by decide +kernel
theorem dX0_takes_67 : decode cX0_takes 67 = .ok (.iconst 1, 1) := by decide +kernel
theorem dX0_takes_68 : decode cX0_takes 68 = .ok (.goto 4, 3) := by decide +kernel
theorem dX0_takes_71 : decode cX0_takes 71 = .ok (.iconst 0, 1) := by decide +kernel
theorem dX0_takes_72 : decode cX0_takes 72 = .ok (.iconst 1, 1) := by decide +kernel
theorem dX0_takes_73 : decode cX0_takes 73 = .ok (.invokevirtual 28, 3) := by decide +kernel
theorem dX0_takes_76 : decode cX0_takes 76 = .ok (.ireturn, 1) := by decide +kernel
theorem dX0_takes_77 : decode cX0_takes 77 = .ok (.aload_n 0, 1) := by decide +kernel
theorem dX0_takes_78 : decode cX0_takes 78 = .ok (.getfield 12, 3) := by decide +kernel
theorem dX0_takes_81 : decode cX0_takes 81 = .ok (.iload_n 1, 1) := by decide +kernel
theorem dX0_takes_82 : decode cX0_takes 82 = .ok (.bipush 48, 2) := by decide +kernel
theorem dX0_takes_84 : decode cX0_takes 84 = .ok (.isub, 1) := by decide +kernel
theorem dX0_takes_85 : decode cX0_takes 85 = .ok (.putfield 32, 3) := by decide +kernel
theorem dX0_takes_88 : decode cX0_takes 88 = .ok (.aload_n 0, 1) := by decide +kernel
theorem dX0_takes_89 : decode cX0_takes 89 = .ok (.iload_n 1, 1) := by decide +kernel
theorem dX0_takes_90 : decode cX0_takes 90 = .ok (.invokestatic 35, 3) := by decide +kernel
theorem dX0_takes_93 : decode cX0_takes 93 = .ok (.iconst 2, 1) := by decide +kernel
theorem dX0_takes_94 : decode cX0_takes 94 = .ok (.invokevirtual 28, 3) := by decide +kernel
theorem dX0_takes_97 : decode cX0_takes 97 = .ok (.ireturn, 1) := by decide +kernel
theorem dX0_takes_98 : decode cX0_takes 98 = .ok (.aload_n 0, 1) := by decide +kernel
theorem dX0_takes_99 : decode cX0_takes 99 = .ok (.getfield 12, 3) := by decide +kernel
theorem dX0_takes_102 : decode cX0_takes 102 = .ok (.iload_n 1, 1) := by decide +kernel
theorem dX0_takes_103 : decode cX0_takes 103 = .ok (.bipush 48, 2) := by decide +kernel
theorem dX0_takes_105 : decode cX0_takes 105 = .ok (.isub, 1) := by decide +kernel
theorem dX0_takes_106 : decode cX0_takes 106 = .ok (.putfield 39, 3) := by decide +kernel
theorem dX0_takes_109 : decode cX0_takes 109 = .ok (.aload_n 0, 1) := by decide +kernel
theorem dX0_takes_110 : decode cX0_takes 110 = .ok (.iload_n 1, 1) := by decide +kernel
theorem dX0_takes_111 : decode cX0_takes 111 = .ok (.bipush 49, 2) := by decide +kernel
theorem dX0_takes_113 : decode cX0_takes 113 = .ok (.if_icmp .lt 13, 3) := by decide +kernel
theorem dX0_takes_116 : decode cX0_takes 116 = .ok (.iload_n 1, 1) := by decide +kernel
theorem dX0_takes_117 : decode cX0_takes 117 = .ok (.bipush 52, 2) := by decide +kernel
theorem dX0_takes_119 : decode cX0_takes 119 = .ok (.if_icmp .gt 7, 3) := by decide +kernel
theorem dX0_takes_122 : decode cX0_takes 122 = .ok (.iconst 1, 1) := by decide +kernel
theorem dX0_takes_123 : decode cX0_takes 123 = .ok (.goto 4, 3) := by decide +kernel
theorem dX0_takes_126 : decode cX0_takes 126 = .ok (.iconst 0, 1) := by decide +kernel
theorem dX0_takes_127 : decode cX0_takes 127 = .ok (.iconst 3, 1) := by decide +kernel
theorem dX0_takes_128 : decode cX0_takes 128 = .ok (.invokevirtual 28, 3) := by decide +kernel
theorem dX0_takes_131 : decode cX0_takes 131 = .ok (.ireturn, 1) := by decide +kernel
theorem dX0_takes_132 : decode cX0_takes 132 = .ok (.aload_n 0, 1) := by decide +kernel
theorem dX0_takes_133 : decode cX0_takes 133 = .ok (.iload_n 1, 1) := by decide +kernel
theorem dX0_takes_134 : decode cX0_takes 134 = .ok (.bipush 44, 2) := by decide +kernel
theorem dX0_takes_136 : decode cX0_takes 136 = .ok (.if_icmp .ne 7, 3) := by decide +kernel
theorem dX0_takes_139 : decode cX0_takes 139 = .ok (.iconst 1, 1) := by decide +kernel
theorem dX0_takes_140 : decode cX0_takes 140 = .ok (.goto 4, 3) := by decide +kernel
theorem dX0_takes_143 : decode cX0_takes 143 = .ok (.iconst 0, 1) := by decide +kernel
theorem dX0_takes_144 : decode cX0_takes 144 = .ok (.iconst 4, 1) := by decide +kernel
theorem dX0_takes_145 : decode cX0_takes 145 = .ok (.invokevirtual 28, 3) := by decide +kernel
theorem dX0_takes_148 : decode cX0_takes 148 = .ok (.ireturn, 1) := by decide +kernel
theorem dX0_takes_149 : decode cX0_takes 149 = .ok (.aload_n 0, 1) := by decide +kernel
theorem dX0_takes_150 : decode cX0_takes 150 = .ok (.iload_n 1, 1) := by decide +kernel
theorem dX0_takes_151 : decode cX0_takes 151 = .ok (.invokevirtual 42, 3) := by decide +kernel
theorem dX0_takes_154 : decode cX0_takes 154 = .ok (.ireturn, 1) := by decide +kernel
theorem dX0_takes_155 : decode cX0_takes 155 = .ok (.iload_n 1, 1) := by decide +kernel
theorem dX0_takes_156 : decode cX0_takes 156 = .ok (.bipush 59, 2) := by decide +kernel
theorem dX0_takes_158 : decode cX0_takes 158 = .ok (.if_icmp .ne 13, 3) := by decide +kernel
theorem dX0_takes_161 : decode cX0_takes 161 = .ok (.aload_n 0, 1) := by decide +kernel
theorem dX0_takes_162 : decode cX0_takes 162 = .ok (.iconst 1, 1) := by decide +kernel
theorem dX0_takes_163 : decode cX0_takes 163 = .ok (.bipush 6, 2) := by decide +kernel
theorem dX0_takes_165 : decode cX0_takes 165 = .ok (.invokevirtual 28, 3) := by decide +kernel
theorem dX0_takes_168 : decode cX0_takes 168 = .ok (.goto 8, 3) := by decide +kernel
theorem dX0_takes_171 : decode cX0_takes 171 = .ok (.aload_n 0, 1) := by decide +kernel
theorem dX0_takes_172 : decode cX0_takes 172 = .ok (.iload_n 1, 1) := by decide +kernel
theorem dX0_takes_173 : decode cX0_takes 173 = .ok (.invokevirtual 42, 3) := by decide +kernel
theorem dX0_takes_176 : decode cX0_takes 176 = .ok (.ireturn, 1) := by decide +kernel
theorem dX0_takes_177 : decode cX0_takes 177 = .ok (.aload_n 0, 1) := by decide +kernel
theorem dX0_takes_178 : decode cX0_takes 178 = .ok (.iload_n 1, 1) := by decide +kernel
theorem dX0_takes_179 : decode cX0_takes 179 = .ok (.bipush 59, 2) := by decide +kernel
theorem dX0_takes_181 : decode cX0_takes 181 = .ok (.if_icmp .ne 18, 3) := by decide +kernel
theorem dX0_takes_184 : decode cX0_takes 184 = .ok (.aload_n 0, 1) := by decide +kernel
theorem dX0_takes_185 : decode cX0_takes 185 = .ok (.getfield 12, 3) := by decide +kernel
theorem dX0_takes_188 : decode cX0_takes 188 = .ok (.getfield 25, 3) := by decide +kernel
theorem dX0_takes_191 : decode cX0_takes 191 = .ok (.iconst 4, 1) := by decide +kernel
theorem dX0_takes_192 : decode cX0_takes 192 = .ok (.if_icmp .ge 7, 3) := by decide +kernel
theorem dX0_takes_195 : decode cX0_takes 195 = .ok (.iconst 1, 1) := by decide +kernel
theorem dX0_takes_196 : decode cX0_takes 196 = .ok (.goto 4, 3) := by decide +kernel
theorem dX0_takes_199 : decode cX0_takes 199 = .ok (.iconst 0, 1) := by decide +kernel
theorem dX0_takes_200 : decode cX0_takes 200 = .ok (.bipush 6, 2) := by decide +kernel
theorem dX0_takes_202 : decode cX0_takes 202 = .ok (.invokevirtual 28, 3) := by decide +kernel
theorem dX0_takes_205 : decode cX0_takes 205 = .ok (.ireturn, 1) := by decide +kernel
theorem dX0_takes_206 : decode cX0_takes 206 = .ok (.aload_n 0, 1) := by decide +kernel
theorem dX0_takes_207 : decode cX0_takes 207 = .ok (.getfield 12, 3) := by decide +kernel
theorem dX0_takes_210 : decode cX0_takes 210 = .ok (.getfield 25, 3) := by decide +kernel
theorem dX0_takes_213 : decode cX0_takes 213 = .ok (.iconst 4, 1) := by decide +kernel
theorem dX0_takes_214 : decode cX0_takes 214 = .ok (.if_icmp .ge 22, 3) := by decide +kernel
theorem dX0_takes_217 : decode cX0_takes 217 = .ok (.aload_n 0, 1) := by decide +kernel
theorem dX0_takes_218 : decode cX0_takes 218 = .ok (.aload_n 0, 1) := by decide +kernel
theorem dX0_takes_219 : decode cX0_takes 219 = .ok (.getfield 12, 3) := by decide +kernel
theorem dX0_takes_222 : decode cX0_takes 222 = .ok (.getfield 25, 3) := by decide +kernel
theorem dX0_takes_225 : decode cX0_takes 225 = .ok (.iload_n 1, 1) := by decide +kernel
theorem dX0_takes_226 : decode cX0_takes 226 = .ok (.invokevirtual 45, 3) := by decide +kernel
theorem dX0_takes_229 : decode cX0_takes 229 = .ok (.ifCond .eq 7, 3) := by decide +kernel
theorem dX0_takes_232 : decode cX0_takes 232 = .ok (.iconst 1, 1) := by decide +kernel
theorem dX0_takes_233 : decode cX0_takes 233 = .ok (.goto 4, 3) := by decide +kernel
theorem dX0_takes_236 : decode cX0_takes 236 = .ok (.iconst 0, 1) := by decide +kernel
theorem dX0_takes_237 : decode cX0_takes 237 = .ok (.ireturn, 1) := by decide +kernel
set_option maxRecDepth 20000 in
theorem ggX0_takesDay_X0_isDigit : GoodIn wsX0_takesDay wsX0_isDigit := goodIn_r _ [5] (by decide +kernel) (by decide +kernel)
set_option maxRecDepth 20000 in
theorem gX0_takesDay_X0_isDigit : GoodIn wsX0_takesDay (va_wsS RX0 35 yX0_isDigit wsX0_isDigit) := goodIn_app (goodIn_of _ (by decide +kernel)) ggX0_takesDay_X0_isDigit
set_option maxRecDepth 20000 in
theorem ggX0_takesDay_X0_goesOn : GoodIn wsX0_takesDay wsX0_goesOn := goodIn_r _ [9, 10, 11, 12] (by decide +kernel) (by decide +kernel)
set_option maxRecDepth 20000 in
theorem gX0_takesDay_X0_goesOn : GoodIn wsX0_takesDay (wsV RX0 28 RX0 yX0_goesOn wsX0_goesOn) := goodIn_app (goodIn_of _ (by decide +kernel)) ggX0_takesDay_X0_goesOn
theorem dX0_takesDay_0 : decode cX0_takesDay 0 = .ok (.iload_n 1, 1) := by decide +kernel
theorem dX0_takesDay_1 : decode cX0_takesDay 1 = .ok (.invokestatic 35, 3) := by decide +kernel
theorem dX0_takesDay_4 : decode cX0_takesDay 4 = .ok (.ifCond .eq 14, 3) := by decide +kernel
theorem dX0_takesDay_7 : decode cX0_takesDay 7 = .ok (.aload_n 0, 1) := by decide +kernel
theorem dX0_takesDay_8 : decode cX0_takesDay 8 = .ok (.getfield 12, 3) := by decide +kernel
theorem dX0_takesDay_11 : decode cX0_takesDay 11 = .ok (.getfield 22, 3) := by decide +kernel
theorem dX0_takesDay_14 : decode cX0_takesDay 14 = .ok (.iconst 5, 1) := by decide +kernel
theorem dX0_takesDay_15 : decode cX0_takesDay 15 = .ok (.if_icmp .lt 5, 3) := by decide +kernel
theorem dX0_takesDay_18 : decode cX0_takesDay 18 = .ok (.iconst 0, 1) := by decide +kernel
theorem dX0_takesDay_19 : decode cX0_takesDay 19 = .ok (.ireturn, 1) := by decide +kernel
theorem dX0_takesDay_20 : decode cX0_takesDay 20 = .ok (.aload_n 0, 1) := by decide +kernel
theorem dX0_takesDay_21 : decode cX0_takesDay 21 = .ok (.getfield 12, 3) := by decide +kernel
theorem dX0_takesDay_24 : decode cX0_takesDay 24 = .ok (.getfield 49, 3) := by decide +kernel
theorem dX0_takesDay_27 : decode cX0_takesDay 27 = .ok (.aload_n 0, 1) := by decide +kernel
theorem dX0_takesDay_28 : decode cX0_takesDay 28 = .ok (.getfield 12, 3) := by decide +kernel
theorem dX0_takesDay_31 : decode cX0_takesDay 31 = .ok (.getfield 22, 3) := by decide +kernel
theorem dX0_takesDay_34 : decode cX0_takesDay 34 = .ok (.iload_n 1, 1) := by decide +kernel
theorem dX0_takesDay_35 : decode cX0_takesDay 35 = .ok (.bipush 48, 2) := by decide +kernel
theorem dX0_takesDay_37 : decode cX0_takesDay 37 = .ok (.isub, 1) := by decide +kernel
theorem dX0_takesDay_38 : decode cX0_takesDay 38 = .ok (.iastore, 1) := by decide +kernel
theorem dX0_takesDay_39 : decode cX0_takesDay 39 = .ok (.aload_n 0, 1) := by decide +kernel
theorem dX0_takesDay_40 : decode cX0_takesDay 40 = .ok (.getfield 12, 3) := by decide +kernel
theorem dX0_takesDay_43 : decode cX0_takesDay 43 = .ok (.dup, 1) := by decide +kernel
theorem dX0_takesDay_44 : decode cX0_takesDay 44 = .ok (.getfield 22, 3) := by decide +kernel
theorem dX0_takesDay_47 : decode cX0_takesDay 47 = .ok (.iconst 1, 1) := by decide +kernel
theorem dX0_takesDay_48 : decode cX0_takesDay 48 = .ok (.iadd, 1) := by decide +kernel
theorem dX0_takesDay_49 : decode cX0_takesDay 49 = .ok (.putfield 22, 3) := by decide +kernel
theorem dX0_takesDay_52 : decode cX0_takesDay 52 = .ok (.aload_n 0, 1) := by decide +kernel
theorem dX0_takesDay_53 : decode cX0_takesDay 53 = .ok (.iconst 1, 1) := by decide +kernel
theorem dX0_takesDay_54 : decode cX0_takesDay 54 = .ok (.iconst 5, 1) := by decide +kernel
theorem dX0_takesDay_55 : decode cX0_takesDay 55 = .ok (.invokevirtual 28, 3) := by decide +kernel
theorem dX0_takesDay_58 : decode cX0_takesDay 58 = .ok (.ireturn, 1) := by decide +kernel
set_option maxRecDepth 20000 in
theorem ggX0_takesOfPupil_X0_kindOfLetter : GoodIn wsX0_takesOfPupil wsX0_kindOfLetter := goodIn_r _ [6] (by decide +kernel) (by decide +kernel)
set_option maxRecDepth 20000 in
theorem gX0_takesOfPupil_X0_kindOfLetter : GoodIn wsX0_takesOfPupil (va_wsS RX0 56 yX0_kindOfLetter wsX0_kindOfLetter) := goodIn_app (goodIn_of _ (by decide +kernel)) ggX0_takesOfPupil_X0_kindOfLetter
set_option maxRecDepth 20000 in
theorem ggX0_takesOfPupil_X0_goesOn : GoodIn wsX0_takesOfPupil wsX0_goesOn := goodIn_r _ [10, 1, 14, 15] (by decide +kernel) (by decide +kernel)
set_option maxRecDepth 20000 in
theorem gX0_takesOfPupil_X0_goesOn : GoodIn wsX0_takesOfPupil (wsV RX0 28 RX0 yX0_goesOn wsX0_goesOn) := goodIn_app (goodIn_of _ (by decide +kernel)) ggX0_takesOfPupil_X0_goesOn
set_option maxRecDepth 20000 in
theorem ggX0_takesOfPupil_X0_isDigit : GoodIn wsX0_takesOfPupil wsX0_isDigit := goodIn_r _ [13] (by decide +kernel) (by decide +kernel)
set_option maxRecDepth 20000 in
theorem gX0_takesOfPupil_X0_isDigit : GoodIn wsX0_takesOfPupil (va_wsS RX0 35 yX0_isDigit wsX0_isDigit) := goodIn_app (goodIn_of _ (by decide +kernel)) ggX0_takesOfPupil_X0_isDigit
theorem dX0_takesOfPupil_0 : decode cX0_takesOfPupil 0 = .ok (.aload_n 0, 1) := by decide +kernel
theorem dX0_takesOfPupil_1 : decode cX0_takesOfPupil 1 = .ok (.getfield 18, 3) := by decide +kernel
theorem dX0_takesOfPupil_4 : decode cX0_takesOfPupil 4 = .ok (.bipush 6, 2) := by decide +kernel
theorem dX0_takesOfPupil_6 : decode cX0_takesOfPupil 6 = .ok (.if_icmp .ne 42, 3) := by decide +kernel
theorem dX0_takesOfPupil_9 : decode cX0_takesOfPupil 9 = .ok (.aload_n 0, 1) := by decide +kernel
theorem dX0_takesOfPupil_10 : decode cX0_takesOfPupil 10 = .ok (.getfield 12, 3) := by decide +kernel
theorem dX0_takesOfPupil_13 : decode cX0_takesOfPupil 13 = .ok (.getfield 53, 3) := by decide +kernel
theorem dX0_takesOfPupil_16 : decode cX0_takesOfPupil 16 = .ok (.iload_n 1, 1) := by decide +kernel
theorem dX0_takesOfPupil_17 : decode cX0_takesOfPupil 17 = .ok (.iload_n 2, 1) := by decide +kernel
theorem dX0_takesOfPupil_18 : decode cX0_takesOfPupil 18 = .ok (.invokestatic 56, 3) := by decide +kernel
theorem dX0_takesOfPupil_21 : decode cX0_takesOfPupil 21 = .ok (.iastore, 1) := by decide +kernel
theorem dX0_takesOfPupil_22 : decode cX0_takesOfPupil 22 = .ok (.aload_n 0, 1) := by decide +kernel
theorem dX0_takesOfPupil_23 : decode cX0_takesOfPupil 23 = .ok (.aload_n 0, 1) := by decide +kernel
theorem dX0_takesOfPupil_24 : decode cX0_takesOfPupil 24 = .ok (.getfield 12, 3) := by decide +kernel
theorem dX0_takesOfPupil_27 : decode cX0_takesOfPupil 27 = .ok (.getfield 53, 3) := by decide +kernel
theorem dX0_takesOfPupil_30 : decode cX0_takesOfPupil 30 = .ok (.iload_n 1, 1) := by decide +kernel
theorem dX0_takesOfPupil_31 : decode cX0_takesOfPupil 31 = .ok (.iaload, 1) := by decide +kernel
theorem dX0_takesOfPupil_32 : decode cX0_takesOfPupil 32 = .ok (.bipush (-9), 2) := by decide +kernel
theorem dX0_takesOfPupil_34 : decode cX0_takesOfPupil 34 = .ok (.if_icmp .eq 7, 3) := by decide +kernel
theorem dX0_takesOfPupil_37 : decode cX0_takesOfPupil 37 = .ok (.iconst 1, 1) := by decide +kernel
theorem dX0_takesOfPupil_38 : decode cX0_takesOfPupil 38 = .ok (.goto 4, 3) := by decide +kernel
theorem dX0_takesOfPupil_41 : decode cX0_takesOfPupil 41 = .ok (.iconst 0, 1) := by decide +kernel
theorem dX0_takesOfPupil_42 : decode cX0_takesOfPupil 42 = .ok (.bipush 7, 2) := by decide +kernel
theorem dX0_takesOfPupil_44 : decode cX0_takesOfPupil 44 = .ok (.invokevirtual 28, 3) := by decide +kernel
theorem dX0_takesOfPupil_47 : decode cX0_takesOfPupil 47 = .ok (.ireturn, 1) := by decide +kernel
theorem dX0_takesOfPupil_48 : decode cX0_takesOfPupil 48 = .ok (.iload_n 2, 1) := by decide +kernel
theorem dX0_takesOfPupil_49 : decode cX0_takesOfPupil 49 = .ok (.invokestatic 35, 3) := by decide +kernel
theorem dX0_takesOfPupil_52 : decode cX0_takesOfPupil 52 = .ok (.ifCond .ne 5, 3) := by decide +kernel
theorem dX0_takesOfPupil_55 : decode cX0_takesOfPupil 55 = .ok (.iconst 0, 1) := by decide +kernel
theorem dX0_takesOfPupil_56 : decode cX0_takesOfPupil 56 = .ok (.ireturn, 1) := by decide +kernel
theorem dX0_takesOfPupil_57 : decode cX0_takesOfPupil 57 = .ok (.aload_n 0, 1) := by decide +kernel
theorem dX0_takesOfPupil_58 : decode cX0_takesOfPupil 58 = .ok (.getfield 18, 3) := by decide +kernel
theorem dX0_takesOfPupil_61 : decode cX0_takesOfPupil 61 = .ok (.bipush 7, 2) := by decide +kernel
theorem dX0_takesOfPupil_63 : decode cX0_takesOfPupil 63 = .ok (.if_icmp .ne 24, 3) := by decide +kernel
theorem dX0_takesOfPupil_66 : decode cX0_takesOfPupil 66 = .ok (.aload_n 0, 1) := by decide +kernel
theorem dX0_takesOfPupil_67 : decode cX0_takesOfPupil 67 = .ok (.getfield 12, 3) := by decide +kernel
theorem dX0_takesOfPupil_70 : decode cX0_takesOfPupil 70 = .ok (.getfield 60, 3) := by decide +kernel
theorem dX0_takesOfPupil_73 : decode cX0_takesOfPupil 73 = .ok (.iload_n 1, 1) := by decide +kernel
theorem dX0_takesOfPupil_74 : decode cX0_takesOfPupil 74 = .ok (.iload_n 2, 1) := by decide +kernel
theorem dX0_takesOfPupil_75 : decode cX0_takesOfPupil 75 = .ok (.bipush 48, 2) := by decide +kernel
theorem dX0_takesOfPupil_77 : decode cX0_takesOfPupil 77 = .ok (.isub, 1) := by decide +kernel
theorem dX0_takesOfPupil_78 : decode cX0_takesOfPupil 78 = .ok (.iastore, 1) := by decide +kernel
theorem dX0_takesOfPupil_79 : decode cX0_takesOfPupil 79 = .ok (.aload_n 0, 1) := by decide +kernel
theorem dX0_takesOfPupil_80 : decode cX0_takesOfPupil 80 = .ok (.iconst 1, 1) := by decide +kernel
theorem dX0_takesOfPupil_81 : decode cX0_takesOfPupil 81 = .ok (.bipush 8, 2) := by decide +kernel
theorem dX0_takesOfPupil_83 : decode cX0_takesOfPupil 83 = .ok (.invokevirtual 28, 3) := by decide +kernel
theorem dX0_takesOfPupil_86 : decode cX0_takesOfPupil 86 = .ok (.ireturn, 1) := by decide +kernel
theorem dX0_takesOfPupil_87 : decode cX0_takesOfPupil 87 = .ok (.aload_n 0, 1) := by decide +kernel
theorem dX0_takesOfPupil_88 : decode cX0_takesOfPupil 88 = .ok (.getfield 12, 3) := by decide +kernel
theorem dX0_takesOfPupil_91 : decode cX0_takesOfPupil 91 = .ok (.getfield 63, 3) := by decide +kernel
theorem dX0_takesOfPupil_94 : decode cX0_takesOfPupil 94 = .ok (.iload_n 1, 1) := by decide +kernel
theorem dX0_takesOfPupil_95 : decode cX0_takesOfPupil 95 = .ok (.iload_n 2, 1) := by decide +kernel
theorem dX0_takesOfPupil_96 : decode cX0_takesOfPupil 96 = .ok (.bipush 48, 2) := by decide +kernel
theorem dX0_takesOfPupil_98 : decode cX0_takesOfPupil 98 = .ok (.isub, 1) := by decide +kernel
theorem dX0_takesOfPupil_99 : decode cX0_takesOfPupil 99 = .ok (.iastore, 1) := by decide +kernel
theorem dX0_takesOfPupil_100 : decode cX0_takesOfPupil 100 = .ok (.aload_n 0, 1) := by decide +kernel
theorem dX0_takesOfPupil_101 : decode cX0_takesOfPupil 101 = .ok (.getfield 12, 3) := by decide +kernel
theorem dX0_takesOfPupil_104 : decode cX0_takesOfPupil 104 = .ok (.dup, 1) := by decide +kernel
theorem dX0_takesOfPupil_105 : decode cX0_takesOfPupil 105 = .ok (.getfield 25, 3) := by decide +kernel
theorem dX0_takesOfPupil_108 : decode cX0_takesOfPupil 108 = .ok (.iconst 1, 1) := by decide +kernel
theorem dX0_takesOfPupil_109 : decode cX0_takesOfPupil 109 = .ok (.iadd, 1) := by decide +kernel
theorem dX0_takesOfPupil_110 : decode cX0_takesOfPupil 110 = .ok (.putfield 25, 3) := by decide +kernel
theorem dX0_takesOfPupil_113 : decode cX0_takesOfPupil 113 = .ok (.aload_n 0, 1) := by decide +kernel
theorem dX0_takesOfPupil_114 : decode cX0_takesOfPupil 114 = .ok (.iconst 1, 1) := by decide +kernel
theorem dX0_takesOfPupil_115 : decode cX0_takesOfPupil 115 = .ok (.bipush 9, 2) := by decide +kernel
theorem dX0_takesOfPupil_117 : decode cX0_takesOfPupil 117 = .ok (.invokevirtual 28, 3) := by decide +kernel
theorem dX0_takesOfPupil_120 : decode cX0_takesOfPupil 120 = .ok (.ireturn, 1) := by decide +kernel
theorem dX0_goesOn_0 : decode cX0_goesOn 0 = .ok (.iload_n 1, 1) := by decide +kernel
theorem dX0_goesOn_1 : decode cX0_goesOn 1 = .ok (.ifCond .eq 8, 3) := by decide +kernel
theorem dX0_goesOn_4 : decode cX0_goesOn 4 = .ok (.aload_n 0, 1) := by decide +kernel
theorem dX0_goesOn_5 : decode cX0_goesOn 5 = .ok (.iload_n 2, 1) := by decide +kernel
theorem dX0_goesOn_6 : decode cX0_goesOn 6 = .ok (.putfield 18, 3) := by decide +kernel
theorem dX0_goesOn_9 : decode cX0_goesOn 9 = .ok (.iload_n 1, 1) := by decide +kernel
theorem dX0_goesOn_10 : decode cX0_goesOn 10 = .ok (.ireturn, 1) := by decide +kernel
theorem dX0_isDigit_0 : decode cX0_isDigit 0 = .ok (.iload_n 0, 1) := by decide +kernel
theorem dX0_isDigit_1 : decode cX0_isDigit 1 = .ok (.bipush 48, 2) := by decide +kernel
theorem dX0_isDigit_3 : decode cX0_isDigit 3 = .ok (.if_icmp .lt 13, 3) := by decide +kernel
theorem dX0_isDigit_6 : decode cX0_isDigit 6 = .ok (.iload_n 0, 1) := by decide +kernel
theorem dX0_isDigit_7 : decode cX0_isDigit 7 = .ok (.bipush 57, 2) := by decide +kernel
theorem dX0_isDigit_9 : decode cX0_isDigit 9 = .ok (.if_icmp .gt 7, 3) := by decide +kernel
theorem dX0_isDigit_12 : decode cX0_isDigit 12 = .ok (.iconst 1, 1) := by decide +kernel
theorem dX0_isDigit_13 : decode cX0_isDigit 13 = .ok (.goto 4, 3) := by decide +kernel
theorem dX0_isDigit_16 : decode cX0_isDigit 16 = .ok (.iconst 0, 1) := by decide +kernel
theorem dX0_isDigit_17 : decode cX0_isDigit 17 = .ok (.ireturn, 1) := by decide +kernel
theorem dX0_kindOfLetter_0 : decode cX0_kindOfLetter 0 = .ok (.iload_n 0, 1) := by decide +kernel
theorem dX0_kindOfLetter_1 : decode cX0_kindOfLetter 1 = .ok (.lookupswitch 41 #[(100, 37), (112, 35), (117, 39)], 35) := by decide +kernel
theorem dX0_kindOfLetter_36 : decode cX0_kindOfLetter 36 = .ok (.iconst 0, 1) := by decide +kernel
theorem dX0_kindOfLetter_37 : decode cX0_kindOfLetter 37 = .ok (.ireturn, 1) := by decide +kernel
theorem dX0_kindOfLetter_38 : decode cX0_kindOfLetter 38 = .ok (.iconst 1, 1) := by decide +kernel
theorem dX0_kindOfLetter_39 : decode cX0_kindOfLetter 39 = .ok (.ireturn, 1) := by decide +kernel
theorem dX0_kindOfLetter_40 : decode cX0_kindOfLetter 40 = .ok (.iconst 2, 1) := by decide +kernel
theorem dX0_kindOfLetter_41 : decode cX0_kindOfLetter 41 = .ok (.ireturn, 1) := by decide +kernel
theorem dX0_kindOfLetter_42 : decode cX0_kindOfLetter 42 = .ok (.bipush (-9), 2) := by decide +kernel
theorem dX0_kindOfLetter_44 : decode cX0_kindOfLetter 44 = .ok (.ireturn, 1) := by decide +kernel
theorem dX1_init_0 : decode cX1_init 0 = .ok (.aload_n 0, 1) := by decide +kernel
theorem dX1_init_1 : decode cX1_init 1 = .ok (.invokespecial 3, 3) := by decide +kernel
theorem dX1_init_4 : decode cX1_init 4 = .ok (.aload_n 0, 1) := by decide +kernel
theorem dX1_init_5 : decode cX1_init 5 = .ok (.bipush 8, 2) := by decide +kernel
theorem dX1_init_7 : decode cX1_init 7 = .ok (.newarray .int, 2) := by decide +kernel
theorem dX1_init_9 : decode cX1_init 9 = .ok (.putfield 9, 3) := by decide +kernel
theorem dX1_init_12 : decode cX1_init 12 = .ok (.aload_n 0, 1) := by decide +kernel
theorem dX1_init_13 : decode cX1_init 13 = .ok (.bipush 8, 2) := by decide +kernel
theorem dX1_init_15 : decode cX1_init 15 = .ok (.newarray .int, 2) := by decide +kernel
theorem dX1_init_17 : decode cX1_init 17 = .ok (.putfield 15, 3) := by decide +kernel
theorem dX1_init_20 : decode cX1_init 20 = .ok (.aload_n 0, 1) := by decide +kernel
theorem dX1_init_21 : decode cX1_init 21 = .ok (.bipush 8, 2) := by decide +kernel
theorem dX1_init_23 : decode cX1_init 23 = .ok (.newarray .int, 2) := by decide +kernel
theorem dX1_init_25 : decode cX1_init 25 = .ok (.putfield 18, 3) := by decide +kernel
theorem dX1_init_28 : decode cX1_init 28 = .ok (.return_, 1) := by decide +kernel
theorem dX1_add_0 : decode cX1_add 0 = .ok (.aload_n 0, 1) := by decide +kernel
theorem dX1_add_1 : decode cX1_add 1 = .ok (.getfield 21, 3) := by decide +kernel
theorem dX1_add_4 : decode cX1_add 4 = .ok (.istore 4, 2) := by decide +kernel
theorem dX1_add_6 : decode cX1_add 6 = .ok (.aload_n 0, 1) := by decide +kernel
theorem dX1_add_7 : decode cX1_add 7 = .ok (.getfield 9, 3) := by decide +kernel
theorem dX1_add_10 : decode cX1_add 10 = .ok (.iload 4, 2) := by decide +kernel
theorem dX1_add_12 : decode cX1_add 12 = .ok (.iload_n 1, 1) := by decide +kernel
theorem dX1_add_13 : decode cX1_add 13 = .ok (.iastore, 1) := by decide +kernel
theorem dX1_add_14 : decode cX1_add 14 = .ok (.aload_n 0, 1) := by decide +kernel
theorem dX1_add_15 : decode cX1_add 15 = .ok (.getfield 15, 3) := by decide +kernel
theorem dX1_add_18 : decode cX1_add 18 = .ok (.iload 4, 2) := by decide +kernel
theorem dX1_add_20 : decode cX1_add 20 = .ok (.iload_n 2, 1) := by decide +kernel
theorem dX1_add_21 : decode cX1_add 21 = .ok (.iastore, 1) := by decide +kernel
theorem dX1_add_22 : decode cX1_add 22 = .ok (.aload_n 0, 1) := by decide +kernel
theorem dX1_add_23 : decode cX1_add 23 = .ok (.getfield 18, 3) := by decide +kernel
theorem dX1_add_26 : decode cX1_add 26 = .ok (.iload 4, 2) := by decide +kernel
theorem dX1_add_28 : decode cX1_add 28 = .ok (.iload_n 3, 1) := by decide +kernel
theorem dX1_add_29 : decode cX1_add 29 = .ok (.iastore, 1) := by decide +kernel
theorem dX1_add_30 : decode cX1_add 30 = .ok (.aload_n 0, 1) := by decide +kernel
theorem dX1_add_31 : decode cX1_add 31 = .ok (.dup, 1) := by decide +kernel
theorem dX1_add_32 : decode cX1_add 32 = .ok (.getfield 21, 3) := by decide +kernel
theorem dX1_add_35 : decode cX1_add 35 = .ok (.iconst 1, 1) := by decide +kernel
theorem dX1_add_36 : decode cX1_add 36 = .ok (.iadd, 1) := by decide +kernel
theorem dX1_add_37 : decode cX1_add 37 = .ok (.putfield 21, 3) := by decide +kernel
theorem dX1_add_40 : decode cX1_add 40 = .ok (.iload 4, 2) := by decide +kernel
theorem dX1_add_42 : decode cX1_add 42 = .ok (.ireturn, 1) := by decide +kernel
theorem dX1_keep_0 : decode cX1_keep 0 = .ok (.aload_n 0, 1) := by decide +kernel
theorem dX1_keep_1 : decode cX1_keep 1 = .ok (.iload_n 1, 1) := by decide +kernel
theorem dX1_keep_2 : decode cX1_keep 2 = .ok (.putfield 21, 3) := by decide +kernel
theorem dX1_keep_5 : decode cX1_keep 5 = .ok (.return_, 1) := by decide +kernel
set_option maxRecDepth 20000 in
theorem ggX1_areSoIn_X2_hoursBehind : GoodIn wsX1_areSoIn wsX2_hoursBehind := goodIn_r _ [9, 10, 11, 12, 8, 13, 14, 15, 16, 17, 18, 19, 20, 21, 22, 23, 28, 29, 30, 31, 32, 33, 34, 35, 36, 37] (by decide +kernel) (by decide +kernel)
set_option maxRecDepth 20000 in
theorem gX1_areSoIn_X2_hoursBehind : GoodIn wsX1_areSoIn (wsV RX1 25 RX2 yX2_hoursBehind wsX2_hoursBehind) := goodIn_app (goodIn_of _ (by decide +kernel)) ggX1_areSoIn_X2_hoursBehind
theorem dX1_areSoIn_0 : decode cX1_areSoIn 0 = .ok (.iconst 0, 1) := by decide +kernel
theorem dX1_areSoIn_1 : decode cX1_areSoIn 1 = .ok (.istore_n 2, 1) := by decide +kernel
theorem dX1_areSoIn_2 : decode cX1_areSoIn 2 = .ok (.iload_n 2, 1) := by decide +kernel
theorem dX1_areSoIn_3 : decode cX1_areSoIn 3 = .ok (.aload_n 0, 1) := by decide +kernel
theorem dX1_areSoIn_4 : decode cX1_areSoIn 4 = .ok (.getfield 21, 3) := by decide +kernel
theorem dX1_areSoIn_7 : decode cX1_areSoIn 7 = .ok (.if_icmp .ge 36, 3) := by decide +kernel
theorem dX1_areSoIn_10 : decode cX1_areSoIn 10 = .ok (.aload_n 1, 1) := by decide +kernel
theorem dX1_areSoIn_11 : decode cX1_areSoIn 11 = .ok (.aload_n 0, 1) := by decide +kernel
theorem dX1_areSoIn_12 : decode cX1_areSoIn 12 = .ok (.getfield 9, 3) := by decide +kernel
theorem dX1_areSoIn_15 : decode cX1_areSoIn 15 = .ok (.iload_n 2, 1) := by decide +kernel
theorem dX1_areSoIn_16 : decode cX1_areSoIn 16 = .ok (.iaload, 1) := by decide +kernel
theorem dX1_areSoIn_17 : decode cX1_areSoIn 17 = .ok (.aload_n 0, 1) := by decide +kernel
theorem dX1_areSoIn_18 : decode cX1_areSoIn 18 = .ok (.getfield 15, 3) := by decide +kernel
theorem dX1_areSoIn_21 : decode cX1_areSoIn 21 = .ok (.iload_n 2, 1) := by decide +kernel
theorem dX1_areSoIn_22 : decode cX1_areSoIn 22 = .ok (.iaload, 1) := by decide +kernel
theorem dX1_areSoIn_23 : decode cX1_areSoIn 23 = .ok (.invokevirtual 25, 3) := by decide +kernel
theorem dX1_areSoIn_26 : decode cX1_areSoIn 26 = .ok (.aload_n 0, 1) := by decide +kernel
theorem dX1_areSoIn_27 : decode cX1_areSoIn 27 = .ok (.getfield 18, 3) := by decide +kernel
theorem dX1_areSoIn_30 : decode cX1_areSoIn 30 = .ok (.iload_n 2, 1) := by decide +kernel
theorem dX1_areSoIn_31 : decode cX1_areSoIn 31 = .ok (.iaload, 1) := by decide +kernel
theorem dX1_areSoIn_32 : decode cX1_areSoIn 32 = .ok (.if_icmp .eq 5, 3) := by decide +kernel
theorem dX1_areSoIn_35 : decode cX1_areSoIn 35 = .ok (.iconst 0, 1) := by decide +kernel
theorem dX1_areSoIn_36 : decode cX1_areSoIn 36 = .ok (.ireturn, 1) := by decide +kernel
theorem dX1_areSoIn_37 : decode cX1_areSoIn 37 = .ok (.iinc 2 1, 3) := by decide +kernel
theorem dX1_areSoIn_40 : decode cX1_areSoIn 40 = .ok (.goto (-38), 3) := by decide +kernel
theorem dX1_areSoIn_43 : decode cX1_areSoIn 43 = .ok (.iconst 1, 1) := by decide +kernel
theorem dX1_areSoIn_44 : decode cX1_areSoIn 44 = .ok (.ireturn, 1) := by decide +kernel
theorem dX2_init_0 : decode cX2_init 0 = .ok (.aload_n 0, 1) := by decide +kernel
theorem dX2_init_1 : decode cX2_init 1 = .ok (.invokespecial 3, 3) := by decide +kernel
theorem dX2_init_4 : decode cX2_init 4 = .ok (.aload_n 0, 1) := by decide +kernel
theorem dX2_init_5 : decode cX2_init 5 = .ok (.iconst 5, 1) := by decide +kernel
theorem dX2_init_6 : decode cX2_init 6 = .ok (.newarray .int, 2) := by decide +kernel
theorem dX2_init_8 : decode cX2_init 8 = .ok (.putfield 9, 3) := by decide +kernel
theorem dX2_init_11 : decode cX2_init 11 = .ok (.aload_n 0, 1) := by decide +kernel
theorem dX2_init_12 : decode cX2_init 12 = .ok (.iconst 4, 1) := by decide +kernel
theorem dX2_init_13 : decode cX2_init 13 = .ok (.newarray .int, 2) := by decide +kernel
theorem dX2_init_15 : decode cX2_init 15 = .ok (.putfield 15, 3) := by decide +kernel
theorem dX2_init_18 : decode cX2_init 18 = .ok (.aload_n 0, 1) := by decide +kernel
theorem dX2_init_19 : decode cX2_init 19 = .ok (.iconst 4, 1) := by decide +kernel
theorem dX2_init_20 : decode cX2_init 20 = .ok (.newarray .int, 2) := by decide +kernel
theorem dX2_init_22 : decode cX2_init 22 = .ok (.putfield 18, 3) := by decide +kernel
theorem dX2_init_25 : decode cX2_init 25 = .ok (.aload_n 0, 1) := by decide +kernel
theorem dX2_init_26 : decode cX2_init 26 = .ok (.iconst 4, 1) := by decide +kernel
theorem dX2_init_27 : decode cX2_init 27 = .ok (.newarray .int, 2) := by decide +kernel
theorem dX2_init_29 : decode cX2_init 29 = .ok (.putfield 21, 3) := by decide +kernel
theorem dX2_init_32 : decode cX2_init 32 = .ok (.aload_n 0, 1) := by decide +kernel
theorem dX2_init_33 : decode cX2_init 33 = .ok (.iconst 4, 1) := by decide +kernel
theorem dX2_init_34 : decode cX2_init 34 = .ok (.newarray .int, 2) := by decide +kernel
theorem dX2_init_36 : decode cX2_init 36 = .ok (.putfield 24, 3) := by decide +kernel
theorem dX2_init_39 : decode cX2_init 39 = .ok (.aload_n 0, 1) := by decide +kernel
theorem dX2_init_40 : decode cX2_init 40 = .ok (.iconst 5, 1) := by decide +kernel
theorem dX2_init_41 : decode cX2_init 41 = .ok (.newarray .int, 2) := by decide +kernel
theorem dX2_init_43 : decode cX2_init 43 = .ok (.putfield 27, 3) := by decide +kernel
theorem dX2_init_46 : decode cX2_init 46 = .ok (.return_, 1) := by decide +kernel
set_option maxRecDepth 20000 in
theorem ggX2_become_J7_fill_53178 : GoodIn wsX2_become wsJ7_fill_53178 := goodIn_r _ [17] (by decide +kernel) (by decide +kernel)
set_option maxRecDepth 20000 in
theorem gX2_become_J7_fill_53178 : GoodIn wsX2_become (va_wsS RX2 49 yJ7_fill_53178 wsJ7_fill_53178) := goodIn_app (goodIn_of _ (by decide +kernel)) ggX2_become_J7_fill_53178
theorem dX2_become_0 : decode cX2_become 0 = .ok (.aload_n 0, 1) := by decide +kernel
theorem dX2_become_1 : decode cX2_become 1 = .ok (.aload_n 1, 1) := by decide +kernel
theorem dX2_become_2 : decode cX2_become 2 = .ok (.getfield 30, 3) := by decide +kernel
theorem dX2_become_5 : decode cX2_become 5 = .ok (.putfield 30, 3) := by decide +kernel
theorem dX2_become_8 : decode cX2_become 8 = .ok (.aload_n 0, 1) := by decide +kernel
theorem dX2_become_9 : decode cX2_become 9 = .ok (.aload_n 1, 1) := by decide +kernel
theorem dX2_become_10 : decode cX2_become 10 = .ok (.getfield 34, 3) := by decide +kernel
theorem dX2_become_13 : decode cX2_become 13 = .ok (.putfield 34, 3) := by decide +kernel
theorem dX2_become_16 : decode cX2_become 16 = .ok (.aload_n 0, 1) := by decide +kernel
theorem dX2_become_17 : decode cX2_become 17 = .ok (.aload_n 1, 1) := by decide +kernel
theorem dX2_become_18 : decode cX2_become 18 = .ok (.getfield 37, 3) := by decide +kernel
theorem dX2_become_21 : decode cX2_become 21 = .ok (.putfield 37, 3) := by decide +kernel
theorem dX2_become_24 : decode cX2_become 24 = .ok (.aload_n 0, 1) := by decide +kernel
theorem dX2_become_25 : decode cX2_become 25 = .ok (.aload_n 1, 1) := by decide +kernel
theorem dX2_become_26 : decode cX2_become 26 = .ok (.getfield 40, 3) := by decide +kernel
theorem dX2_become_29 : decode cX2_become 29 = .ok (.putfield 40, 3) := by decide +kernel
theorem dX2_become_32 : decode cX2_become 32 = .ok (.aload_n 1, 1) := by decide +kernel
theorem dX2_become_33 : decode cX2_become 33 = .ok (.getfield 9, 3) := by decide +kernel
theorem dX2_become_36 : decode cX2_become 36 = .ok (.iconst 0, 1) := by decide +kernel
theorem dX2_become_37 : decode cX2_become 37 = .ok (.aload_n 0, 1) := by decide +kernel
theorem dX2_become_38 : decode cX2_become 38 = .ok (.getfield 9, 3) := by decide +kernel
theorem dX2_become_41 : decode cX2_become 41 = .ok (.iconst 0, 1) := by decide +kernel
theorem dX2_become_42 : decode cX2_become 42 = .ok (.iconst 5, 1) := by decide +kernel
theorem dX2_become_43 : decode cX2_become 43 = .ok (.invokestatic 43, 3) := by decide +kernel
theorem dX2_become_46 : decode cX2_become 46 = .ok (.aload_n 1, 1) := by decide +kernel
theorem dX2_become_47 : decode cX2_become 47 = .ok (.getfield 15, 3) := by decide +kernel
theorem dX2_become_50 : decode cX2_become 50 = .ok (.iconst 0, 1) := by decide +kernel
theorem dX2_become_51 : decode cX2_become 51 = .ok (.aload_n 0, 1) := by decide +kernel
theorem dX2_become_52 : decode cX2_become 52 = .ok (.getfield 15, 3) := by decide +kernel
theorem dX2_become_55 : decode cX2_become 55 = .ok (.iconst 0, 1) := by decide +kernel
theorem dX2_become_56 : decode cX2_become 56 = .ok (.iconst 4, 1) := by decide +kernel
theorem dX2_become_57 : decode cX2_become 57 = .ok (.invokestatic 43, 3) := by decide +kernel
theorem dX2_become_60 : decode cX2_become 60 = .ok (.aload_n 1, 1) := by decide +kernel
theorem dX2_become_61 : decode cX2_become 61 = .ok (.getfield 18, 3) := by decide +kernel
theorem dX2_become_64 : decode cX2_become 64 = .ok (.iconst 0, 1) := by decide +kernel
theorem dX2_become_65 : decode cX2_become 65 = .ok (.aload_n 0, 1) := by decide +kernel
theorem dX2_become_66 : decode cX2_become 66 = .ok (.getfield 18, 3) := by decide +kernel
theorem dX2_become_69 : decode cX2_become 69 = .ok (.iconst 0, 1) := by decide +kernel
theorem dX2_become_70 : decode cX2_become 70 = .ok (.iconst 4, 1) := by decide +kernel
theorem dX2_become_71 : decode cX2_become 71 = .ok (.invokestatic 43, 3) := by decide +kernel
theorem dX2_become_74 : decode cX2_become 74 = .ok (.aload_n 1, 1) := by decide +kernel
theorem dX2_become_75 : decode cX2_become 75 = .ok (.getfield 21, 3) := by decide +kernel
theorem dX2_become_78 : decode cX2_become 78 = .ok (.iconst 0, 1) := by decide +kernel
theorem dX2_become_79 : decode cX2_become 79 = .ok (.aload_n 0, 1) := by decide +kernel
theorem dX2_become_80 : decode cX2_become 80 = .ok (.getfield 21, 3) := by decide +kernel
theorem dX2_become_83 : decode cX2_become 83 = .ok (.iconst 0, 1) := by decide +kernel
theorem dX2_become_84 : decode cX2_become 84 = .ok (.iconst 4, 1) := by decide +kernel
theorem dX2_become_85 : decode cX2_become 85 = .ok (.invokestatic 43, 3) := by decide +kernel
theorem dX2_become_88 : decode cX2_become 88 = .ok (.aload_n 0, 1) := by decide +kernel
theorem dX2_become_89 : decode cX2_become 89 = .ok (.getfield 24, 3) := by decide +kernel
theorem dX2_become_92 : decode cX2_become 92 = .ok (.iconst 0, 1) := by decide +kernel
theorem dX2_become_93 : decode cX2_become 93 = .ok (.invokestatic 49, 3) := by decide +kernel
theorem dX2_become_96 : decode cX2_become 96 = .ok (.return_, 1) := by decide +kernel
theorem dX2_allDays_0 : decode cX2_allDays 0 = .ok (.iconst 1, 1) := by decide +kernel
theorem dX2_allDays_1 : decode cX2_allDays 1 = .ok (.aload_n 0, 1) := by decide +kernel
theorem dX2_allDays_2 : decode cX2_allDays 2 = .ok (.getfield 30, 3) := by decide +kernel
theorem dX2_allDays_5 : decode cX2_allDays 5 = .ok (.ishl, 1) := by decide +kernel
theorem dX2_allDays_6 : decode cX2_allDays 6 = .ok (.iconst 1, 1) := by decide +kernel
theorem dX2_allDays_7 : decode cX2_allDays 7 = .ok (.isub, 1) := by decide +kernel
theorem dX2_allDays_8 : decode cX2_allDays 8 = .ok (.ireturn, 1) := by decide +kernel
theorem dX2_hoursOfDay_0 : decode cX2_hoursOfDay 0 = .ok (.aload_n 0, 1) := by decide +kernel
theorem dX2_hoursOfDay_1 : decode cX2_hoursOfDay 1 = .ok (.getfield 21, 3) := by decide +kernel
theorem dX2_hoursOfDay_4 : decode cX2_hoursOfDay 4 = .ok (.iload_n 1, 1) := by decide +kernel
theorem dX2_hoursOfDay_5 : decode cX2_hoursOfDay 5 = .ok (.iaload, 1) := by decide +kernel
theorem dX2_hoursOfDay_6 : decode cX2_hoursOfDay 6 = .ok (.istore_n 2, 1) := by decide +kernel
theorem dX2_hoursOfDay_7 : decode cX2_hoursOfDay 7 = .ok (.aload_n 0, 1) := by decide +kernel
theorem dX2_hoursOfDay_8 : decode cX2_hoursOfDay 8 = .ok (.getfield 15, 3) := by decide +kernel
theorem dX2_hoursOfDay_11 : decode cX2_hoursOfDay 11 = .ok (.iload_n 1, 1) := by decide +kernel
theorem dX2_hoursOfDay_12 : decode cX2_hoursOfDay 12 = .ok (.iaload, 1) := by decide +kernel
theorem dX2_hoursOfDay_13 : decode cX2_hoursOfDay 13 = .ok (.lookupswitch 39 #[(1, 31), (2, 27)], 27) := by decide +kernel
theorem dX2_hoursOfDay_40 : decode cX2_hoursOfDay 40 = .ok (.iload_n 2, 1) := by decide +kernel
theorem dX2_hoursOfDay_41 : decode cX2_hoursOfDay 41 = .ok (.iconst 2, 1) := by decide +kernel
theorem dX2_hoursOfDay_42 : decode cX2_hoursOfDay 42 = .ok (.idiv, 1) := by decide +kernel
theorem dX2_hoursOfDay_43 : decode cX2_hoursOfDay 43 = .ok (.ireturn, 1) := by decide +kernel
theorem dX2_hoursOfDay_44 : decode cX2_hoursOfDay 44 = .ok (.iload_n 2, 1) := by decide +kernel
theorem dX2_hoursOfDay_45 : decode cX2_hoursOfDay 45 = .ok (.iconst 1, 1) := by decide +kernel
theorem dX2_hoursOfDay_46 : decode cX2_hoursOfDay 46 = .ok (.isub, 1) := by decide +kernel
theorem dX2_hoursOfDay_47 : decode cX2_hoursOfDay 47 = .ok (.iconst 0, 1) := by decide +kernel
theorem dX2_hoursOfDay_48 : decode cX2_hoursOfDay 48 = .ok (.invokestatic 55, 3) := by decide +kernel
theorem dX2_hoursOfDay_51 : decode cX2_hoursOfDay 51 = .ok (.ireturn, 1) := by decide +kernel
theorem dX2_hoursOfDay_52 : decode cX2_hoursOfDay 52 = .ok (.iload_n 2, 1) := by decide +kernel
theorem dX2_hoursOfDay_53 : decode cX2_hoursOfDay 53 = .ok (.ireturn, 1) := by decide +kernel
set_option maxRecDepth 20000 in
theorem ggX2_pretendAllDays_X2_holds : GoodIn wsX2_pretendAllDays wsX2_holds := goodIn_r _ [6] (by decide +kernel) (by decide +kernel)
set_option maxRecDepth 20000 in
theorem gX2_pretendAllDays_X2_holds : GoodIn wsX2_pretendAllDays (va_wsS RX2 61 yX2_holds wsX2_holds) := goodIn_app (goodIn_of _ (by decide +kernel)) ggX2_pretendAllDays_X2_holds
set_option maxRecDepth 20000 in
theorem ggX2_pretendAllDays_X2_allDays : GoodIn wsX2_pretendAllDays wsX2_allDays := goodIn_r _ [10, 11, 12, 13, 14, 15, 16, 17, 18, 19, 20, 21] (by decide +kernel) (by decide +kernel)
set_option maxRecDepth 20000 in
theorem gX2_pretendAllDays_X2_allDays : GoodIn wsX2_pretendAllDays (wsV RX2 65 RX2 yX2_allDays wsX2_allDays) := goodIn_app (goodIn_of _ (by decide +kernel)) ggX2_pretendAllDays_X2_allDays
theorem dX2_pretendAllDays_0 : decode cX2_pretendAllDays 0 = .ok (.iconst 0, 1) := by decide +kernel
theorem dX2_pretendAllDays_1 : decode cX2_pretendAllDays 1 = .ok (.istore_n 2, 1) := by decide +kernel
theorem dX2_pretendAllDays_2 : decode cX2_pretendAllDays 2 = .ok (.iload_n 2, 1) := by decide +kernel
theorem dX2_pretendAllDays_3 : decode cX2_pretendAllDays 3 = .ok (.aload_n 0, 1) := by decide +kernel
theorem dX2_pretendAllDays_4 : decode cX2_pretendAllDays 4 = .ok (.getfield 34, 3) := by decide +kernel
theorem dX2_pretendAllDays_7 : decode cX2_pretendAllDays 7 = .ok (.if_icmp .ge 31, 3) := by decide +kernel
theorem dX2_pretendAllDays_10 : decode cX2_pretendAllDays 10 = .ok (.aload_n 0, 1) := by decide +kernel
theorem dX2_pretendAllDays_11 : decode cX2_pretendAllDays 11 = .ok (.getfield 24, 3) := by decide +kernel
theorem dX2_pretendAllDays_14 : decode cX2_pretendAllDays 14 = .ok (.iload_n 2, 1) := by decide +kernel
theorem dX2_pretendAllDays_15 : decode cX2_pretendAllDays 15 = .ok (.iload_n 1, 1) := by decide +kernel
theorem dX2_pretendAllDays_16 : decode cX2_pretendAllDays 16 = .ok (.iload_n 2, 1) := by decide +kernel
theorem dX2_pretendAllDays_17 : decode cX2_pretendAllDays 17 = .ok (.invokestatic 61, 3) := by decide +kernel
theorem dX2_pretendAllDays_20 : decode cX2_pretendAllDays 20 = .ok (.ifCond .eq 10, 3) := by decide +kernel
theorem dX2_pretendAllDays_23 : decode cX2_pretendAllDays 23 = .ok (.aload_n 0, 1) := by decide +kernel
theorem dX2_pretendAllDays_24 : decode cX2_pretendAllDays 24 = .ok (.invokevirtual 65, 3) := by decide +kernel
theorem dX2_pretendAllDays_27 : decode cX2_pretendAllDays 27 = .ok (.goto 4, 3) := by decide +kernel
theorem dX2_pretendAllDays_30 : decode cX2_pretendAllDays 30 = .ok (.iconst 0, 1) := by decide +kernel
theorem dX2_pretendAllDays_31 : decode cX2_pretendAllDays 31 = .ok (.iastore, 1) := by decide +kernel
theorem dX2_pretendAllDays_32 : decode cX2_pretendAllDays 32 = .ok (.iinc 2 1, 3) := by decide +kernel
theorem dX2_pretendAllDays_35 : decode cX2_pretendAllDays 35 = .ok (.goto (-33), 3) := by decide +kernel
theorem dX2_pretendAllDays_38 : decode cX2_pretendAllDays 38 = .ok (.return_, 1) := by decide +kernel
theorem dX2_wouldStand_0 : decode cX2_wouldStand 0 = .ok (.aload_n 0, 1) := by decide +kernel
theorem dX2_wouldStand_1 : decode cX2_wouldStand 1 = .ok (.getfield 18, 3) := by decide +kernel
theorem dX2_wouldStand_4 : decode cX2_wouldStand 4 = .ok (.iload_n 1, 1) := by decide +kernel
theorem dX2_wouldStand_5 : decode cX2_wouldStand 5 = .ok (.iaload, 1) := by decide +kernel
theorem dX2_wouldStand_6 : decode cX2_wouldStand 6 = .ok (.aload_n 0, 1) := by decide +kernel
theorem dX2_wouldStand_7 : decode cX2_wouldStand 7 = .ok (.getfield 9, 3) := by decide +kernel
theorem dX2_wouldStand_10 : decode cX2_wouldStand 10 = .ok (.iload_n 2, 1) := by decide +kernel
theorem dX2_wouldStand_11 : decode cX2_wouldStand 11 = .ok (.iaload, 1) := by decide +kernel
theorem dX2_wouldStand_12 : decode cX2_wouldStand 12 = .ok (.isub, 1) := by decide +kernel
theorem dX2_wouldStand_13 : decode cX2_wouldStand 13 = .ok (.istore 4, 2) := by decide +kernel
theorem dX2_wouldStand_15 : decode cX2_wouldStand 15 = .ok (.iload 4, 2) := by decide +kernel
theorem dX2_wouldStand_17 : decode cX2_wouldStand 17 = .ok (.ifCond .lt 16, 3) := by decide +kernel
theorem dX2_wouldStand_20 : decode cX2_wouldStand 20 = .ok (.iload_n 3, 1) := by decide +kernel
theorem dX2_wouldStand_21 : decode cX2_wouldStand 21 = .ok (.ifCond .eq 16, 3) := by decide +kernel
theorem dX2_wouldStand_24 : decode cX2_wouldStand 24 = .ok (.iload 4, 2) := by decide +kernel
theorem dX2_wouldStand_26 : decode cX2_wouldStand 26 = .ok (.aload_n 0, 1) := by decide +kernel
theorem dX2_wouldStand_27 : decode cX2_wouldStand 27 = .ok (.getfield 37, 3) := by decide +kernel
theorem dX2_wouldStand_30 : decode cX2_wouldStand 30 = .ok (.if_icmp .ge 7, 3) := by decide +kernel
theorem dX2_wouldStand_33 : decode cX2_wouldStand 33 = .ok (.iconst 1, 1) := by decide +kernel
theorem dX2_wouldStand_34 : decode cX2_wouldStand 34 = .ok (.goto 4, 3) := by decide +kernel
theorem dX2_wouldStand_37 : decode cX2_wouldStand 37 = .ok (.iconst 0, 1) := by decide +kernel
theorem dX2_wouldStand_38 : decode cX2_wouldStand 38 = .ok (.ireturn, 1) := by decide +kernel
set_option maxRecDepth 20000 in
theorem ggX2_whoWouldStand_X2_holds : GoodIn wsX2_whoWouldStand wsX2_holds := goodIn_r _ [6] (by decide +kernel) (by decide +kernel)
set_option maxRecDepth 20000 in
theorem gX2_whoWouldStand_X2_holds : GoodIn wsX2_whoWouldStand (va_wsS RX2 61 yX2_holds wsX2_holds) := goodIn_app (goodIn_of _ (by decide +kernel)) ggX2_whoWouldStand_X2_holds
set_option maxRecDepth 20000 in
theorem ggX2_whoWouldStand_X2_wouldStand : GoodIn wsX2_whoWouldStand wsX2_wouldStand := goodIn_r _ [10, 11, 12, 13, 14, 15, 16, 17, 18, 19, 20, 21, 22, 23] (by decide +kernel) (by decide +kernel)
set_option maxRecDepth 20000 in
theorem gX2_whoWouldStand_X2_wouldStand : GoodIn wsX2_whoWouldStand (wsV RX2 69 RX2 yX2_wouldStand wsX2_wouldStand) := goodIn_app (goodIn_of _ (by decide +kernel)) ggX2_whoWouldStand_X2_wouldStand
theorem dX2_whoWouldStand_0 : decode cX2_whoWouldStand 0 = .ok (.iconst 0, 1) := by decide +kernel
theorem dX2_whoWouldStand_1 : decode cX2_whoWouldStand 1 = .ok (.istore_n 2, 1) := by decide +kernel
theorem dX2_whoWouldStand_2 : decode cX2_whoWouldStand 2 = .ok (.iconst 0, 1) := by decide +kernel
theorem dX2_whoWouldStand_3 : decode cX2_whoWouldStand 3 = .ok (.istore_n 3, 1) := by decide +kernel
theorem dX2_whoWouldStand_4 : decode cX2_whoWouldStand 4 = .ok (.iload_n 3, 1) := by decide +kernel
theorem dX2_whoWouldStand_5 : decode cX2_whoWouldStand 5 = .ok (.aload_n 0, 1) := by decide +kernel
theorem dX2_whoWouldStand_6 : decode cX2_whoWouldStand 6 = .ok (.getfield 34, 3) := by decide +kernel
theorem dX2_whoWouldStand_9 : decode cX2_whoWouldStand 9 = .ok (.if_icmp .ge 34, 3) := by decide +kernel
theorem dX2_whoWouldStand_12 : decode cX2_whoWouldStand 12 = .ok (.aload_n 0, 1) := by decide +kernel
theorem dX2_whoWouldStand_13 : decode cX2_whoWouldStand 13 = .ok (.iload_n 3, 1) := by decide +kernel
theorem dX2_whoWouldStand_14 : decode cX2_whoWouldStand 14 = .ok (.iload_n 1, 1) := by decide +kernel
theorem dX2_whoWouldStand_15 : decode cX2_whoWouldStand 15 = .ok (.aload_n 0, 1) := by decide +kernel
theorem dX2_whoWouldStand_16 : decode cX2_whoWouldStand 16 = .ok (.getfield 24, 3) := by decide +kernel
theorem dX2_whoWouldStand_19 : decode cX2_whoWouldStand 19 = .ok (.iload_n 3, 1) := by decide +kernel
theorem dX2_whoWouldStand_20 : decode cX2_whoWouldStand 20 = .ok (.iaload, 1) := by decide +kernel
theorem dX2_whoWouldStand_21 : decode cX2_whoWouldStand 21 = .ok (.iload_n 1, 1) := by decide +kernel
theorem dX2_whoWouldStand_22 : decode cX2_whoWouldStand 22 = .ok (.invokestatic 61, 3) := by decide +kernel
theorem dX2_whoWouldStand_25 : decode cX2_whoWouldStand 25 = .ok (.invokevirtual 69, 3) := by decide +kernel
theorem dX2_whoWouldStand_28 : decode cX2_whoWouldStand 28 = .ok (.ifCond .eq 9, 3) := by decide +kernel
theorem dX2_whoWouldStand_31 : decode cX2_whoWouldStand 31 = .ok (.iload_n 2, 1) := by decide +kernel
theorem dX2_whoWouldStand_32 : decode cX2_whoWouldStand 32 = .ok (.iconst 1, 1) := by decide +kernel
theorem dX2_whoWouldStand_33 : decode cX2_whoWouldStand 33 = .ok (.iload_n 3, 1) := by decide +kernel
theorem dX2_whoWouldStand_34 : decode cX2_whoWouldStand 34 = .ok (.ishl, 1) := by decide +kernel
theorem dX2_whoWouldStand_35 : decode cX2_whoWouldStand 35 = .ok (.ior, 1) := by decide +kernel
theorem dX2_whoWouldStand_36 : decode cX2_whoWouldStand 36 = .ok (.istore_n 2, 1) := by decide +kernel
theorem dX2_whoWouldStand_37 : decode cX2_whoWouldStand 37 = .ok (.iinc 3 1, 3) := by decide +kernel
theorem dX2_whoWouldStand_40 : decode cX2_whoWouldStand 40 = .ok (.goto (-36), 3) := by decide +kernel
theorem dX2_whoWouldStand_43 : decode cX2_whoWouldStand 43 = .ok (.iload_n 2, 1) := by decide +kernel
theorem dX2_whoWouldStand_44 : decode cX2_whoWouldStand 44 = .ok (.ireturn, 1) := by decide +kernel
set_option maxRecDepth 20000 in
theorem ggX2_whoStands_X2_whoWouldStand : GoodIn wsX2_whoStands wsX2_whoWouldStand := goodIn_r _ [7, 2, 8, 9, 10, 6, 11, 12, 13, 14, 15, 16, 17, 18, 30, 31, 32, 33, 34, 35, 36, 37, 38, 39] (by decide +kernel) (by decide +kernel)
set_option maxRecDepth 20000 in
theorem gX2_whoStands_X2_whoWouldStand : GoodIn wsX2_whoStands (wsV RX2 73 RX2 yX2_whoWouldStand wsX2_whoWouldStand) := goodIn_app (goodIn_of _ (by decide +kernel)) ggX2_whoStands_X2_whoWouldStand
set_option maxRecDepth 20000 in
theorem ggX2_whoStands_J6_bitCount_0f7a4 : GoodIn wsX2_whoStands wsJ6_bitCount_0f7a4 := goodIn_r _ [22, 23, 24, 25] (by decide +kernel) (by decide +kernel)
set_option maxRecDepth 20000 in
theorem gX2_whoStands_J6_bitCount_0f7a4 : GoodIn wsX2_whoStands (va_wsS RX2 77 yJ6_bitCount_0f7a4 wsJ6_bitCount_0f7a4) := goodIn_app (goodIn_of _ (by decide +kernel)) ggX2_whoStands_J6_bitCount_0f7a4
set_option maxRecDepth 20000 in
theorem ggX2_whoStands_X2_holds : GoodIn wsX2_whoStands wsX2_holds := goodIn_r _ [11] (by decide +kernel) (by decide +kernel)
set_option maxRecDepth 20000 in
theorem gX2_whoStands_X2_holds : GoodIn wsX2_whoStands (va_wsS RX2 61 yX2_holds wsX2_holds) := goodIn_app (goodIn_of _ (by decide +kernel)) ggX2_whoStands_X2_holds
set_option maxRecDepth 20000 in
theorem ggX2_whoStands_X2_howManyBefore : GoodIn wsX2_whoStands wsX2_howManyBefore := goodIn_r _ [29, 2, 16, 9, 10, 6, 11, 30, 31, 32, 33, 34, 35, 36, 37, 38, 39] (by decide +kernel) (by decide +kernel)
set_option maxRecDepth 20000 in
theorem gX2_whoStands_X2_howManyBefore : GoodIn wsX2_whoStands (wsV RX2 82 RX2 yX2_howManyBefore wsX2_howManyBefore) := goodIn_app (goodIn_of _ (by decide +kernel)) ggX2_whoStands_X2_howManyBefore
theorem dX2_whoStands_0 : decode cX2_whoStands 0 = .ok (.aload_n 0, 1) := by decide +kernel
theorem dX2_whoStands_1 : decode cX2_whoStands 1 = .ok (.iload_n 1, 1) := by decide +kernel
theorem dX2_whoStands_2 : decode cX2_whoStands 2 = .ok (.invokevirtual 73, 3) := by decide +kernel
theorem dX2_whoStands_5 : decode cX2_whoStands 5 = .ok (.istore_n 2, 1) := by decide +kernel
theorem dX2_whoStands_6 : decode cX2_whoStands 6 = .ok (.iload_n 2, 1) := by decide +kernel
theorem dX2_whoStands_7 : decode cX2_whoStands 7 = .ok (.invokestatic 77, 3) := by decide +kernel
theorem dX2_whoStands_10 : decode cX2_whoStands 10 = .ok (.aload_n 0, 1) := by decide +kernel
theorem dX2_whoStands_11 : decode cX2_whoStands 11 = .ok (.getfield 40, 3) := by decide +kernel
theorem dX2_whoStands_14 : decode cX2_whoStands 14 = .ok (.if_icmp .gt 5, 3) := by decide +kernel
theorem dX2_whoStands_17 : decode cX2_whoStands 17 = .ok (.iload_n 2, 1) := by decide +kernel
theorem dX2_whoStands_18 : decode cX2_whoStands 18 = .ok (.ireturn, 1) := by decide +kernel
theorem dX2_whoStands_19 : decode cX2_whoStands 19 = .ok (.iconst 0, 1) := by decide +kernel
theorem dX2_whoStands_20 : decode cX2_whoStands 20 = .ok (.istore_n 3, 1) := by decide +kernel
theorem dX2_whoStands_21 : decode cX2_whoStands 21 = .ok (.iconst 0, 1) := by decide +kernel
theorem dX2_whoStands_22 : decode cX2_whoStands 22 = .ok (.istore 4, 2) := by decide +kernel
theorem dX2_whoStands_24 : decode cX2_whoStands 24 = .ok (.iload 4, 2) := by decide +kernel
theorem dX2_whoStands_26 : decode cX2_whoStands 26 = .ok (.aload_n 0, 1) := by decide +kernel
theorem dX2_whoStands_27 : decode cX2_whoStands 27 = .ok (.getfield 34, 3) := by decide +kernel
theorem dX2_whoStands_30 : decode cX2_whoStands 30 = .ok (.if_icmp .ge 39, 3) := by decide +kernel
theorem dX2_whoStands_33 : decode cX2_whoStands 33 = .ok (.iload_n 2, 1) := by decide +kernel
theorem dX2_whoStands_34 : decode cX2_whoStands 34 = .ok (.iload 4, 2) := by decide +kernel
theorem dX2_whoStands_36 : decode cX2_whoStands 36 = .ok (.invokestatic 61, 3) := by decide +kernel
theorem dX2_whoStands_39 : decode cX2_whoStands 39 = .ok (.ifCond .eq 24, 3) := by decide +kernel
theorem dX2_whoStands_42 : decode cX2_whoStands 42 = .ok (.aload_n 0, 1) := by decide +kernel
theorem dX2_whoStands_43 : decode cX2_whoStands 43 = .ok (.iload 4, 2) := by decide +kernel
theorem dX2_whoStands_45 : decode cX2_whoStands 45 = .ok (.iload_n 2, 1) := by decide +kernel
theorem dX2_whoStands_46 : decode cX2_whoStands 46 = .ok (.invokevirtual 82, 3) := by decide +kernel
theorem dX2_whoStands_49 : decode cX2_whoStands 49 = .ok (.aload_n 0, 1) := by decide +kernel
theorem dX2_whoStands_50 : decode cX2_whoStands 50 = .ok (.getfield 40, 3) := by decide +kernel
theorem dX2_whoStands_53 : decode cX2_whoStands 53 = .ok (.if_icmp .ge 10, 3) := by decide +kernel
theorem dX2_whoStands_56 : decode cX2_whoStands 56 = .ok (.iload_n 3, 1) := by decide +kernel
theorem dX2_whoStands_57 : decode cX2_whoStands 57 = .ok (.iconst 1, 1) := by decide +kernel
theorem dX2_whoStands_58 : decode cX2_whoStands 58 = .ok (.iload 4, 2) := by decide +kernel
theorem dX2_whoStands_60 : decode cX2_whoStands 60 = .ok (.ishl, 1) := by decide +kernel
theorem dX2_whoStands_61 : decode cX2_whoStands 61 = .ok (.ior, 1) := by decide +kernel
theorem dX2_whoStands_62 : decode cX2_whoStands 62 = .ok (.istore_n 3, 1) := by decide +kernel
theorem dX2_whoStands_63 : decode cX2_whoStands 63 = .ok (.iinc 4 1, 3) := by decide +kernel
theorem dX2_whoStands_66 : decode cX2_whoStands 66 = .ok (.goto (-42), 3) := by decide +kernel
theorem dX2_whoStands_69 : decode cX2_whoStands 69 = .ok (.iload_n 3, 1) := by decide +kernel
theorem dX2_whoStands_70 : decode cX2_whoStands 70 = .ok (.ireturn, 1) := by decide +kernel
set_option maxRecDepth 20000 in
theorem ggX2_howManyBefore_X2_holds : GoodIn wsX2_howManyBefore wsX2_holds := goodIn_r _ [6] (by decide +kernel) (by decide +kernel)
set_option maxRecDepth 20000 in
theorem gX2_howManyBefore_X2_holds : GoodIn wsX2_howManyBefore (va_wsS RX2 61 yX2_holds wsX2_holds) := goodIn_app (goodIn_of _ (by decide +kernel)) ggX2_howManyBefore_X2_holds
theorem dX2_howManyBefore_0 : decode cX2_howManyBefore 0 = .ok (.iconst 0, 1) := by decide +kernel
theorem dX2_howManyBefore_1 : decode cX2_howManyBefore 1 = .ok (.istore_n 3, 1) := by decide +kernel
theorem dX2_howManyBefore_2 : decode cX2_howManyBefore 2 = .ok (.iconst 0, 1) := by decide +kernel
theorem dX2_howManyBefore_3 : decode cX2_howManyBefore 3 = .ok (.istore 4, 2) := by decide +kernel
theorem dX2_howManyBefore_5 : decode cX2_howManyBefore 5 = .ok (.iload 4, 2) := by decide +kernel
theorem dX2_howManyBefore_7 : decode cX2_howManyBefore 7 = .ok (.aload_n 0, 1) := by decide +kernel
theorem dX2_howManyBefore_8 : decode cX2_howManyBefore 8 = .ok (.getfield 34, 3) := by decide +kernel
theorem dX2_howManyBefore_11 : decode cX2_howManyBefore 11 = .ok (.if_icmp .ge 71, 3) := by decide +kernel
theorem dX2_howManyBefore_14 : decode cX2_howManyBefore 14 = .ok (.aload_n 0, 1) := by decide +kernel
theorem dX2_howManyBefore_15 : decode cX2_howManyBefore 15 = .ok (.getfield 18, 3) := by decide +kernel
theorem dX2_howManyBefore_18 : decode cX2_howManyBefore 18 = .ok (.iload 4, 2) := by decide +kernel
theorem dX2_howManyBefore_20 : decode cX2_howManyBefore 20 = .ok (.iaload, 1) := by decide +kernel
theorem dX2_howManyBefore_21 : decode cX2_howManyBefore 21 = .ok (.aload_n 0, 1) := by decide +kernel
theorem dX2_howManyBefore_22 : decode cX2_howManyBefore 22 = .ok (.getfield 18, 3) := by decide +kernel
theorem dX2_howManyBefore_25 : decode cX2_howManyBefore 25 = .ok (.iload_n 1, 1) := by decide +kernel
theorem dX2_howManyBefore_26 : decode cX2_howManyBefore 26 = .ok (.iaload, 1) := by decide +kernel
theorem dX2_howManyBefore_27 : decode cX2_howManyBefore 27 = .ok (.if_icmp .lt 25, 3) := by decide +kernel
theorem dX2_howManyBefore_30 : decode cX2_howManyBefore 30 = .ok (.aload_n 0, 1) := by decide +kernel
theorem dX2_howManyBefore_31 : decode cX2_howManyBefore 31 = .ok (.getfield 18, 3) := by decide +kernel
theorem dX2_howManyBefore_34 : decode cX2_howManyBefore 34 = .ok (.iload 4, 2) := by decide +kernel
theorem dX2_howManyBefore_36 : decode cX2_howManyBefore 36 = .ok (.iaload, 1) := by decide +kernel
theorem dX2_howManyBefore_37 : decode cX2_howManyBefore 37 = .ok (.aload_n 0, 1) := by decide +kernel
theorem dX2_howManyBefore_38 : decode cX2_howManyBefore 38 = .ok (.getfield 18, 3) := by decide +kernel
theorem dX2_howManyBefore_41 : decode cX2_howManyBefore 41 = .ok (.iload_n 1, 1) := by decide +kernel
theorem dX2_howManyBefore_42 : decode cX2_howManyBefore 42 = .ok (.iaload, 1) := by decide +kernel
theorem dX2_howManyBefore_43 : decode cX2_howManyBefore 43 = .ok (.if_icmp .ne 13, 3) := by decide +kernel
theorem dX2_howManyBefore_46 : decode cX2_howManyBefore 46 = .ok (.iload 4, 2) := by decide +kernel
theorem dX2_howManyBefore_48 : decode cX2_howManyBefore 48 = .ok (.iload_n 1, 1) := by decide +kernel
theorem dX2_howManyBefore_49 : decode cX2_howManyBefore 49 = .ok (.if_icmp .ge 7, 3) := by decide +kernel
theorem dX2_howManyBefore_52 : decode cX2_howManyBefore 52 = .ok (.iconst 1, 1) := by decide +kernel
theorem dX2_howManyBefore_53 : decode cX2_howManyBefore 53 = .ok (.goto 4, 3) := by decide +kernel
theorem dX2_howManyBefore_56 : decode cX2_howManyBefore 56 = .ok (.iconst 0, 1) := by decide +kernel
theorem dX2_howManyBefore_57 : decode cX2_howManyBefore 57 = .ok (.istore 5, 2) := by decide +kernel
theorem dX2_howManyBefore_59 : decode cX2_howManyBefore 59 = .ok (.iload 5, 2) := by decide +kernel
theorem dX2_howManyBefore_61 : decode cX2_howManyBefore 61 = .ok (.ifCond .eq 15, 3) := by decide +kernel
theorem dX2_howManyBefore_64 : decode cX2_howManyBefore 64 = .ok (.iload_n 2, 1) := by decide +kernel
theorem dX2_howManyBefore_65 : decode cX2_howManyBefore 65 = .ok (.iload 4, 2) := by decide +kernel
theorem dX2_howManyBefore_67 : decode cX2_howManyBefore 67 = .ok (.invokestatic 61, 3) := by decide +kernel
theorem dX2_howManyBefore_70 : decode cX2_howManyBefore 70 = .ok (.ifCond .eq 6, 3) := by decide +kernel
theorem dX2_howManyBefore_73 : decode cX2_howManyBefore 73 = .ok (.iinc 3 1, 3) := by decide +kernel
theorem dX2_howManyBefore_76 : decode cX2_howManyBefore 76 = .ok (.iinc 4 1, 3) := by decide +kernel
theorem dX2_howManyBefore_79 : decode cX2_howManyBefore 79 = .ok (.goto (-74), 3) := by decide +kernel
theorem dX2_howManyBefore_82 : decode cX2_howManyBefore 82 = .ok (.iload_n 3, 1) := by decide +kernel
theorem dX2_howManyBefore_83 : decode cX2_howManyBefore 83 = .ok (.ireturn, 1) := by decide +kernel
set_option maxRecDepth 20000 in
theorem ggX2_settle_X2_whoStands : GoodIn wsX2_settle wsX2_whoStands := goodIn_r _ [7, 8, 9, 10, 11, 12, 6, 13, 14, 15, 16, 17, 18, 19, 20, 21, 22, 23, 24, 25, 26, 27, 28, 29, 30, 31, 32, 33, 34, 35, 36, 37, 38, 39, 40, 41, 42, 43, 44, 45] (by decide +kernel) (by decide +kernel)
set_option maxRecDepth 20000 in
theorem gX2_settle_X2_whoStands : GoodIn wsX2_settle (wsV RX2 85 RX2 yX2_whoStands wsX2_whoStands) := goodIn_app (goodIn_of _ (by decide +kernel)) ggX2_settle_X2_whoStands
theorem dX2_settle_0 : decode cX2_settle 0 = .ok (.iconst 0, 1) := by decide +kernel
theorem dX2_settle_1 : decode cX2_settle 1 = .ok (.istore_n 1, 1) := by decide +kernel
theorem dX2_settle_2 : decode cX2_settle 2 = .ok (.iload_n 1, 1) := by decide +kernel
theorem dX2_settle_3 : decode cX2_settle 3 = .ok (.aload_n 0, 1) := by decide +kernel
theorem dX2_settle_4 : decode cX2_settle 4 = .ok (.getfield 30, 3) := by decide +kernel
theorem dX2_settle_7 : decode cX2_settle 7 = .ok (.if_icmp .ge 20, 3) := by decide +kernel
theorem dX2_settle_10 : decode cX2_settle 10 = .ok (.aload_n 0, 1) := by decide +kernel
theorem dX2_settle_11 : decode cX2_settle 11 = .ok (.getfield 27, 3) := by decide +kernel
theorem dX2_settle_14 : decode cX2_settle 14 = .ok (.iload_n 1, 1) := by decide +kernel
theorem dX2_settle_15 : decode cX2_settle 15 = .ok (.aload_n 0, 1) := by decide +kernel
theorem dX2_settle_16 : decode cX2_settle 16 = .ok (.iload_n 1, 1) := by decide +kernel
theorem dX2_settle_17 : decode cX2_settle 17 = .ok (.invokevirtual 85, 3) := by decide +kernel
theorem dX2_settle_20 : decode cX2_settle 20 = .ok (.iastore, 1) := by decide +kernel
theorem dX2_settle_21 : decode cX2_settle 21 = .ok (.iinc 1 1, 3) := by decide +kernel
theorem dX2_settle_24 : decode cX2_settle 24 = .ok (.goto (-22), 3) := by decide +kernel
theorem dX2_settle_27 : decode cX2_settle 27 = .ok (.return_, 1) := by decide +kernel
set_option maxRecDepth 20000 in
theorem ggX2_hoursBehind_X2_holds : GoodIn wsX2_hoursBehind wsX2_holds := goodIn_r _ [5] (by decide +kernel) (by decide +kernel)
set_option maxRecDepth 20000 in
theorem gX2_hoursBehind_X2_holds : GoodIn wsX2_hoursBehind (va_wsS RX2 61 yX2_holds wsX2_holds) := goodIn_app (goodIn_of _ (by decide +kernel)) ggX2_hoursBehind_X2_holds
set_option maxRecDepth 20000 in
theorem ggX2_hoursBehind_X2_hoursOfDay : GoodIn wsX2_hoursBehind wsX2_hoursOfDay := goodIn_r _ [9, 10, 11, 12, 13, 14, 15, 16, 17, 18, 19, 20, 21, 22, 23, 24, 25] (by decide +kernel) (by decide +kernel)
set_option maxRecDepth 20000 in
theorem gX2_hoursBehind_X2_hoursOfDay : GoodIn wsX2_hoursBehind (wsV RX2 88 RX2 yX2_hoursOfDay wsX2_hoursOfDay) := goodIn_app (goodIn_of _ (by decide +kernel)) ggX2_hoursBehind_X2_hoursOfDay
theorem dX2_hoursBehind_0 : decode cX2_hoursBehind 0 = .ok (.iconst 0, 1) := by decide +kernel
theorem dX2_hoursBehind_1 : decode cX2_hoursBehind 1 = .ok (.istore_n 3, 1) := by decide +kernel
theorem dX2_hoursBehind_2 : decode cX2_hoursBehind 2 = .ok (.iconst 0, 1) := by decide +kernel
theorem dX2_hoursBehind_3 : decode cX2_hoursBehind 3 = .ok (.istore 4, 2) := by decide +kernel
theorem dX2_hoursBehind_5 : decode cX2_hoursBehind 5 = .ok (.iload 4, 2) := by decide +kernel
theorem dX2_hoursBehind_7 : decode cX2_hoursBehind 7 = .ok (.iload_n 2, 1) := by decide +kernel
theorem dX2_hoursBehind_8 : decode cX2_hoursBehind 8 = .ok (.if_icmp .ge 26, 3) := by decide +kernel
theorem dX2_hoursBehind_11 : decode cX2_hoursBehind 11 = .ok (.aload_n 0, 1) := by decide +kernel
theorem dX2_hoursBehind_12 : decode cX2_hoursBehind 12 = .ok (.getfield 27, 3) := by decide +kernel
theorem dX2_hoursBehind_15 : decode cX2_hoursBehind 15 = .ok (.iload 4, 2) := by decide +kernel
theorem dX2_hoursBehind_17 : decode cX2_hoursBehind 17 = .ok (.iaload, 1) := by decide +kernel
theorem dX2_hoursBehind_18 : decode cX2_hoursBehind 18 = .ok (.iload_n 1, 1) := by decide +kernel
theorem dX2_hoursBehind_19 : decode cX2_hoursBehind 19 = .ok (.invokestatic 61, 3) := by decide +kernel
theorem dX2_hoursBehind_22 : decode cX2_hoursBehind 22 = .ok (.ifCond .eq 6, 3) := by decide +kernel
theorem dX2_hoursBehind_25 : decode cX2_hoursBehind 25 = .ok (.iinc 3 1, 3) := by decide +kernel
theorem dX2_hoursBehind_28 : decode cX2_hoursBehind 28 = .ok (.iinc 4 1, 3) := by decide +kernel
theorem dX2_hoursBehind_31 : decode cX2_hoursBehind 31 = .ok (.goto (-26), 3) := by decide +kernel
theorem dX2_hoursBehind_34 : decode cX2_hoursBehind 34 = .ok (.iload_n 3, 1) := by decide +kernel
theorem dX2_hoursBehind_35 : decode cX2_hoursBehind 35 = .ok (.aload_n 0, 1) := by decide +kernel
theorem dX2_hoursBehind_36 : decode cX2_hoursBehind 36 = .ok (.iload_n 1, 1) := by decide +kernel
theorem dX2_hoursBehind_37 : decode cX2_hoursBehind 37 = .ok (.invokevirtual 88, 3) := by decide +kernel
theorem dX2_hoursBehind_40 : decode cX2_hoursBehind 40 = .ok (.imul, 1) := by decide +kernel
theorem dX2_hoursBehind_41 : decode cX2_hoursBehind 41 = .ok (.ireturn, 1) := by decide +kernel
set_option maxRecDepth 20000 in
theorem ggX2_hoursOfAll_X2_hoursBehind : GoodIn wsX2_hoursOfAll wsX2_hoursBehind := goodIn_r _ [7, 8, 9, 10, 6, 11, 12, 13, 14, 15, 16, 17, 18, 19, 20, 21, 22, 23, 24, 25, 26, 27, 28, 29, 30, 31] (by decide +kernel) (by decide +kernel)
set_option maxRecDepth 20000 in
theorem gX2_hoursOfAll_X2_hoursBehind : GoodIn wsX2_hoursOfAll (wsV RX2 91 RX2 yX2_hoursBehind wsX2_hoursBehind) := goodIn_app (goodIn_of _ (by decide +kernel)) ggX2_hoursOfAll_X2_hoursBehind
theorem dX2_hoursOfAll_0 : decode cX2_hoursOfAll 0 = .ok (.iconst 0, 1) := by decide +kernel
theorem dX2_hoursOfAll_1 : decode cX2_hoursOfAll 1 = .ok (.istore_n 1, 1) := by decide +kernel
theorem dX2_hoursOfAll_2 : decode cX2_hoursOfAll 2 = .ok (.iconst 0, 1) := by decide +kernel
theorem dX2_hoursOfAll_3 : decode cX2_hoursOfAll 3 = .ok (.istore_n 2, 1) := by decide +kernel
theorem dX2_hoursOfAll_4 : decode cX2_hoursOfAll 4 = .ok (.iload_n 2, 1) := by decide +kernel
theorem dX2_hoursOfAll_5 : decode cX2_hoursOfAll 5 = .ok (.aload_n 0, 1) := by decide +kernel
theorem dX2_hoursOfAll_6 : decode cX2_hoursOfAll 6 = .ok (.getfield 34, 3) := by decide +kernel
theorem dX2_hoursOfAll_9 : decode cX2_hoursOfAll 9 = .ok (.if_icmp .ge 21, 3) := by decide +kernel
theorem dX2_hoursOfAll_12 : decode cX2_hoursOfAll 12 = .ok (.iload_n 1, 1) := by decide +kernel
theorem dX2_hoursOfAll_13 : decode cX2_hoursOfAll 13 = .ok (.aload_n 0, 1) := by decide +kernel
theorem dX2_hoursOfAll_14 : decode cX2_hoursOfAll 14 = .ok (.iload_n 2, 1) := by decide +kernel
theorem dX2_hoursOfAll_15 : decode cX2_hoursOfAll 15 = .ok (.aload_n 0, 1) := by decide +kernel
theorem dX2_hoursOfAll_16 : decode cX2_hoursOfAll 16 = .ok (.getfield 30, 3) := by decide +kernel
theorem dX2_hoursOfAll_19 : decode cX2_hoursOfAll 19 = .ok (.invokevirtual 91, 3) := by decide +kernel
theorem dX2_hoursOfAll_22 : decode cX2_hoursOfAll 22 = .ok (.iadd, 1) := by decide +kernel
theorem dX2_hoursOfAll_23 : decode cX2_hoursOfAll 23 = .ok (.istore_n 1, 1) := by decide +kernel
theorem dX2_hoursOfAll_24 : decode cX2_hoursOfAll 24 = .ok (.iinc 2 1, 3) := by decide +kernel
theorem dX2_hoursOfAll_27 : decode cX2_hoursOfAll 27 = .ok (.goto (-23), 3) := by decide +kernel
theorem dX2_hoursOfAll_30 : decode cX2_hoursOfAll 30 = .ok (.iload_n 1, 1) := by decide +kernel
theorem dX2_hoursOfAll_31 : decode cX2_hoursOfAll 31 = .ok (.ireturn, 1) := by decide +kernel
set_option maxRecDepth 20000 in
theorem ggX2_longestStander_X2_hoursBehind : GoodIn wsX2_longestStander wsX2_hoursBehind := goodIn_r _ [7, 8, 9, 10, 6, 11, 12, 13, 14, 15, 16, 17, 18, 19, 20, 21, 22, 23, 24, 25, 26, 27, 28, 29, 30, 31] (by decide +kernel) (by decide +kernel)
set_option maxRecDepth 20000 in
theorem gX2_longestStander_X2_hoursBehind : GoodIn wsX2_longestStander (wsV RX2 91 RX2 yX2_hoursBehind wsX2_hoursBehind) := goodIn_app (goodIn_of _ (by decide +kernel)) ggX2_longestStander_X2_hoursBehind
theorem dX2_longestStander_0 : decode cX2_longestStander 0 = .ok (.bipush (-9), 2) := by decide +kernel
theorem dX2_longestStander_2 : decode cX2_longestStander 2 = .ok (.istore_n 1, 1) := by decide +kernel
theorem dX2_longestStander_3 : decode cX2_longestStander 3 = .ok (.iconst 0, 1) := by decide +kernel
theorem dX2_longestStander_4 : decode cX2_longestStander 4 = .ok (.istore_n 2, 1) := by decide +kernel
theorem dX2_longestStander_5 : decode cX2_longestStander 5 = .ok (.iconst 0, 1) := by decide +kernel
theorem dX2_longestStander_6 : decode cX2_longestStander 6 = .ok (.istore_n 3, 1) := by decide +kernel
theorem dX2_longestStander_7 : decode cX2_longestStander 7 = .ok (.iload_n 3, 1) := by decide +kernel
theorem dX2_longestStander_8 : decode cX2_longestStander 8 = .ok (.aload_n 0, 1) := by decide +kernel
theorem dX2_longestStander_9 : decode cX2_longestStander 9 = .ok (.getfield 34, 3) := by decide +kernel
theorem dX2_longestStander_12 : decode cX2_longestStander 12 = .ok (.if_icmp .ge 31, 3) := by decide +kernel
theorem dX2_longestStander_15 : decode cX2_longestStander 15 = .ok (.aload_n 0, 1) := by decide +kernel
theorem dX2_longestStander_16 : decode cX2_longestStander 16 = .ok (.iload_n 3, 1) := by decide +kernel
theorem dX2_longestStander_17 : decode cX2_longestStander 17 = .ok (.aload_n 0, 1) := by decide +kernel
theorem dX2_longestStander_18 : decode cX2_longestStander 18 = .ok (.getfield 30, 3) := by decide +kernel
theorem dX2_longestStander_21 : decode cX2_longestStander 21 = .ok (.invokevirtual 91, 3) := by decide +kernel
theorem dX2_longestStander_24 : decode cX2_longestStander 24 = .ok (.istore 4, 2) := by decide +kernel
theorem dX2_longestStander_26 : decode cX2_longestStander 26 = .ok (.iload 4, 2) := by decide +kernel
theorem dX2_longestStander_28 : decode cX2_longestStander 28 = .ok (.iload_n 2, 1) := by decide +kernel
theorem dX2_longestStander_29 : decode cX2_longestStander 29 = .ok (.if_icmp .le 8, 3) := by decide +kernel
theorem dX2_longestStander_32 : decode cX2_longestStander 32 = .ok (.iload 4, 2) := by decide +kernel
theorem dX2_longestStander_34 : decode cX2_longestStander 34 = .ok (.istore_n 2, 1) := by decide +kernel
theorem dX2_longestStander_35 : decode cX2_longestStander 35 = .ok (.iload_n 3, 1) := by decide +kernel
theorem dX2_longestStander_36 : decode cX2_longestStander 36 = .ok (.istore_n 1, 1) := by decide +kernel
theorem dX2_longestStander_37 : decode cX2_longestStander 37 = .ok (.iinc 3 1, 3) := by decide +kernel
theorem dX2_longestStander_40 : decode cX2_longestStander 40 = .ok (.goto (-33), 3) := by decide +kernel
theorem dX2_longestStander_43 : decode cX2_longestStander 43 = .ok (.iload_n 1, 1) := by decide +kernel
theorem dX2_longestStander_44 : decode cX2_longestStander 44 = .ok (.ireturn, 1) := by decide +kernel
set_option maxRecDepth 20000 in
theorem ggX2_crowdedDays_X2_whoWouldStand : GoodIn wsX2_crowdedDays wsX2_whoWouldStand := goodIn_r _ [7, 8, 9, 10, 11, 6, 12, 13, 14, 15, 16, 17, 18, 19, 27, 28, 29, 30, 31, 32, 33, 34, 35, 36] (by decide +kernel) (by decide +kernel)
set_option maxRecDepth 20000 in
theorem gX2_crowdedDays_X2_whoWouldStand : GoodIn wsX2_crowdedDays (wsV RX2 73 RX2 yX2_whoWouldStand wsX2_whoWouldStand) := goodIn_app (goodIn_of _ (by decide +kernel)) ggX2_crowdedDays_X2_whoWouldStand
set_option maxRecDepth 20000 in
theorem ggX2_crowdedDays_J6_bitCount_0f7a4 : GoodIn wsX2_crowdedDays wsJ6_bitCount_0f7a4 := goodIn_r _ [23, 24, 25, 26] (by decide +kernel) (by decide +kernel)
set_option maxRecDepth 20000 in
theorem gX2_crowdedDays_J6_bitCount_0f7a4 : GoodIn wsX2_crowdedDays (va_wsS RX2 77 yJ6_bitCount_0f7a4 wsJ6_bitCount_0f7a4) := goodIn_app (goodIn_of _ (by decide +kernel)) ggX2_crowdedDays_J6_bitCount_0f7a4
theorem dX2_crowdedDays_0 : decode cX2_crowdedDays 0 = .ok (.iconst 0, 1) := by decide +kernel
theorem dX2_crowdedDays_1 : decode cX2_crowdedDays 1 = .ok (.istore_n 1, 1) := by decide +kernel
theorem dX2_crowdedDays_2 : decode cX2_crowdedDays 2 = .ok (.iconst 0, 1) := by decide +kernel
theorem dX2_crowdedDays_3 : decode cX2_crowdedDays 3 = .ok (.istore_n 2, 1) := by decide +kernel
theorem dX2_crowdedDays_4 : decode cX2_crowdedDays 4 = .ok (.iload_n 2, 1) := by decide +kernel
theorem dX2_crowdedDays_5 : decode cX2_crowdedDays 5 = .ok (.aload_n 0, 1) := by decide +kernel
theorem dX2_crowdedDays_6 : decode cX2_crowdedDays 6 = .ok (.getfield 30, 3) := by decide +kernel
theorem dX2_crowdedDays_9 : decode cX2_crowdedDays 9 = .ok (.if_icmp .ge 30, 3) := by decide +kernel
theorem dX2_crowdedDays_12 : decode cX2_crowdedDays 12 = .ok (.aload_n 0, 1) := by decide +kernel
theorem dX2_crowdedDays_13 : decode cX2_crowdedDays 13 = .ok (.iload_n 2, 1) := by decide +kernel
theorem dX2_crowdedDays_14 : decode cX2_crowdedDays 14 = .ok (.invokevirtual 73, 3) := by decide +kernel
theorem dX2_crowdedDays_17 : decode cX2_crowdedDays 17 = .ok (.invokestatic 77, 3) := by decide +kernel
theorem dX2_crowdedDays_20 : decode cX2_crowdedDays 20 = .ok (.aload_n 0, 1) := by decide +kernel
theorem dX2_crowdedDays_21 : decode cX2_crowdedDays 21 = .ok (.getfield 40, 3) := by decide +kernel
theorem dX2_crowdedDays_24 : decode cX2_crowdedDays 24 = .ok (.if_icmp .le 9, 3) := by decide +kernel
theorem dX2_crowdedDays_27 : decode cX2_crowdedDays 27 = .ok (.iload_n 1, 1) := by decide +kernel
theorem dX2_crowdedDays_28 : decode cX2_crowdedDays 28 = .ok (.iconst 1, 1) := by decide +kernel
theorem dX2_crowdedDays_29 : decode cX2_crowdedDays 29 = .ok (.iload_n 2, 1) := by decide +kernel
theorem dX2_crowdedDays_30 : decode cX2_crowdedDays 30 = .ok (.ishl, 1) := by decide +kernel
theorem dX2_crowdedDays_31 : decode cX2_crowdedDays 31 = .ok (.ior, 1) := by decide +kernel
theorem dX2_crowdedDays_32 : decode cX2_crowdedDays 32 = .ok (.istore_n 1, 1) := by decide +kernel
theorem dX2_crowdedDays_33 : decode cX2_crowdedDays 33 = .ok (.iinc 2 1, 3) := by decide +kernel
theorem dX2_crowdedDays_36 : decode cX2_crowdedDays 36 = .ok (.goto (-32), 3) := by decide +kernel
theorem dX2_crowdedDays_39 : decode cX2_crowdedDays 39 = .ok (.iload_n 1, 1) := by decide +kernel
theorem dX2_crowdedDays_40 : decode cX2_crowdedDays 40 = .ok (.ireturn, 1) := by decide +kernel
set_option maxRecDepth 20000 in
theorem ggX2_firstRestless_X2_hoursPretendingAlways : GoodIn wsX2_firstRestless wsX2_hoursPretendingAlways := goodIn_r _ [7, 8, 2, 9, 10, 11, 6, 12, 13, 14, 15, 16, 17, 1, 18, 19, 20, 21, 22, 23, 24, 25, 26, 27, 28, 29, 30, 31, 32, 33, 34, 35, 36, 37, 38, 39, 40, 41, 42, 43, 44, 45, 46, 47, 48, 49, 50, 51, 52, 58, 59, 60, 61, 62, 63, 64, 65, 66, 67] (by decide +kernel) (by decide +kernel)
set_option maxRecDepth 20000 in
theorem gX2_firstRestless_X2_hoursPretendingAlways : GoodIn wsX2_firstRestless (wsV RX2 94 RX2 yX2_hoursPretendingAlways wsX2_hoursPretendingAlways) := goodIn_app (goodIn_of _ (by decide +kernel)) ggX2_firstRestless_X2_hoursPretendingAlways
set_option maxRecDepth 20000 in
theorem ggX2_firstRestless_X2_hoursBehind : GoodIn wsX2_firstRestless wsX2_hoursBehind := goodIn_r _ [56, 57, 22, 23, 6, 24, 43, 44, 45, 46, 47, 48, 49, 50, 51, 52, 58, 59, 60, 61, 62, 63, 64, 65, 66, 67] (by decide +kernel) (by decide +kernel)
set_option maxRecDepth 20000 in
theorem gX2_firstRestless_X2_hoursBehind : GoodIn wsX2_firstRestless (wsV RX2 91 RX2 yX2_hoursBehind wsX2_hoursBehind) := goodIn_app (goodIn_of _ (by decide +kernel)) ggX2_firstRestless_X2_hoursBehind
theorem dX2_firstRestless_0 : decode cX2_firstRestless 0 = .ok (.iconst 0, 1) := by decide +kernel
theorem dX2_firstRestless_1 : decode cX2_firstRestless 1 = .ok (.istore_n 1, 1) := by decide +kernel
theorem dX2_firstRestless_2 : decode cX2_firstRestless 2 = .ok (.iload_n 1, 1) := by decide +kernel
theorem dX2_firstRestless_3 : decode cX2_firstRestless 3 = .ok (.aload_n 0, 1) := by decide +kernel
theorem dX2_firstRestless_4 : decode cX2_firstRestless 4 = .ok (.getfield 34, 3) := by decide +kernel
theorem dX2_firstRestless_7 : decode cX2_firstRestless 7 = .ok (.if_icmp .ge 28, 3) := by decide +kernel
theorem dX2_firstRestless_10 : decode cX2_firstRestless 10 = .ok (.aload_n 0, 1) := by decide +kernel
theorem dX2_firstRestless_11 : decode cX2_firstRestless 11 = .ok (.iload_n 1, 1) := by decide +kernel
theorem dX2_firstRestless_12 : decode cX2_firstRestless 12 = .ok (.invokevirtual 94, 3) := by decide +kernel
theorem dX2_firstRestless_15 : decode cX2_firstRestless 15 = .ok (.aload_n 0, 1) := by decide +kernel
theorem dX2_firstRestless_16 : decode cX2_firstRestless 16 = .ok (.iload_n 1, 1) := by decide +kernel
theorem dX2_firstRestless_17 : decode cX2_firstRestless 17 = .ok (.aload_n 0, 1) := by decide +kernel
theorem dX2_firstRestless_18 : decode cX2_firstRestless 18 = .ok (.getfield 30, 3) := by decide +kernel
theorem dX2_firstRestless_21 : decode cX2_firstRestless 21 = .ok (.invokevirtual 91, 3) := by decide +kernel
theorem dX2_firstRestless_24 : decode cX2_firstRestless 24 = .ok (.if_icmp .le 5, 3) := by decide +kernel
theorem dX2_firstRestless_27 : decode cX2_firstRestless 27 = .ok (.iload_n 1, 1) := by decide +kernel
theorem dX2_firstRestless_28 : decode cX2_firstRestless 28 = .ok (.ireturn, 1) := by decide +kernel
theorem dX2_firstRestless_29 : decode cX2_firstRestless 29 = .ok (.iinc 1 1, 3) := by decide +kernel
theorem dX2_firstRestless_32 : decode cX2_firstRestless 32 = .ok (.goto (-30), 3) := by decide +kernel
theorem dX2_firstRestless_35 : decode cX2_firstRestless 35 = .ok (.bipush (-9), 2) := by decide +kernel
theorem dX2_firstRestless_37 : decode cX2_firstRestless 37 = .ok (.ireturn, 1) := by decide +kernel
set_option maxRecDepth 20000 in
theorem ggX2_hoursPretendingAlways_X2_allDays : GoodIn wsX2_hoursPretendingAlways wsX2_allDays := goodIn_r _ [7, 2, 49, 50, 51, 52, 53, 54, 55, 56, 57, 58] (by decide +kernel) (by decide +kernel)
set_option maxRecDepth 20000 in
theorem gX2_hoursPretendingAlways_X2_allDays : GoodIn wsX2_hoursPretendingAlways (wsV RX2 65 RX2 yX2_allDays wsX2_allDays) := goodIn_app (goodIn_of _ (by decide +kernel)) ggX2_hoursPretendingAlways_X2_allDays
set_option maxRecDepth 20000 in
theorem ggX2_hoursPretendingAlways_X2_whoStands : GoodIn wsX2_hoursPretendingAlways wsX2_whoStands := goodIn_r _ [11, 12, 13, 14, 15, 16, 6, 17, 1, 18, 19, 20, 21, 22, 23, 24, 25, 26, 27, 28, 29, 30, 31, 32, 33, 34, 35, 36, 37, 38, 49, 50, 51, 52, 53, 54, 55, 56, 57, 58] (by decide +kernel) (by decide +kernel)
set_option maxRecDepth 20000 in
theorem gX2_hoursPretendingAlways_X2_whoStands : GoodIn wsX2_hoursPretendingAlways (wsV RX2 85 RX2 yX2_whoStands wsX2_whoStands) := goodIn_app (goodIn_of _ (by decide +kernel)) ggX2_hoursPretendingAlways_X2_whoStands
set_option maxRecDepth 20000 in
theorem ggX2_hoursPretendingAlways_X2_holds : GoodIn wsX2_hoursPretendingAlways wsX2_holds := goodIn_r _ [20] (by decide +kernel) (by decide +kernel)
set_option maxRecDepth 20000 in
theorem gX2_hoursPretendingAlways_X2_holds : GoodIn wsX2_hoursPretendingAlways (va_wsS RX2 61 yX2_holds wsX2_holds) := goodIn_app (goodIn_of _ (by decide +kernel)) ggX2_hoursPretendingAlways_X2_holds
set_option maxRecDepth 20000 in
theorem ggX2_hoursPretendingAlways_X2_hoursOfDay : GoodIn wsX2_hoursPretendingAlways wsX2_hoursOfDay := goodIn_r _ [42, 43, 44, 45, 46, 47, 48, 49, 50, 51, 52, 53, 54, 55, 56, 57, 58] (by decide +kernel) (by decide +kernel)
set_option maxRecDepth 20000 in
theorem gX2_hoursPretendingAlways_X2_hoursOfDay : GoodIn wsX2_hoursPretendingAlways (wsV RX2 88 RX2 yX2_hoursOfDay wsX2_hoursOfDay) := goodIn_app (goodIn_of _ (by decide +kernel)) ggX2_hoursPretendingAlways_X2_hoursOfDay
theorem dX2_hoursPretendingAlways_0 : decode cX2_hoursPretendingAlways 0 = .ok (.aload_n 0, 1) := by decide +kernel
theorem dX2_hoursPretendingAlways_1 : decode cX2_hoursPretendingAlways 1 = .ok (.getfield 24, 3) := by decide +kernel
theorem dX2_hoursPretendingAlways_4 : decode cX2_hoursPretendingAlways 4 = .ok (.iload_n 1, 1) := by decide +kernel
theorem dX2_hoursPretendingAlways_5 : decode cX2_hoursPretendingAlways 5 = .ok (.iaload, 1) := by decide +kernel
theorem dX2_hoursPretendingAlways_6 : decode cX2_hoursPretendingAlways 6 = .ok (.istore_n 2, 1) := by decide +kernel
theorem dX2_hoursPretendingAlways_7 : decode cX2_hoursPretendingAlways 7 = .ok (.aload_n 0, 1) := by decide +kernel
theorem dX2_hoursPretendingAlways_8 : decode cX2_hoursPretendingAlways 8 = .ok (.getfield 24, 3) := by decide +kernel
theorem dX2_hoursPretendingAlways_11 : decode cX2_hoursPretendingAlways 11 = .ok (.iload_n 1, 1) := by decide +kernel
theorem dX2_hoursPretendingAlways_12 : decode cX2_hoursPretendingAlways 12 = .ok (.aload_n 0, 1) := by decide +kernel
theorem dX2_hoursPretendingAlways_13 : decode cX2_hoursPretendingAlways 13 = .ok (.invokevirtual 65, 3) := by decide +kernel
theorem dX2_hoursPretendingAlways_16 : decode cX2_hoursPretendingAlways 16 = .ok (.iastore, 1) := by decide +kernel
theorem dX2_hoursPretendingAlways_17 : decode cX2_hoursPretendingAlways 17 = .ok (.iconst 0, 1) := by decide +kernel
theorem dX2_hoursPretendingAlways_18 : decode cX2_hoursPretendingAlways 18 = .ok (.istore_n 3, 1) := by decide +kernel
theorem dX2_hoursPretendingAlways_19 : decode cX2_hoursPretendingAlways 19 = .ok (.iconst 0, 1) := by decide +kernel
theorem dX2_hoursPretendingAlways_20 : decode cX2_hoursPretendingAlways 20 = .ok (.istore 4, 2) := by decide +kernel
theorem dX2_hoursPretendingAlways_22 : decode cX2_hoursPretendingAlways 22 = .ok (.iload 4, 2) := by decide +kernel
theorem dX2_hoursPretendingAlways_24 : decode cX2_hoursPretendingAlways 24 = .ok (.aload_n 0, 1) := by decide +kernel
theorem dX2_hoursPretendingAlways_25 : decode cX2_hoursPretendingAlways 25 = .ok (.getfield 30, 3) := by decide +kernel
theorem dX2_hoursPretendingAlways_28 : decode cX2_hoursPretendingAlways 28 = .ok (.if_icmp .ge 25, 3) := by decide +kernel
theorem dX2_hoursPretendingAlways_31 : decode cX2_hoursPretendingAlways 31 = .ok (.aload_n 0, 1) := by decide +kernel
theorem dX2_hoursPretendingAlways_32 : decode cX2_hoursPretendingAlways 32 = .ok (.iload 4, 2) := by decide +kernel
theorem dX2_hoursPretendingAlways_34 : decode cX2_hoursPretendingAlways 34 = .ok (.invokevirtual 85, 3) := by decide +kernel
theorem dX2_hoursPretendingAlways_37 : decode cX2_hoursPretendingAlways 37 = .ok (.iload_n 1, 1) := by decide +kernel
theorem dX2_hoursPretendingAlways_38 : decode cX2_hoursPretendingAlways 38 = .ok (.invokestatic 61, 3) := by decide +kernel
theorem dX2_hoursPretendingAlways_41 : decode cX2_hoursPretendingAlways 41 = .ok (.ifCond .eq 6, 3) := by decide +kernel
theorem dX2_hoursPretendingAlways_44 : decode cX2_hoursPretendingAlways 44 = .ok (.iinc 3 1, 3) := by decide +kernel
theorem dX2_hoursPretendingAlways_47 : decode cX2_hoursPretendingAlways 47 = .ok (.iinc 4 1, 3) := by decide +kernel
theorem dX2_hoursPretendingAlways_50 : decode cX2_hoursPretendingAlways 50 = .ok (.goto (-28), 3) := by decide +kernel
theorem dX2_hoursPretendingAlways_53 : decode cX2_hoursPretendingAlways 53 = .ok (.aload_n 0, 1) := by decide +kernel
theorem dX2_hoursPretendingAlways_54 : decode cX2_hoursPretendingAlways 54 = .ok (.getfield 24, 3) := by decide +kernel
theorem dX2_hoursPretendingAlways_57 : decode cX2_hoursPretendingAlways 57 = .ok (.iload_n 1, 1) := by decide +kernel
theorem dX2_hoursPretendingAlways_58 : decode cX2_hoursPretendingAlways 58 = .ok (.iload_n 2, 1) := by decide +kernel
theorem dX2_hoursPretendingAlways_59 : decode cX2_hoursPretendingAlways 59 = .ok (.iastore, 1) := by decide +kernel
theorem dX2_hoursPretendingAlways_60 : decode cX2_hoursPretendingAlways 60 = .ok (.iload_n 3, 1) := by decide +kernel
theorem dX2_hoursPretendingAlways_61 : decode cX2_hoursPretendingAlways 61 = .ok (.aload_n 0, 1) := by decide +kernel
theorem dX2_hoursPretendingAlways_62 : decode cX2_hoursPretendingAlways 62 = .ok (.iload_n 1, 1) := by decide +kernel
theorem dX2_hoursPretendingAlways_63 : decode cX2_hoursPretendingAlways 63 = .ok (.invokevirtual 88, 3) := by decide +kernel
theorem dX2_hoursPretendingAlways_66 : decode cX2_hoursPretendingAlways 66 = .ok (.imul, 1) := by decide +kernel
theorem dX2_hoursPretendingAlways_67 : decode cX2_hoursPretendingAlways 67 = .ok (.ireturn, 1) := by decide +kernel
theorem dX2_holds_0 : decode cX2_holds 0 = .ok (.iload_n 0, 1) := by decide +kernel
theorem dX2_holds_1 : decode cX2_holds 1 = .ok (.iload_n 1, 1) := by decide +kernel
theorem dX2_holds_2 : decode cX2_holds 2 = .ok (.ishr, 1) := by decide +kernel
theorem dX2_holds_3 : decode cX2_holds 3 = .ok (.iconst 1, 1) := by decide +kernel
theorem dX2_holds_4 : decode cX2_holds 4 = .ok (.iand, 1) := by decide +kernel
theorem dX2_holds_5 : decode cX2_holds 5 = .ok (.ifCond .eq 7, 3) := by decide +kernel
theorem dX2_holds_8 : decode cX2_holds 8 = .ok (.iconst 1, 1) := by decide +kernel
theorem dX2_holds_9 : decode cX2_holds 9 = .ok (.goto 4, 3) := by decide +kernel
theorem dX2_holds_12 : decode cX2_holds 12 = .ok (.iconst 0, 1) := by decide +kernel
theorem dX2_holds_13 : decode cX2_holds 13 = .ok (.ireturn, 1) := by decide +kernel
set_option maxRecDepth 20000 in
theorem ggX3_init_J7_fill_53178 : GoodIn wsX3_init wsJ7_fill_53178 := goodIn_r _ [11] (by decide +kernel) (by decide +kernel)
set_option maxRecDepth 20000 in
theorem gX3_init_J7_fill_53178 : GoodIn wsX3_init (va_wsS RX3 21 yJ7_fill_53178 wsJ7_fill_53178) := goodIn_app (goodIn_of _ (by decide +kernel)) ggX3_init_J7_fill_53178
theorem dX3_init_0 : decode cX3_init 0 = .ok (.aload_n 0, 1) := by decide +kernel
theorem dX3_init_1 : decode cX3_init 1 = .ok (.invokespecial 3, 3) := by decide +kernel
theorem dX3_init_4 : decode cX3_init 4 = .ok (.aload_n 0, 1) := by decide +kernel
theorem dX3_init_5 : decode cX3_init 5 = .ok (.sipush 240, 3) := by decide +kernel
theorem dX3_init_8 : decode cX3_init 8 = .ok (.newarray .int, 2) := by decide +kernel
theorem dX3_init_10 : decode cX3_init 10 = .ok (.putfield 9, 3) := by decide +kernel
theorem dX3_init_13 : decode cX3_init 13 = .ok (.aload_n 0, 1) := by decide +kernel
theorem dX3_init_14 : decode cX3_init 14 = .ok (.iconst 4, 1) := by decide +kernel
theorem dX3_init_15 : decode cX3_init 15 = .ok (.newarray .int, 2) := by decide +kernel
theorem dX3_init_17 : decode cX3_init 17 = .ok (.putfield 15, 3) := by decide +kernel
theorem dX3_init_20 : decode cX3_init 20 = .ok (.aload_n 0, 1) := by decide +kernel
theorem dX3_init_21 : decode cX3_init 21 = .ok (.iconst 4, 1) := by decide +kernel
theorem dX3_init_22 : decode cX3_init 22 = .ok (.newarray .int, 2) := by decide +kernel
theorem dX3_init_24 : decode cX3_init 24 = .ok (.putfield 18, 3) := by decide +kernel
theorem dX3_init_27 : decode cX3_init 27 = .ok (.aload_n 0, 1) := by decide +kernel
theorem dX3_init_28 : decode cX3_init 28 = .ok (.getfield 15, 3) := by decide +kernel
theorem dX3_init_31 : decode cX3_init 31 = .ok (.iconst (-1), 1) := by decide +kernel
theorem dX3_init_32 : decode cX3_init 32 = .ok (.invokestatic 21, 3) := by decide +kernel
theorem dX3_init_35 : decode cX3_init 35 = .ok (.return_, 1) := by decide +kernel
theorem dX3_hasRow_0 : decode cX3_hasRow 0 = .ok (.aload_n 0, 1) := by decide +kernel
theorem dX3_hasRow_1 : decode cX3_hasRow 1 = .ok (.getfield 15, 3) := by decide +kernel
theorem dX3_hasRow_4 : decode cX3_hasRow 4 = .ok (.iload_n 1, 1) := by decide +kernel
theorem dX3_hasRow_5 : decode cX3_hasRow 5 = .ok (.iaload, 1) := by decide +kernel
theorem dX3_hasRow_6 : decode cX3_hasRow 6 = .ok (.iconst (-1), 1) := by decide +kernel
theorem dX3_hasRow_7 : decode cX3_hasRow 7 = .ok (.if_icmp .eq 7, 3) := by decide +kernel
theorem dX3_hasRow_10 : decode cX3_hasRow 10 = .ok (.iconst 1, 1) := by decide +kernel
theorem dX3_hasRow_11 : decode cX3_hasRow 11 = .ok (.goto 4, 3) := by decide +kernel
theorem dX3_hasRow_14 : decode cX3_hasRow 14 = .ok (.iconst 0, 1) := by decide +kernel
theorem dX3_hasRow_15 : decode cX3_hasRow 15 = .ok (.ireturn, 1) := by decide +kernel
set_option maxRecDepth 20000 in
theorem ggX3_renew_J7_fill_fda19 : GoodIn wsX3_renew wsJ7_fill_fda19 := goodIn_r _ [7, 8, 9, 6, 10] (by decide +kernel) (by decide +kernel)
set_option maxRecDepth 20000 in
theorem gX3_renew_J7_fill_fda19 : GoodIn wsX3_renew (va_wsS RX3 27 yJ7_fill_fda19 wsJ7_fill_fda19) := goodIn_app (goodIn_of _ (by decide +kernel)) ggX3_renew_J7_fill_fda19
theorem dX3_renew_0 : decode cX3_renew 0 = .ok (.aload_n 0, 1) := by decide +kernel
theorem dX3_renew_1 : decode cX3_renew 1 = .ok (.getfield 15, 3) := by decide +kernel
theorem dX3_renew_4 : decode cX3_renew 4 = .ok (.iload_n 1, 1) := by decide +kernel
theorem dX3_renew_5 : decode cX3_renew 5 = .ok (.iload_n 2, 1) := by decide +kernel
theorem dX3_renew_6 : decode cX3_renew 6 = .ok (.iastore, 1) := by decide +kernel
theorem dX3_renew_7 : decode cX3_renew 7 = .ok (.aload_n 0, 1) := by decide +kernel
theorem dX3_renew_8 : decode cX3_renew 8 = .ok (.getfield 18, 3) := by decide +kernel
theorem dX3_renew_11 : decode cX3_renew 11 = .ok (.iload_n 1, 1) := by decide +kernel
theorem dX3_renew_12 : decode cX3_renew 12 = .ok (.iload_n 3, 1) := by decide +kernel
theorem dX3_renew_13 : decode cX3_renew 13 = .ok (.iastore, 1) := by decide +kernel
theorem dX3_renew_14 : decode cX3_renew 14 = .ok (.aload_n 0, 1) := by decide +kernel
theorem dX3_renew_15 : decode cX3_renew 15 = .ok (.getfield 9, 3) := by decide +kernel
theorem dX3_renew_18 : decode cX3_renew 18 = .ok (.iload_n 1, 1) := by decide +kernel
theorem dX3_renew_19 : decode cX3_renew 19 = .ok (.bipush 60, 2) := by decide +kernel
theorem dX3_renew_21 : decode cX3_renew 21 = .ok (.imul, 1) := by decide +kernel
theorem dX3_renew_22 : decode cX3_renew 22 = .ok (.iload_n 1, 1) := by decide +kernel
theorem dX3_renew_23 : decode cX3_renew 23 = .ok (.bipush 60, 2) := by decide +kernel
theorem dX3_renew_25 : decode cX3_renew 25 = .ok (.imul, 1) := by decide +kernel
theorem dX3_renew_26 : decode cX3_renew 26 = .ok (.iload_n 3, 1) := by decide +kernel
theorem dX3_renew_27 : decode cX3_renew 27 = .ok (.iadd, 1) := by decide +kernel
theorem dX3_renew_28 : decode cX3_renew 28 = .ok (.iconst 0, 1) := by decide +kernel
theorem dX3_renew_29 : decode cX3_renew 29 = .ok (.invokestatic 27, 3) := by decide +kernel
theorem dX3_renew_32 : decode cX3_renew 32 = .ok (.return_, 1) := by decide +kernel
set_option maxRecDepth 20000 in
theorem ggX3_drop_X3_hasRow : GoodIn wsX3_drop wsX3_hasRow := goodIn_r _ [7, 1, 8, 9, 10] (by decide +kernel) (by decide +kernel)
set_option maxRecDepth 20000 in
theorem gX3_drop_X3_hasRow : GoodIn wsX3_drop (wsV RX3 30 RX3 yX3_hasRow wsX3_hasRow) := goodIn_app (goodIn_of _ (by decide +kernel)) ggX3_drop_X3_hasRow
theorem dX3_drop_0 : decode cX3_drop 0 = .ok (.aload_n 0, 1) := by decide +kernel
theorem dX3_drop_1 : decode cX3_drop 1 = .ok (.iload_n 1, 1) := by decide +kernel
theorem dX3_drop_2 : decode cX3_drop 2 = .ok (.invokevirtual 30, 3) := by decide +kernel
theorem dX3_drop_5 : decode cX3_drop 5 = .ok (.istore_n 2, 1) := by decide +kernel
theorem dX3_drop_6 : decode cX3_drop 6 = .ok (.aload_n 0, 1) := by decide +kernel
theorem dX3_drop_7 : decode cX3_drop 7 = .ok (.getfield 15, 3) := by decide +kernel
theorem dX3_drop_10 : decode cX3_drop 10 = .ok (.iload_n 1, 1) := by decide +kernel
theorem dX3_drop_11 : decode cX3_drop 11 = .ok (.iconst (-1), 1) := by decide +kernel
theorem dX3_drop_12 : decode cX3_drop 12 = .ok (.iastore, 1) := by decide +kernel
theorem dX3_drop_13 : decode cX3_drop 13 = .ok (.aload_n 0, 1) := by decide +kernel
theorem dX3_drop_14 : decode cX3_drop 14 = .ok (.getfield 18, 3) := by decide +kernel
theorem dX3_drop_17 : decode cX3_drop 17 = .ok (.iload_n 1, 1) := by decide +kernel
theorem dX3_drop_18 : decode cX3_drop 18 = .ok (.iconst 0, 1) := by decide +kernel
theorem dX3_drop_19 : decode cX3_drop 19 = .ok (.iastore, 1) := by decide +kernel
theorem dX3_drop_20 : decode cX3_drop 20 = .ok (.iload_n 2, 1) := by decide +kernel
theorem dX3_drop_21 : decode cX3_drop 21 = .ok (.ireturn, 1) := by decide +kernel
theorem dX3_hasPlace_0 : decode cX3_hasPlace 0 = .ok (.iload_n 2, 1) := by decide +kernel
theorem dX3_hasPlace_1 : decode cX3_hasPlace 1 = .ok (.ifCond .lt 17, 3) := by decide +kernel
theorem dX3_hasPlace_4 : decode cX3_hasPlace 4 = .ok (.iload_n 2, 1) := by decide +kernel
theorem dX3_hasPlace_5 : decode cX3_hasPlace 5 = .ok (.aload_n 0, 1) := by decide +kernel
theorem dX3_hasPlace_6 : decode cX3_hasPlace 6 = .ok (.getfield 18, 3) := by decide +kernel
theorem dX3_hasPlace_9 : decode cX3_hasPlace 9 = .ok (.iload_n 1, 1) := by decide +kernel
theorem dX3_hasPlace_10 : decode cX3_hasPlace 10 = .ok (.iaload, 1) := by decide +kernel
theorem dX3_hasPlace_11 : decode cX3_hasPlace 11 = .ok (.if_icmp .ge 7, 3) := by decide +kernel
theorem dX3_hasPlace_14 : decode cX3_hasPlace 14 = .ok (.iconst 1, 1) := by decide +kernel
theorem dX3_hasPlace_15 : decode cX3_hasPlace 15 = .ok (.goto 4, 3) := by decide +kernel
theorem dX3_hasPlace_18 : decode cX3_hasPlace 18 = .ok (.iconst 0, 1) := by decide +kernel
theorem dX3_hasPlace_19 : decode cX3_hasPlace 19 = .ok (.ireturn, 1) := by decide +kernel
theorem dX3_hasPlaces_0 : decode cX3_hasPlaces 0 = .ok (.iload_n 2, 1) := by decide +kernel
theorem dX3_hasPlaces_1 : decode cX3_hasPlaces 1 = .ok (.ifCond .lt 29, 3) := by decide +kernel
theorem dX3_hasPlaces_4 : decode cX3_hasPlaces 4 = .ok (.iload_n 2, 1) := by decide +kernel
theorem dX3_hasPlaces_5 : decode cX3_hasPlaces 5 = .ok (.aload_n 0, 1) := by decide +kernel
theorem dX3_hasPlaces_6 : decode cX3_hasPlaces 6 = .ok (.getfield 18, 3) := by decide +kernel
theorem dX3_hasPlaces_9 : decode cX3_hasPlaces 9 = .ok (.iload_n 1, 1) := by decide +kernel
theorem dX3_hasPlaces_10 : decode cX3_hasPlaces 10 = .ok (.iaload, 1) := by decide +kernel
theorem dX3_hasPlaces_11 : decode cX3_hasPlaces 11 = .ok (.if_icmp .gt 19, 3) := by decide +kernel
theorem dX3_hasPlaces_14 : decode cX3_hasPlaces 14 = .ok (.iload_n 3, 1) := by decide +kernel
theorem dX3_hasPlaces_15 : decode cX3_hasPlaces 15 = .ok (.aload_n 0, 1) := by decide +kernel
theorem dX3_hasPlaces_16 : decode cX3_hasPlaces 16 = .ok (.getfield 18, 3) := by decide +kernel
theorem dX3_hasPlaces_19 : decode cX3_hasPlaces 19 = .ok (.iload_n 1, 1) := by decide +kernel
theorem dX3_hasPlaces_20 : decode cX3_hasPlaces 20 = .ok (.iaload, 1) := by decide +kernel
theorem dX3_hasPlaces_21 : decode cX3_hasPlaces 21 = .ok (.iload_n 2, 1) := by decide +kernel
theorem dX3_hasPlaces_22 : decode cX3_hasPlaces 22 = .ok (.isub, 1) := by decide +kernel
theorem dX3_hasPlaces_23 : decode cX3_hasPlaces 23 = .ok (.if_icmp .gt 7, 3) := by decide +kernel
theorem dX3_hasPlaces_26 : decode cX3_hasPlaces 26 = .ok (.iconst 1, 1) := by decide +kernel
theorem dX3_hasPlaces_27 : decode cX3_hasPlaces 27 = .ok (.goto 4, 3) := by decide +kernel
theorem dX3_hasPlaces_30 : decode cX3_hasPlaces 30 = .ok (.iconst 0, 1) := by decide +kernel
theorem dX3_hasPlaces_31 : decode cX3_hasPlaces 31 = .ok (.ireturn, 1) := by decide +kernel
set_option maxRecDepth 20000 in
theorem ggX3_faultOfRow_X3_hasRow : GoodIn wsX3_faultOfRow wsX3_hasRow := goodIn_r _ [6, 1, 7, 8, 9] (by decide +kernel) (by decide +kernel)
set_option maxRecDepth 20000 in
theorem gX3_faultOfRow_X3_hasRow : GoodIn wsX3_faultOfRow (wsV RX3 30 RX3 yX3_hasRow wsX3_hasRow) := goodIn_app (goodIn_of _ (by decide +kernel)) ggX3_faultOfRow_X3_hasRow
theorem dX3_faultOfRow_0 : decode cX3_faultOfRow 0 = .ok (.aload_n 0, 1) := by decide +kernel
theorem dX3_faultOfRow_1 : decode cX3_faultOfRow 1 = .ok (.iload_n 1, 1) := by decide +kernel
theorem dX3_faultOfRow_2 : decode cX3_faultOfRow 2 = .ok (.invokevirtual 30, 3) := by decide +kernel
theorem dX3_faultOfRow_5 : decode cX3_faultOfRow 5 = .ok (.ifCond .ne 5, 3) := by decide +kernel
theorem dX3_faultOfRow_8 : decode cX3_faultOfRow 8 = .ok (.iconst 1, 1) := by decide +kernel
theorem dX3_faultOfRow_9 : decode cX3_faultOfRow 9 = .ok (.ireturn, 1) := by decide +kernel
theorem dX3_faultOfRow_10 : decode cX3_faultOfRow 10 = .ok (.aload_n 0, 1) := by decide +kernel
theorem dX3_faultOfRow_11 : decode cX3_faultOfRow 11 = .ok (.getfield 15, 3) := by decide +kernel
theorem dX3_faultOfRow_14 : decode cX3_faultOfRow 14 = .ok (.iload_n 1, 1) := by decide +kernel
theorem dX3_faultOfRow_15 : decode cX3_faultOfRow 15 = .ok (.iaload, 1) := by decide +kernel
theorem dX3_faultOfRow_16 : decode cX3_faultOfRow 16 = .ok (.iload_n 2, 1) := by decide +kernel
theorem dX3_faultOfRow_17 : decode cX3_faultOfRow 17 = .ok (.if_icmp .ne 7, 3) := by decide +kernel
theorem dX3_faultOfRow_20 : decode cX3_faultOfRow 20 = .ok (.iconst 0, 1) := by decide +kernel
theorem dX3_faultOfRow_21 : decode cX3_faultOfRow 21 = .ok (.goto 4, 3) := by decide +kernel
theorem dX3_faultOfRow_24 : decode cX3_faultOfRow 24 = .ok (.iconst 2, 1) := by decide +kernel
theorem dX3_faultOfRow_25 : decode cX3_faultOfRow 25 = .ok (.ireturn, 1) := by decide +kernel
set_option maxRecDepth 20000 in
theorem ggX3_faultOfCells_X3_faultOfRow : GoodIn wsX3_faultOfCells wsX3_faultOfRow := goodIn_r _ [5, 6, 7, 8, 9, 4, 10, 16, 17, 18] (by decide +kernel) (by decide +kernel)
set_option maxRecDepth 20000 in
theorem gX3_faultOfCells_X3_faultOfRow : GoodIn wsX3_faultOfCells (wsV RX3 34 RX3 yX3_faultOfRow wsX3_faultOfRow) := goodIn_app (goodIn_of _ (by decide +kernel)) ggX3_faultOfCells_X3_faultOfRow
set_option maxRecDepth 20000 in
theorem ggX3_faultOfCells_X3_hasPlaces : GoodIn wsX3_faultOfCells wsX3_hasPlaces := goodIn_r _ [14, 15, 16, 17, 18] (by decide +kernel) (by decide +kernel)
set_option maxRecDepth 20000 in
theorem gX3_faultOfCells_X3_hasPlaces : GoodIn wsX3_faultOfCells (wsV RX3 38 RX3 yX3_hasPlaces wsX3_hasPlaces) := goodIn_app (goodIn_of _ (by decide +kernel)) ggX3_faultOfCells_X3_hasPlaces
theorem dX3_faultOfCells_0 : decode cX3_faultOfCells 0 = .ok (.aload_n 0, 1) := by decide +kernel
theorem dX3_faultOfCells_1 : decode cX3_faultOfCells 1 = .ok (.iload_n 1, 1) := by decide +kernel
theorem dX3_faultOfCells_2 : decode cX3_faultOfCells 2 = .ok (.iload_n 2, 1) := by decide +kernel
theorem dX3_faultOfCells_3 : decode cX3_faultOfCells 3 = .ok (.invokevirtual 34, 3) := by decide +kernel
theorem dX3_faultOfCells_6 : decode cX3_faultOfCells 6 = .ok (.istore 5, 2) := by decide +kernel
theorem dX3_faultOfCells_8 : decode cX3_faultOfCells 8 = .ok (.iload 5, 2) := by decide +kernel
theorem dX3_faultOfCells_10 : decode cX3_faultOfCells 10 = .ok (.ifCond .eq 6, 3) := by decide +kernel
theorem dX3_faultOfCells_13 : decode cX3_faultOfCells 13 = .ok (.iload 5, 2) := by decide +kernel
theorem dX3_faultOfCells_15 : decode cX3_faultOfCells 15 = .ok (.ireturn, 1) := by decide +kernel
theorem dX3_faultOfCells_16 : decode cX3_faultOfCells 16 = .ok (.iload 4, 2) := by decide +kernel
theorem dX3_faultOfCells_18 : decode cX3_faultOfCells 18 = .ok (.ifCond .ge 5, 3) := by decide +kernel
theorem dX3_faultOfCells_21 : decode cX3_faultOfCells 21 = .ok (.iconst 4, 1) := by decide +kernel
theorem dX3_faultOfCells_22 : decode cX3_faultOfCells 22 = .ok (.ireturn, 1) := by decide +kernel
theorem dX3_faultOfCells_23 : decode cX3_faultOfCells 23 = .ok (.aload_n 0, 1) := by decide +kernel
theorem dX3_faultOfCells_24 : decode cX3_faultOfCells 24 = .ok (.iload_n 1, 1) := by decide +kernel
theorem dX3_faultOfCells_25 : decode cX3_faultOfCells 25 = .ok (.iload_n 3, 1) := by decide +kernel
theorem dX3_faultOfCells_26 : decode cX3_faultOfCells 26 = .ok (.iload 4, 2) := by decide +kernel
theorem dX3_faultOfCells_28 : decode cX3_faultOfCells 28 = .ok (.invokevirtual 38, 3) := by decide +kernel
theorem dX3_faultOfCells_31 : decode cX3_faultOfCells 31 = .ok (.ifCond .eq 7, 3) := by decide +kernel
theorem dX3_faultOfCells_34 : decode cX3_faultOfCells 34 = .ok (.iconst 0, 1) := by decide +kernel
theorem dX3_faultOfCells_35 : decode cX3_faultOfCells 35 = .ok (.goto 4, 3) := by decide +kernel
theorem dX3_faultOfCells_38 : decode cX3_faultOfCells 38 = .ok (.iconst 3, 1) := by decide +kernel
theorem dX3_faultOfCells_39 : decode cX3_faultOfCells 39 = .ok (.ireturn, 1) := by decide +kernel
theorem dX3_read_0 : decode cX3_read 0 = .ok (.aload_n 0, 1) := by decide +kernel
theorem dX3_read_1 : decode cX3_read 1 = .ok (.getfield 9, 3) := by decide +kernel
theorem dX3_read_4 : decode cX3_read 4 = .ok (.iload_n 1, 1) := by decide +kernel
theorem dX3_read_5 : decode cX3_read 5 = .ok (.bipush 60, 2) := by decide +kernel
theorem dX3_read_7 : decode cX3_read 7 = .ok (.imul, 1) := by decide +kernel
theorem dX3_read_8 : decode cX3_read 8 = .ok (.iload_n 2, 1) := by decide +kernel
theorem dX3_read_9 : decode cX3_read 9 = .ok (.iadd, 1) := by decide +kernel
theorem dX3_read_10 : decode cX3_read 10 = .ok (.iaload, 1) := by decide +kernel
theorem dX3_read_11 : decode cX3_read 11 = .ok (.ireturn, 1) := by decide +kernel
set_option maxRecDepth 20000 in
theorem ggX3_write_X3_cut : GoodIn wsX3_write wsX3_cut := goodIn_r _ [6] (by decide +kernel) (by decide +kernel)
set_option maxRecDepth 20000 in
theorem gX3_write_X3_cut : GoodIn wsX3_write (va_wsS RX3 42 yX3_cut wsX3_cut) := goodIn_app (goodIn_of _ (by decide +kernel)) ggX3_write_X3_cut
theorem dX3_write_0 : decode cX3_write 0 = .ok (.aload_n 0, 1) := by decide +kernel
theorem dX3_write_1 : decode cX3_write 1 = .ok (.getfield 9, 3) := by decide +kernel
theorem dX3_write_4 : decode cX3_write 4 = .ok (.iload_n 1, 1) := by decide +kernel
theorem dX3_write_5 : decode cX3_write 5 = .ok (.bipush 60, 2) := by decide +kernel
theorem dX3_write_7 : decode cX3_write 7 = .ok (.imul, 1) := by decide +kernel
theorem dX3_write_8 : decode cX3_write 8 = .ok (.iload_n 2, 1) := by decide +kernel
theorem dX3_write_9 : decode cX3_write 9 = .ok (.iadd, 1) := by decide +kernel
theorem dX3_write_10 : decode cX3_write 10 = .ok (.iload_n 3, 1) := by decide +kernel
theorem dX3_write_11 : decode cX3_write 11 = .ok (.aload_n 0, 1) := by decide +kernel
theorem dX3_write_12 : decode cX3_write 12 = .ok (.getfield 15, 3) := by decide +kernel
theorem dX3_write_15 : decode cX3_write 15 = .ok (.iload_n 1, 1) := by decide +kernel
theorem dX3_write_16 : decode cX3_write 16 = .ok (.iaload, 1) := by decide +kernel
theorem dX3_write_17 : decode cX3_write 17 = .ok (.invokestatic 42, 3) := by decide +kernel
theorem dX3_write_20 : decode cX3_write 20 = .ok (.iastore, 1) := by decide +kernel
theorem dX3_write_21 : decode cX3_write 21 = .ok (.return_, 1) := by decide +kernel
theorem dX3_carry_0 : decode cX3_carry 0 = .ok (.aload_n 0, 1) := by decide +kernel
theorem dX3_carry_1 : decode cX3_carry 1 = .ok (.getfield 9, 3) := by decide +kernel
theorem dX3_carry_4 : decode cX3_carry 4 = .ok (.iload_n 1, 1) := by decide +kernel
theorem dX3_carry_5 : decode cX3_carry 5 = .ok (.bipush 60, 2) := by decide +kernel
theorem dX3_carry_7 : decode cX3_carry 7 = .ok (.imul, 1) := by decide +kernel
theorem dX3_carry_8 : decode cX3_carry 8 = .ok (.iload_n 2, 1) := by decide +kernel
theorem dX3_carry_9 : decode cX3_carry 9 = .ok (.iadd, 1) := by decide +kernel
theorem dX3_carry_10 : decode cX3_carry 10 = .ok (.aload_n 0, 1) := by decide +kernel
theorem dX3_carry_11 : decode cX3_carry 11 = .ok (.getfield 9, 3) := by decide +kernel
theorem dX3_carry_14 : decode cX3_carry 14 = .ok (.iload_n 3, 1) := by decide +kernel
theorem dX3_carry_15 : decode cX3_carry 15 = .ok (.bipush 60, 2) := by decide +kernel
theorem dX3_carry_17 : decode cX3_carry 17 = .ok (.imul, 1) := by decide +kernel
theorem dX3_carry_18 : decode cX3_carry 18 = .ok (.iload 4, 2) := by decide +kernel
theorem dX3_carry_20 : decode cX3_carry 20 = .ok (.iadd, 1) := by decide +kernel
theorem dX3_carry_21 : decode cX3_carry 21 = .ok (.iload 5, 2) := by decide +kernel
theorem dX3_carry_23 : decode cX3_carry 23 = .ok (.invokestatic 45, 3) := by decide +kernel
theorem dX3_carry_26 : decode cX3_carry 26 = .ok (.return_, 1) := by decide +kernel
theorem dX3_cut_0 : decode cX3_cut 0 = .ok (.iload_n 1, 1) := by decide +kernel
theorem dX3_cut_1 : decode cX3_cut 1 = .ok (.lookupswitch 33 #[(0, 27), (1, 30)], 27) := by decide +kernel
theorem dX3_cut_28 : decode cX3_cut 28 = .ok (.iload_n 0, 1) := by decide +kernel
theorem dX3_cut_29 : decode cX3_cut 29 = .ok (.i2b, 1) := by decide +kernel
theorem dX3_cut_30 : decode cX3_cut 30 = .ok (.ireturn, 1) := by decide +kernel
theorem dX3_cut_31 : decode cX3_cut 31 = .ok (.iload_n 0, 1) := by decide +kernel
theorem dX3_cut_32 : decode cX3_cut 32 = .ok (.i2s, 1) := by decide +kernel
theorem dX3_cut_33 : decode cX3_cut 33 = .ok (.ireturn, 1) := by decide +kernel
theorem dX3_cut_34 : decode cX3_cut 34 = .ok (.iload_n 0, 1) := by decide +kernel
theorem dX3_cut_35 : decode cX3_cut 35 = .ok (.ireturn, 1) := by decide +kernel
theorem dJ6_bitCount_0f7a4_0 : decode cJ6_bitCount_0f7a4 0 = .ok (.iload_n 0, 1) := by decide +kernel
theorem dJ6_bitCount_0f7a4_1 : decode cJ6_bitCount_0f7a4 1 = .ok (.iload_n 0, 1) := by decide +kernel
theorem dJ6_bitCount_0f7a4_2 : decode cJ6_bitCount_0f7a4 2 = .ok (.iconst 1, 1) := by decide +kernel
theorem dJ6_bitCount_0f7a4_3 : decode cJ6_bitCount_0f7a4 3 = .ok (.iushr, 1) := by decide +kernel
theorem dJ6_bitCount_0f7a4_4 : decode cJ6_bitCount_0f7a4 4 = .ok (.ldc_w 265, 3) := by decide +kernel
theorem dJ6_bitCount_0f7a4_7 : decode cJ6_bitCount_0f7a4 7 = .ok (.iand, 1) := by decide +kernel
theorem dJ6_bitCount_0f7a4_8 : decode cJ6_bitCount_0f7a4 8 = .ok (.isub, 1) := by decide +kernel
theorem dJ6_bitCount_0f7a4_9 : decode cJ6_bitCount_0f7a4 9 = .ok (.istore_n 0, 1) := by decide +kernel
theorem dJ6_bitCount_0f7a4_10 : decode cJ6_bitCount_0f7a4 10 = .ok (.iload_n 0, 1) := by decide +kernel
theorem dJ6_bitCount_0f7a4_11 : decode cJ6_bitCount_0f7a4 11 = .ok (.ldc_w 266, 3) := by decide +kernel
theorem dJ6_bitCount_0f7a4_14 : decode cJ6_bitCount_0f7a4 14 = .ok (.iand, 1) := by decide +kernel
theorem dJ6_bitCount_0f7a4_15 : decode cJ6_bitCount_0f7a4 15 = .ok (.iload_n 0, 1) := by decide +kernel
theorem dJ6_bitCount_0f7a4_16 : decode cJ6_bitCount_0f7a4 16 = .ok (.iconst 2, 1) := by decide +kernel
theorem dJ6_bitCount_0f7a4_17 : decode cJ6_bitCount_0f7a4 17 = .ok (.iushr, 1) := by decide +kernel
theorem dJ6_bitCount_0f7a4_18 : decode cJ6_bitCount_0f7a4 18 = .ok (.ldc_w 266, 3) := by decide +kernel
theorem dJ6_bitCount_0f7a4_21 : decode cJ6_bitCount_0f7a4 21 = .ok (.iand, 1) := by decide +kernel
theorem dJ6_bitCount_0f7a4_22 : decode cJ6_bitCount_0f7a4 22 = .ok (.iadd, 1) := by decide +kernel
theorem dJ6_bitCount_0f7a4_23 : decode cJ6_bitCount_0f7a4 23 = .ok (.istore_n 0, 1) := by decide +kernel
theorem dJ6_bitCount_0f7a4_24 : decode cJ6_bitCount_0f7a4 24 = .ok (.iload_n 0, 1) := by decide +kernel
theorem dJ6_bitCount_0f7a4_25 : decode cJ6_bitCount_0f7a4 25 = .ok (.iload_n 0, 1) := by decide +kernel
theorem dJ6_bitCount_0f7a4_26 : decode cJ6_bitCount_0f7a4 26 = .ok (.iconst 4, 1) := by decide +kernel
theorem dJ6_bitCount_0f7a4_27 : decode cJ6_bitCount_0f7a4 27 = .ok (.iushr, 1) := by decide +kernel
theorem dJ6_bitCount_0f7a4_28 : decode cJ6_bitCount_0f7a4 28 = .ok (.iadd, 1) := by decide +kernel
theorem dJ6_bitCount_0f7a4_29 : decode cJ6_bitCount_0f7a4 29 = .ok (.ldc_w 267, 3) := by decide +kernel
theorem dJ6_bitCount_0f7a4_32 : decode cJ6_bitCount_0f7a4 32 = .ok (.iand, 1) := by decide +kernel
theorem dJ6_bitCount_0f7a4_33 : decode cJ6_bitCount_0f7a4 33 = .ok (.istore_n 0, 1) := by decide +kernel
theorem dJ6_bitCount_0f7a4_34 : decode cJ6_bitCount_0f7a4 34 = .ok (.iload_n 0, 1) := by decide +kernel
theorem dJ6_bitCount_0f7a4_35 : decode cJ6_bitCount_0f7a4 35 = .ok (.iload_n 0, 1) := by decide +kernel
theorem dJ6_bitCount_0f7a4_36 : decode cJ6_bitCount_0f7a4 36 = .ok (.bipush 8, 2) := by decide +kernel
theorem dJ6_bitCount_0f7a4_38 : decode cJ6_bitCount_0f7a4 38 = .ok (.iushr, 1) := by decide +kernel
theorem dJ6_bitCount_0f7a4_39 : decode cJ6_bitCount_0f7a4 39 = .ok (.iadd, 1) := by decide +kernel
theorem dJ6_bitCount_0f7a4_40 : decode cJ6_bitCount_0f7a4 40 = .ok (.istore_n 0, 1) := by decide +kernel
theorem dJ6_bitCount_0f7a4_41 : decode cJ6_bitCount_0f7a4 41 = .ok (.iload_n 0, 1) := by decide +kernel
theorem dJ6_bitCount_0f7a4_42 : decode cJ6_bitCount_0f7a4 42 = .ok (.iload_n 0, 1) := by decide +kernel
theorem dJ6_bitCount_0f7a4_43 : decode cJ6_bitCount_0f7a4 43 = .ok (.bipush 16, 2) := by decide +kernel
theorem dJ6_bitCount_0f7a4_45 : decode cJ6_bitCount_0f7a4 45 = .ok (.iushr, 1) := by decide +kernel
theorem dJ6_bitCount_0f7a4_46 : decode cJ6_bitCount_0f7a4 46 = .ok (.iadd, 1) := by decide +kernel
theorem dJ6_bitCount_0f7a4_47 : decode cJ6_bitCount_0f7a4 47 = .ok (.istore_n 0, 1) := by decide +kernel
theorem dJ6_bitCount_0f7a4_48 : decode cJ6_bitCount_0f7a4 48 = .ok (.iload_n 0, 1) := by decide +kernel
theorem dJ6_bitCount_0f7a4_49 : decode cJ6_bitCount_0f7a4 49 = .ok (.bipush 63, 2) := by decide +kernel
theorem dJ6_bitCount_0f7a4_51 : decode cJ6_bitCount_0f7a4 51 = .ok (.iand, 1) := by decide +kernel
theorem dJ6_bitCount_0f7a4_52 : decode cJ6_bitCount_0f7a4 52 = .ok (.ireturn, 1) := by decide +kernel
theorem dJ9_max_7cf53_0 : decode cJ9_max_7cf53 0 = .ok (.iload_n 0, 1) := by decide +kernel
theorem dJ9_max_7cf53_1 : decode cJ9_max_7cf53 1 = .ok (.iload_n 1, 1) := by decide +kernel
theorem dJ9_max_7cf53_2 : decode cJ9_max_7cf53 2 = .ok (.if_icmp .lt 7, 3) := by decide +kernel
theorem dJ9_max_7cf53_5 : decode cJ9_max_7cf53 5 = .ok (.iload_n 0, 1) := by decide +kernel
theorem dJ9_max_7cf53_6 : decode cJ9_max_7cf53 6 = .ok (.goto 4, 3) := by decide +kernel
theorem dJ9_max_7cf53_9 : decode cJ9_max_7cf53 9 = .ok (.iload_n 1, 1) := by decide +kernel
theorem dJ9_max_7cf53_10 : decode cJ9_max_7cf53 10 = .ok (.ireturn, 1) := by decide +kernel
theorem dJ7_rangeCheck_23922_0 : decode cJ7_rangeCheck_23922 0 = .ok (.iload_n 1, 1) := by decide +kernel
theorem dJ7_rangeCheck_23922_1 : decode cJ7_rangeCheck_23922 1 = .ok (.iload_n 2, 1) := by decide +kernel
theorem dJ7_rangeCheck_23922_2 : decode cJ7_rangeCheck_23922 2 = .ok (.if_icmp .le 44, 3) := by decide +kernel
theorem dJ7_rangeCheck_23922_5 : decode cJ7_rangeCheck_23922 5 = .ok (.new 43, 3) := by decide +kernel
theorem dJ7_rangeCheck_23922_8 : decode cJ7_rangeCheck_23922 8 = .ok (.dup, 1) := by decide +kernel
theorem dJ7_rangeCheck_23922_9 : decode cJ7_rangeCheck_23922 9 = .ok (.new 45, 3) := by decide +kernel
theorem dJ7_rangeCheck_23922_12 : decode cJ7_rangeCheck_23922 12 = .ok (.dup, 1) := by decide +kernel
theorem dJ7_rangeCheck_23922_13 : decode cJ7_rangeCheck_23922 13 = .ok (.invokespecial 47, 3) := by decide +kernel
theorem dJ7_rangeCheck_23922_16 : decode cJ7_rangeCheck_23922 16 = .ok (.ldc 48, 2) := by decide +kernel
theorem dJ7_rangeCheck_23922_18 : decode cJ7_rangeCheck_23922 18 = .ok (.invokevirtual 50, 3) := by decide +kernel
theorem dJ7_rangeCheck_23922_21 : decode cJ7_rangeCheck_23922 21 = .ok (.iload_n 1, 1) := by decide +kernel
theorem dJ7_rangeCheck_23922_22 : decode cJ7_rangeCheck_23922 22 = .ok (.invokevirtual 54, 3) := by decide +kernel
theorem dJ7_rangeCheck_23922_25 : decode cJ7_rangeCheck_23922 25 = .ok (.ldc 57, 2) := by decide +kernel
theorem dJ7_rangeCheck_23922_27 : decode cJ7_rangeCheck_23922 27 = .ok (.invokevirtual 50, 3) := by decide +kernel
theorem dJ7_rangeCheck_23922_30 : decode cJ7_rangeCheck_23922 30 = .ok (.iload_n 2, 1) := by decide +kernel
theorem dJ7_rangeCheck_23922_31 : decode cJ7_rangeCheck_23922 31 = .ok (.invokevirtual 54, 3) := by decide +kernel
theorem dJ7_rangeCheck_23922_34 : decode cJ7_rangeCheck_23922 34 = .ok (.ldc 59, 2) := by decide +kernel
theorem dJ7_rangeCheck_23922_36 : decode cJ7_rangeCheck_23922 36 = .ok (.invokevirtual 50, 3) := by decide +kernel
theorem dJ7_rangeCheck_23922_39 : decode cJ7_rangeCheck_23922 39 = .ok (.invokevirtual 61, 3) := by decide +kernel
theorem dJ7_rangeCheck_23922_42 : decode cJ7_rangeCheck_23922 42 = .ok (.invokespecial 65, 3) := by decide +kernel
theorem dJ7_rangeCheck_23922_45 : decode cJ7_rangeCheck_23922 45 = .ok (.athrow, 1) := by decide +kernel
theorem dJ7_rangeCheck_23922_46 : decode cJ7_rangeCheck_23922 46 = .ok (.iload_n 1, 1) := by decide +kernel
theorem dJ7_rangeCheck_23922_47 : decode cJ7_rangeCheck_23922 47 = .ok (.ifCond .ge 12, 3) := by decide +kernel
theorem dJ7_rangeCheck_23922_50 : decode cJ7_rangeCheck_23922 50 = .ok (.new 68, 3) := by decide +kernel
theorem dJ7_rangeCheck_23922_53 : decode cJ7_rangeCheck_23922 53 = .ok (.dup, 1) := by decide +kernel
theorem dJ7_rangeCheck_23922_54 : decode cJ7_rangeCheck_23922 54 = .ok (.iload_n 1, 1) := by decide +kernel
theorem dJ7_rangeCheck_23922_55 : decode cJ7_rangeCheck_23922 55 = .ok (.invokespecial 70, 3) := by decide +kernel
theorem dJ7_rangeCheck_23922_58 : decode cJ7_rangeCheck_23922 58 = .ok (.athrow, 1) := by decide +kernel
theorem dJ7_rangeCheck_23922_59 : decode cJ7_rangeCheck_23922 59 = .ok (.iload_n 2, 1) := by decide +kernel
theorem dJ7_rangeCheck_23922_60 : decode cJ7_rangeCheck_23922 60 = .ok (.iload_n 0, 1) := by decide +kernel
theorem dJ7_rangeCheck_23922_61 : decode cJ7_rangeCheck_23922 61 = .ok (.if_icmp .le 12, 3) := by decide +kernel
theorem dJ7_rangeCheck_23922_64 : decode cJ7_rangeCheck_23922 64 = .ok (.new 68, 3) := by decide +kernel
theorem dJ7_rangeCheck_23922_67 : decode cJ7_rangeCheck_23922 67 = .ok (.dup, 1) := by decide +kernel
theorem dJ7_rangeCheck_23922_68 : decode cJ7_rangeCheck_23922 68 = .ok (.iload_n 2, 1) := by decide +kernel
theorem dJ7_rangeCheck_23922_69 : decode cJ7_rangeCheck_23922 69 = .ok (.invokespecial 70, 3) := by decide +kernel
theorem dJ7_rangeCheck_23922_72 : decode cJ7_rangeCheck_23922 72 = .ok (.athrow, 1) := by decide +kernel
theorem dJ7_rangeCheck_23922_73 : decode cJ7_rangeCheck_23922 73 = .ok (.return_, 1) := by decide +kernel
theorem dJ7_fill_53178_0 : decode cJ7_fill_53178 0 = .ok (.iconst 0, 1) := by decide +kernel
theorem dJ7_fill_53178_1 : decode cJ7_fill_53178 1 = .ok (.istore_n 2, 1) := by decide +kernel
theorem dJ7_fill_53178_2 : decode cJ7_fill_53178 2 = .ok (.aload_n 0, 1) := by decide +kernel
theorem dJ7_fill_53178_3 : decode cJ7_fill_53178 3 = .ok (.arraylength, 1) := by decide +kernel
theorem dJ7_fill_53178_4 : decode cJ7_fill_53178 4 = .ok (.istore_n 3, 1) := by decide +kernel
theorem dJ7_fill_53178_5 : decode cJ7_fill_53178 5 = .ok (.iload_n 2, 1) := by decide +kernel
theorem dJ7_fill_53178_6 : decode cJ7_fill_53178 6 = .ok (.iload_n 3, 1) := by decide +kernel
theorem dJ7_fill_53178_7 : decode cJ7_fill_53178 7 = .ok (.if_icmp .ge 13, 3) := by decide +kernel
theorem dJ7_fill_53178_10 : decode cJ7_fill_53178 10 = .ok (.aload_n 0, 1) := by decide +kernel
theorem dJ7_fill_53178_11 : decode cJ7_fill_53178 11 = .ok (.iload_n 2, 1) := by decide +kernel
theorem dJ7_fill_53178_12 : decode cJ7_fill_53178 12 = .ok (.iload_n 1, 1) := by decide +kernel
theorem dJ7_fill_53178_13 : decode cJ7_fill_53178 13 = .ok (.iastore, 1) := by decide +kernel
theorem dJ7_fill_53178_14 : decode cJ7_fill_53178 14 = .ok (.iinc 2 1, 3) := by decide +kernel
theorem dJ7_fill_53178_17 : decode cJ7_fill_53178 17 = .ok (.goto (-12), 3) := by decide +kernel
theorem dJ7_fill_53178_20 : decode cJ7_fill_53178 20 = .ok (.return_, 1) := by decide +kernel
set_option maxRecDepth 20000 in
theorem ggJ7_fill_fda19_J7_rangeCheck_23922 : GoodIn wsJ7_fill_fda19 wsJ7_rangeCheck_23922 := goodIn_r _ [4] (by decide +kernel) (by decide +kernel)
set_option maxRecDepth 20000 in
theorem gJ7_fill_fda19_J7_rangeCheck_23922 : GoodIn wsJ7_fill_fda19 (va_wsS RJ7 13 yJ7_rangeCheck_23922 wsJ7_rangeCheck_23922) := goodIn_app (goodIn_of _ (by decide +kernel)) ggJ7_fill_fda19_J7_rangeCheck_23922
theorem dJ7_fill_fda19_0 : decode cJ7_fill_fda19 0 = .ok (.aload_n 0, 1) := by decide +kernel
theorem dJ7_fill_fda19_1 : decode cJ7_fill_fda19 1 = .ok (.arraylength, 1) := by decide +kernel
theorem dJ7_fill_fda19_2 : decode cJ7_fill_fda19 2 = .ok (.iload_n 1, 1) := by decide +kernel
theorem dJ7_fill_fda19_3 : decode cJ7_fill_fda19 3 = .ok (.iload_n 2, 1) := by decide +kernel
theorem dJ7_fill_fda19_4 : decode cJ7_fill_fda19 4 = .ok (.invokestatic 13, 3) := by decide +kernel
theorem dJ7_fill_fda19_7 : decode cJ7_fill_fda19 7 = .ok (.iload_n 1, 1) := by decide +kernel
theorem dJ7_fill_fda19_8 : decode cJ7_fill_fda19 8 = .ok (.istore 4, 2) := by decide +kernel
theorem dJ7_fill_fda19_10 : decode cJ7_fill_fda19 10 = .ok (.iload 4, 2) := by decide +kernel
theorem dJ7_fill_fda19_12 : decode cJ7_fill_fda19 12 = .ok (.iload_n 2, 1) := by decide +kernel
theorem dJ7_fill_fda19_13 : decode cJ7_fill_fda19 13 = .ok (.if_icmp .ge 14, 3) := by decide +kernel
theorem dJ7_fill_fda19_16 : decode cJ7_fill_fda19 16 = .ok (.aload_n 0, 1) := by decide +kernel
theorem dJ7_fill_fda19_17 : decode cJ7_fill_fda19 17 = .ok (.iload 4, 2) := by decide +kernel
theorem dJ7_fill_fda19_19 : decode cJ7_fill_fda19 19 = .ok (.iload_n 3, 1) := by decide +kernel
theorem dJ7_fill_fda19_20 : decode cJ7_fill_fda19 20 = .ok (.iastore, 1) := by decide +kernel
theorem dJ7_fill_fda19_21 : decode cJ7_fill_fda19 21 = .ok (.iinc 4 1, 3) := by decide +kernel
theorem dJ7_fill_fda19_24 : decode cJ7_fill_fda19 24 = .ok (.goto (-14), 3) := by decide +kernel
theorem dJ7_fill_fda19_27 : decode cJ7_fill_fda19 27 = .ok (.return_, 1) := by decide +kernel
