set_option maxRecDepth 20000 in
theorem ggL_law_X5_init : GoodIn wsL_law wsX5_init := sorry
set_option maxRecDepth 20000 in
theorem gL_law_X5_init : GoodIn wsL_law (wsX5_init) := sorry
set_option maxRecDepth 20000 in
theorem ggL_law_X6_init : GoodIn wsL_law wsX6_init := sorry
set_option maxRecDepth 20000 in
theorem gL_law_X6_init : GoodIn wsL_law (wsX6_init) := sorry
set_option maxRecDepth 20000 in
theorem ggL_law_X5_letter : GoodIn wsL_law wsX5_letter := sorry
set_option maxRecDepth 20000 in
theorem gL_law_X5_letter : GoodIn wsL_law (wsV RL 13 RX5 yX5_letter wsX5_letter) := sorry
set_option maxRecDepth 20000 in
theorem ggL_law_X6_letter : GoodIn wsL_law wsX6_letter := sorry
set_option maxRecDepth 20000 in
theorem gL_law_X6_letter : GoodIn wsL_law (wsV RL 17 RX6 yX6_letter wsX6_letter) := sorry
set_option maxRecDepth 20000 in
theorem ggL_law_X5_blank : GoodIn wsL_law wsX5_blank := sorry
set_option maxRecDepth 20000 in
theorem gL_law_X5_blank : GoodIn wsL_law (wsV RL 18 RX5 yX5_blank wsX5_blank) := sorry
set_option maxRecDepth 20000 in
theorem ggL_law_X6_blank : GoodIn wsL_law wsX6_blank := sorry
set_option maxRecDepth 20000 in
theorem gL_law_X6_blank : GoodIn wsL_law (wsV RL 22 RX6 yX6_blank wsX6_blank) := sorry
set_option maxRecDepth 20000 in
theorem ggL_law_X5_fault : GoodIn wsL_law wsX5_fault := sorry
set_option maxRecDepth 20000 in
theorem gL_law_X5_fault : GoodIn wsL_law (wsV RL 23 RX5 yX5_fault wsX5_fault) := sorry
set_option maxRecDepth 20000 in
theorem ggL_law_X6_fault : GoodIn wsL_law wsX6_fault := sorry
set_option maxRecDepth 20000 in
theorem gL_law_X6_fault : GoodIn wsL_law (wsV RL 26 RX6 yX6_fault wsX6_fault) := sorry
set_option maxRecDepth 20000 in
theorem ggL_law_X5_board : GoodIn wsL_law wsX5_board := sorry
set_option maxRecDepth 20000 in
theorem gL_law_X5_board : GoodIn wsL_law (wsV RL 27 RX5 yX5_board wsX5_board) := sorry
set_option maxRecDepth 20000 in
theorem ggL_law_X6_board : GoodIn wsL_law wsX6_board := sorry
set_option maxRecDepth 20000 in
theorem gL_law_X6_board : GoodIn wsL_law (wsV RL 30 RX6 yX6_board wsX6_board) := sorry
set_option maxRecDepth 20000 in
theorem ggL_law_X5_peg : GoodIn wsL_law wsX5_peg := sorry
set_option maxRecDepth 20000 in
theorem gL_law_X5_peg : GoodIn wsL_law (wsV RL 31 RX5 yX5_peg wsX5_peg) := sorry
set_option maxRecDepth 20000 in
theorem ggL_law_X6_peg : GoodIn wsL_law wsX6_peg := sorry
set_option maxRecDepth 20000 in
theorem gL_law_X6_peg : GoodIn wsL_law (wsV RL 35 RX6 yX6_peg wsX6_peg) := sorry
set_option maxRecDepth 20000 in
theorem ggL_law_X5_as : GoodIn wsL_law wsX5_as := sorry
set_option maxRecDepth 20000 in
theorem gL_law_X5_as : GoodIn wsL_law (wsV RL 36 RX5 yX5_as wsX5_as) := sorry
set_option maxRecDepth 20000 in
theorem ggL_law_X6_as : GoodIn wsL_law wsX6_as := sorry
set_option maxRecDepth 20000 in
theorem gL_law_X6_as : GoodIn wsL_law (wsV RL 39 RX6 yX6_as wsX6_as) := sorry
set_option maxRecDepth 20000 in
theorem ggL_law_X5_place : GoodIn wsL_law wsX5_place := sorry
set_option maxRecDepth 20000 in
theorem gL_law_X5_place : GoodIn wsL_law (wsV RL 40 RX5 yX5_place wsX5_place) := sorry
set_option maxRecDepth 20000 in
theorem ggL_law_X6_place : GoodIn wsL_law wsX6_place := sorry
set_option maxRecDepth 20000 in
theorem gL_law_X6_place : GoodIn wsL_law (wsV RL 43 RX6 yX6_place wsX6_place) := sorry
set_option maxRecDepth 20000 in
theorem ggL_law_X5_jump : GoodIn wsL_law wsX5_jump := sorry
set_option maxRecDepth 20000 in
theorem gL_law_X5_jump : GoodIn wsL_law (wsV RL 44 RX5 yX5_jump wsX5_jump) := sorry
set_option maxRecDepth 20000 in
theorem ggL_law_X6_jump : GoodIn wsL_law wsX6_jump := sorry
set_option maxRecDepth 20000 in
theorem gL_law_X6_jump : GoodIn wsL_law (wsV RL 47 RX6 yX6_jump wsX6_jump) := sorry
set_option maxRecDepth 20000 in
theorem ggL_law_X5_put : GoodIn wsL_law wsX5_put := sorry
set_option maxRecDepth 20000 in
theorem gL_law_X5_put : GoodIn wsL_law (wsV RL 48 RX5 yX5_put wsX5_put) := sorry
set_option maxRecDepth 20000 in
theorem ggL_law_X6_put : GoodIn wsL_law wsX6_put := sorry
set_option maxRecDepth 20000 in
theorem gL_law_X6_put : GoodIn wsL_law (wsV RL 51 RX6 yX6_put wsX6_put) := sorry
set_option maxRecDepth 20000 in
theorem ggL_law_X5_plug : GoodIn wsL_law wsX5_plug := sorry
set_option maxRecDepth 20000 in
theorem gL_law_X5_plug : GoodIn wsL_law (wsV RL 52 RX5 yX5_plug wsX5_plug) := sorry
set_option maxRecDepth 20000 in
theorem ggL_law_X6_plug : GoodIn wsL_law wsX6_plug := sorry
set_option maxRecDepth 20000 in
theorem gL_law_X6_plug : GoodIn wsL_law (wsV RL 55 RX6 yX6_plug wsX6_plug) := sorry
set_option maxRecDepth 20000 in
theorem ggL_law_X5_bore : GoodIn wsL_law wsX5_bore := sorry
set_option maxRecDepth 20000 in
theorem gL_law_X5_bore : GoodIn wsL_law (wsV RL 56 RX5 yX5_bore wsX5_bore) := sorry
set_option maxRecDepth 20000 in
theorem ggL_law_X6_bore : GoodIn wsL_law wsX6_bore := sorry
set_option maxRecDepth 20000 in
theorem gL_law_X6_bore : GoodIn wsL_law (wsV RL 59 RX6 yX6_bore wsX6_bore) := sorry
set_option maxRecDepth 20000 in
theorem ggL_law_X5_be : GoodIn wsL_law wsX5_be := sorry
set_option maxRecDepth 20000 in
theorem gL_law_X5_be : GoodIn wsL_law (wsV RL 60 RX5 yX5_be wsX5_be) := sorry
set_option maxRecDepth 20000 in
theorem ggL_law_X6_be : GoodIn wsL_law wsX6_be := sorry
set_option maxRecDepth 20000 in
theorem gL_law_X6_be : GoodIn wsL_law (wsV RL 63 RX6 yX6_be wsX6_be) := sorry
set_option maxRecDepth 20000 in
theorem ggL_law_X5_courses : GoodIn wsL_law wsX5_courses := sorry
set_option maxRecDepth 20000 in
theorem gL_law_X5_courses : GoodIn wsL_law (wsV RL 64 RX5 yX5_courses wsX5_courses) := sorry
set_option maxRecDepth 20000 in
theorem ggL_law_X6_courses : GoodIn wsL_law wsX6_courses := sorry
set_option maxRecDepth 20000 in
theorem gL_law_X6_courses : GoodIn wsL_law (wsV RL 67 RX6 yX6_courses wsX6_courses) := sorry
set_option maxRecDepth 20000 in
theorem ggL_law_X5_wins : GoodIn wsL_law wsX5_wins := sorry
set_option maxRecDepth 20000 in
theorem gL_law_X5_wins : GoodIn wsL_law (wsV RL 68 RX5 yX5_wins wsX5_wins) := sorry
set_option maxRecDepth 20000 in
theorem ggL_law_X6_wins : GoodIn wsL_law wsX6_wins := sorry
set_option maxRecDepth 20000 in
theorem gL_law_X6_wins : GoodIn wsL_law (wsV RL 71 RX6 yX6_wins wsX6_wins) := sorry
set_option maxRecDepth 20000 in
theorem ggL_law_X5_add : GoodIn wsL_law wsX5_add := sorry
set_option maxRecDepth 20000 in
theorem gL_law_X5_add : GoodIn wsL_law (wsV RL 72 RX5 yX5_add wsX5_add) := sorry
set_option maxRecDepth 20000 in
theorem ggL_law_X6_add : GoodIn wsL_law wsX6_add := sorry
set_option maxRecDepth 20000 in
theorem gL_law_X6_add : GoodIn wsL_law (wsV RL 75 RX6 yX6_add wsX6_add) := sorry
set_option maxRecDepth 20000 in
theorem ggL_law_X5_mean : GoodIn wsL_law wsX5_mean := sorry
set_option maxRecDepth 20000 in
theorem gL_law_X5_mean : GoodIn wsL_law (wsV RL 76 RX5 yX5_mean wsX5_mean) := sorry
set_option maxRecDepth 20000 in
theorem ggL_law_X6_mean : GoodIn wsL_law wsX6_mean := sorry
set_option maxRecDepth 20000 in
theorem gL_law_X6_mean : GoodIn wsL_law (wsV RL 79 RX6 yX6_mean wsX6_mean) := sorry
set_option maxRecDepth 20000 in
theorem ggL_law_X5_see : GoodIn wsL_law wsX5_see := sorry
set_option maxRecDepth 20000 in
theorem gL_law_X5_see : GoodIn wsL_law (wsV RL 80 RX5 yX5_see wsX5_see) := sorry
set_option maxRecDepth 20000 in
theorem ggL_law_X6_see : GoodIn wsL_law wsX6_see := sorry
set_option maxRecDepth 20000 in
theorem gL_law_X6_see : GoodIn wsL_law (wsV RL 84 RX6 yX6_see wsX6_see) := sorry
set_option maxRecDepth 20000 in
theorem ggL_law_X5_forget : GoodIn wsL_law wsX5_forget := sorry
set_option maxRecDepth 20000 in
theorem gL_law_X5_forget : GoodIn wsL_law (wsV RL 85 RX5 yX5_forget wsX5_forget) := sorry
set_option maxRecDepth 20000 in
theorem ggL_law_X6_forget : GoodIn wsL_law wsX6_forget := sorry
set_option maxRecDepth 20000 in
theorem gL_law_X6_forget : GoodIn wsL_law (wsV RL 88 RX6 yX6_forget wsX6_forget) := sorry
set_option maxRecDepth 20000 in
theorem ggL_law_X5_runs : GoodIn wsL_law wsX5_runs := sorry
set_option maxRecDepth 20000 in
theorem gL_law_X5_runs : GoodIn wsL_law (wsV RL 89 RX5 yX5_runs wsX5_runs) := sorry
set_option maxRecDepth 20000 in
theorem ggL_law_X6_runs : GoodIn wsL_law wsX6_runs := sorry
set_option maxRecDepth 20000 in
theorem gL_law_X6_runs : GoodIn wsL_law (wsV RL 93 RX6 yX6_runs wsX6_runs) := sorry
set_option maxRecDepth 20000 in
theorem ggL_law_X5_image : GoodIn wsL_law wsX5_image := sorry
set_option maxRecDepth 20000 in
theorem gL_law_X5_image : GoodIn wsL_law (wsV RL 94 RX5 yX5_image wsX5_image) := sorry
set_option maxRecDepth 20000 in
theorem ggL_law_X6_image : GoodIn wsL_law wsX6_image := sorry
set_option maxRecDepth 20000 in
theorem gL_law_X6_image : GoodIn wsL_law (wsV RL 97 RX6 yX6_image wsX6_image) := sorry
set_option maxRecDepth 20000 in
theorem ggL_law_X5_restore : GoodIn wsL_law wsX5_restore := sorry
set_option maxRecDepth 20000 in
theorem gL_law_X5_restore : GoodIn wsL_law (wsV RL 98 RX5 yX5_restore wsX5_restore) := sorry
set_option maxRecDepth 20000 in
theorem ggL_law_X6_restore : GoodIn wsL_law wsX6_restore := sorry
set_option maxRecDepth 20000 in
theorem gL_law_X6_restore : GoodIn wsL_law (wsV RL 101 RX6 yX6_restore wsX6_restore) := sorry
set_option maxRecDepth 20000 in
theorem ggL_law_X5_count : GoodIn wsL_law wsX5_count := sorry
set_option maxRecDepth 20000 in
theorem gL_law_X5_count : GoodIn wsL_law (wsV RL 102 RX5 yX5_count wsX5_count) := sorry
set_option maxRecDepth 20000 in
theorem ggL_law_X6_count : GoodIn wsL_law wsX6_count := sorry
set_option maxRecDepth 20000 in
theorem gL_law_X6_count : GoodIn wsL_law (wsV RL 105 RX6 yX6_count wsX6_count) := sorry
set_option maxRecDepth 20000 in
theorem ggL_law_X5_digest : GoodIn wsL_law wsX5_digest := sorry
set_option maxRecDepth 20000 in
theorem gL_law_X5_digest : GoodIn wsL_law (wsV RL 106 RX5 yX5_digest wsX5_digest) := sorry
set_option maxRecDepth 20000 in
theorem ggL_law_X6_digest : GoodIn wsL_law wsX6_digest := sorry
set_option maxRecDepth 20000 in
theorem gL_law_X6_digest : GoodIn wsL_law (wsV RL 110 RX6 yX6_digest wsX6_digest) := sorry
theorem dL_law_0 : decode cL_law 0 = .ok (.new 7, 3) := sorry
theorem dL_law_3 : decode cL_law 3 = .ok (.dup, 1) := sorry
theorem dL_law_4 : decode cL_law 4 = .ok (.invokespecial 9, 3) := sorry
theorem dL_law_7 : decode cL_law 7 = .ok (.astore_n 1, 1) := sorry
theorem dL_law_8 : decode cL_law 8 = .ok (.new 10, 3) := sorry
theorem dL_law_11 : decode cL_law 11 = .ok (.dup, 1) := sorry
theorem dL_law_12 : decode cL_law 12 = .ok (.invokespecial 12, 3) := sorry
theorem dL_law_15 : decode cL_law 15 = .ok (.astore_n 2, 1) := sorry
theorem dL_law_16 : decode cL_law 16 = .ok (.iconst 0, 1) := sorry
theorem dL_law_17 : decode cL_law 17 = .ok (.istore_n 3, 1) := sorry
theorem dL_law_18 : decode cL_law 18 = .ok (.iload_n 3, 1) := sorry
theorem dL_law_19 : decode cL_law 19 = .ok (.aload_n 0, 1) := sorry
theorem dL_law_20 : decode cL_law 20 = .ok (.arraylength, 1) := sorry
theorem dL_law_21 : decode cL_law 21 = .ok (.iconst 4, 1) := sorry
theorem dL_law_22 : decode cL_law 22 = .ok (.isub, 1) := sorry
theorem dL_law_23 : decode cL_law 23 = .ok (.if_icmp .gt 679, 3) := sorry
theorem dL_law_26 : decode cL_law 26 = .ok (.aload_n 0, 1) := sorry
theorem dL_law_27 : decode cL_law 27 = .ok (.iload_n 3, 1) := sorry
theorem dL_law_28 : decode cL_law 28 = .ok (.iaload, 1) := sorry
theorem dL_law_29 : decode cL_law 29 = .ok (.bipush 31, 2) := sorry
theorem dL_law_31 : decode cL_law 31 = .ok (.iand, 1) := sorry
theorem dL_law_32 : decode cL_law 32 = .ok (.tableswitch 664 0 22 #[108, 131, 144, 157, 170, 203, 236, 269, 302, 335, 358, 381, 414, 437, 460, 473, 486, 545, 558, 601, 614, 627, 650], 108) := sorry
theorem dL_law_140 : decode cL_law 140 = .ok (.aload_n 1, 1) := sorry
theorem dL_law_141 : decode cL_law 141 = .ok (.aload_n 0, 1) := sorry
theorem dL_law_142 : decode cL_law 142 = .ok (.iload_n 3, 1) := sorry
theorem dL_law_143 : decode cL_law 143 = .ok (.iconst 1, 1) := sorry
theorem dL_law_144 : decode cL_law 144 = .ok (.iadd, 1) := sorry
theorem dL_law_145 : decode cL_law 145 = .ok (.iaload, 1) := sorry
theorem dL_law_146 : decode cL_law 146 = .ok (.invokevirtual 13, 3) := sorry
theorem dL_law_149 : decode cL_law 149 = .ok (.aload_n 2, 1) := sorry
theorem dL_law_150 : decode cL_law 150 = .ok (.aload_n 0, 1) := sorry
theorem dL_law_151 : decode cL_law 151 = .ok (.iload_n 3, 1) := sorry
theorem dL_law_152 : decode cL_law 152 = .ok (.iconst 1, 1) := sorry
theorem dL_law_153 : decode cL_law 153 = .ok (.iadd, 1) := sorry
theorem dL_law_154 : decode cL_law 154 = .ok (.iaload, 1) := sorry
theorem dL_law_155 : decode cL_law 155 = .ok (.invokevirtual 17, 3) := sorry
theorem dL_law_158 : decode cL_law 158 = .ok (.if_icmp .eq 538, 3) := sorry
theorem dL_law_161 : decode cL_law 161 = .ok (.iconst 0, 1) := sorry
theorem dL_law_162 : decode cL_law 162 = .ok (.ireturn, 1) := sorry
theorem dL_law_163 : decode cL_law 163 = .ok (.aload_n 1, 1) := sorry
theorem dL_law_164 : decode cL_law 164 = .ok (.invokevirtual 18, 3) := sorry
theorem dL_law_167 : decode cL_law 167 = .ok (.aload_n 2, 1) := sorry
theorem dL_law_168 : decode cL_law 168 = .ok (.invokevirtual 22, 3) := sorry
theorem dL_law_171 : decode cL_law 171 = .ok (.if_icmp .eq 525, 3) := sorry
theorem dL_law_174 : decode cL_law 174 = .ok (.iconst 0, 1) := sorry
theorem dL_law_175 : decode cL_law 175 = .ok (.ireturn, 1) := sorry
theorem dL_law_176 : decode cL_law 176 = .ok (.aload_n 1, 1) := sorry
theorem dL_law_177 : decode cL_law 177 = .ok (.invokevirtual 23, 3) := sorry
theorem dL_law_180 : decode cL_law 180 = .ok (.aload_n 2, 1) := sorry
theorem dL_law_181 : decode cL_law 181 = .ok (.invokevirtual 26, 3) := sorry
theorem dL_law_184 : decode cL_law 184 = .ok (.if_icmp .eq 512, 3) := sorry
theorem dL_law_187 : decode cL_law 187 = .ok (.iconst 0, 1) := sorry
theorem dL_law_188 : decode cL_law 188 = .ok (.ireturn, 1) := sorry
theorem dL_law_189 : decode cL_law 189 = .ok (.aload_n 1, 1) := sorry
theorem dL_law_190 : decode cL_law 190 = .ok (.invokevirtual 27, 3) := sorry
theorem dL_law_193 : decode cL_law 193 = .ok (.aload_n 2, 1) := sorry
theorem dL_law_194 : decode cL_law 194 = .ok (.invokevirtual 30, 3) := sorry
theorem dL_law_197 : decode cL_law 197 = .ok (.if_icmp .eq 499, 3) := sorry
theorem dL_law_200 : decode cL_law 200 = .ok (.iconst 0, 1) := sorry
theorem dL_law_201 : decode cL_law 201 = .ok (.ireturn, 1) := sorry
theorem dL_law_202 : decode cL_law 202 = .ok (.aload_n 1, 1) := sorry
theorem dL_law_203 : decode cL_law 203 = .ok (.aload_n 0, 1) := sorry
theorem dL_law_204 : decode cL_law 204 = .ok (.iload_n 3, 1) := sorry
theorem dL_law_205 : decode cL_law 205 = .ok (.iconst 1, 1) := sorry
theorem dL_law_206 : decode cL_law 206 = .ok (.iadd, 1) := sorry
theorem dL_law_207 : decode cL_law 207 = .ok (.iaload, 1) := sorry
theorem dL_law_208 : decode cL_law 208 = .ok (.aload_n 0, 1) := sorry
theorem dL_law_209 : decode cL_law 209 = .ok (.iload_n 3, 1) := sorry
theorem dL_law_210 : decode cL_law 210 = .ok (.iconst 2, 1) := sorry
theorem dL_law_211 : decode cL_law 211 = .ok (.iadd, 1) := sorry
theorem dL_law_212 : decode cL_law 212 = .ok (.iaload, 1) := sorry
theorem dL_law_213 : decode cL_law 213 = .ok (.invokevirtual 31, 3) := sorry
theorem dL_law_216 : decode cL_law 216 = .ok (.aload_n 2, 1) := sorry
theorem dL_law_217 : decode cL_law 217 = .ok (.aload_n 0, 1) := sorry
theorem dL_law_218 : decode cL_law 218 = .ok (.iload_n 3, 1) := sorry
theorem dL_law_219 : decode cL_law 219 = .ok (.iconst 1, 1) := sorry
theorem dL_law_220 : decode cL_law 220 = .ok (.iadd, 1) := sorry
theorem dL_law_221 : decode cL_law 221 = .ok (.iaload, 1) := sorry
theorem dL_law_222 : decode cL_law 222 = .ok (.aload_n 0, 1) := sorry
theorem dL_law_223 : decode cL_law 223 = .ok (.iload_n 3, 1) := sorry
theorem dL_law_224 : decode cL_law 224 = .ok (.iconst 2, 1) := sorry
theorem dL_law_225 : decode cL_law 225 = .ok (.iadd, 1) := sorry
theorem dL_law_226 : decode cL_law 226 = .ok (.iaload, 1) := sorry
theorem dL_law_227 : decode cL_law 227 = .ok (.invokevirtual 35, 3) := sorry
theorem dL_law_230 : decode cL_law 230 = .ok (.if_icmp .eq 466, 3) := sorry
theorem dL_law_233 : decode cL_law 233 = .ok (.iconst 0, 1) := sorry
theorem dL_law_234 : decode cL_law 234 = .ok (.ireturn, 1) := sorry
theorem dL_law_235 : decode cL_law 235 = .ok (.aload_n 1, 1) := sorry
theorem dL_law_236 : decode cL_law 236 = .ok (.aload_n 0, 1) := sorry
theorem dL_law_237 : decode cL_law 237 = .ok (.iload_n 3, 1) := sorry
theorem dL_law_238 : decode cL_law 238 = .ok (.iconst 1, 1) := sorry
theorem dL_law_239 : decode cL_law 239 = .ok (.iadd, 1) := sorry
theorem dL_law_240 : decode cL_law 240 = .ok (.iaload, 1) := sorry
theorem dL_law_241 : decode cL_law 241 = .ok (.aload_n 0, 1) := sorry
theorem dL_law_242 : decode cL_law 242 = .ok (.iload_n 3, 1) := sorry
theorem dL_law_243 : decode cL_law 243 = .ok (.iconst 2, 1) := sorry
theorem dL_law_244 : decode cL_law 244 = .ok (.iadd, 1) := sorry
theorem dL_law_245 : decode cL_law 245 = .ok (.iaload, 1) := sorry
theorem dL_law_246 : decode cL_law 246 = .ok (.invokevirtual 36, 3) := sorry
theorem dL_law_249 : decode cL_law 249 = .ok (.aload_n 2, 1) := sorry
theorem dL_law_250 : decode cL_law 250 = .ok (.aload_n 0, 1) := sorry
theorem dL_law_251 : decode cL_law 251 = .ok (.iload_n 3, 1) := sorry
theorem dL_law_252 : decode cL_law 252 = .ok (.iconst 1, 1) := sorry
theorem dL_law_253 : decode cL_law 253 = .ok (.iadd, 1) := sorry
theorem dL_law_254 : decode cL_law 254 = .ok (.iaload, 1) := sorry
theorem dL_law_255 : decode cL_law 255 = .ok (.aload_n 0, 1) := sorry
theorem dL_law_256 : decode cL_law 256 = .ok (.iload_n 3, 1) := sorry
theorem dL_law_257 : decode cL_law 257 = .ok (.iconst 2, 1) := sorry
theorem dL_law_258 : decode cL_law 258 = .ok (.iadd, 1) := sorry
theorem dL_law_259 : decode cL_law 259 = .ok (.iaload, 1) := sorry
theorem dL_law_260 : decode cL_law 260 = .ok (.invokevirtual 39, 3) := sorry
theorem dL_law_263 : decode cL_law 263 = .ok (.if_icmp .eq 433, 3) := sorry
theorem dL_law_266 : decode cL_law 266 = .ok (.iconst 0, 1) := sorry
theorem dL_law_267 : decode cL_law 267 = .ok (.ireturn, 1) := sorry
theorem dL_law_268 : decode cL_law 268 = .ok (.aload_n 1, 1) := sorry
theorem dL_law_269 : decode cL_law 269 = .ok (.aload_n 0, 1) := sorry
theorem dL_law_270 : decode cL_law 270 = .ok (.iload_n 3, 1) := sorry
theorem dL_law_271 : decode cL_law 271 = .ok (.iconst 1, 1) := sorry
theorem dL_law_272 : decode cL_law 272 = .ok (.iadd, 1) := sorry
theorem dL_law_273 : decode cL_law 273 = .ok (.iaload, 1) := sorry
theorem dL_law_274 : decode cL_law 274 = .ok (.aload_n 0, 1) := sorry
theorem dL_law_275 : decode cL_law 275 = .ok (.iload_n 3, 1) := sorry
theorem dL_law_276 : decode cL_law 276 = .ok (.iconst 2, 1) := sorry
theorem dL_law_277 : decode cL_law 277 = .ok (.iadd, 1) := sorry
theorem dL_law_278 : decode cL_law 278 = .ok (.iaload, 1) := sorry
theorem dL_law_279 : decode cL_law 279 = .ok (.invokevirtual 40, 3) := sorry
theorem dL_law_282 : decode cL_law 282 = .ok (.aload_n 2, 1) := sorry
theorem dL_law_283 : decode cL_law 283 = .ok (.aload_n 0, 1) := sorry
theorem dL_law_284 : decode cL_law 284 = .ok (.iload_n 3, 1) := sorry
theorem dL_law_285 : decode cL_law 285 = .ok (.iconst 1, 1) := sorry
theorem dL_law_286 : decode cL_law 286 = .ok (.iadd, 1) := sorry
theorem dL_law_287 : decode cL_law 287 = .ok (.iaload, 1) := sorry
theorem dL_law_288 : decode cL_law 288 = .ok (.aload_n 0, 1) := sorry
theorem dL_law_289 : decode cL_law 289 = .ok (.iload_n 3, 1) := sorry
theorem dL_law_290 : decode cL_law 290 = .ok (.iconst 2, 1) := sorry
theorem dL_law_291 : decode cL_law 291 = .ok (.iadd, 1) := sorry
theorem dL_law_292 : decode cL_law 292 = .ok (.iaload, 1) := sorry
theorem dL_law_293 : decode cL_law 293 = .ok (.invokevirtual 43, 3) := sorry
theorem dL_law_296 : decode cL_law 296 = .ok (.if_icmp .eq 400, 3) := sorry
theorem dL_law_299 : decode cL_law 299 = .ok (.iconst 0, 1) := sorry
theorem dL_law_300 : decode cL_law 300 = .ok (.ireturn, 1) := sorry
theorem dL_law_301 : decode cL_law 301 = .ok (.aload_n 1, 1) := sorry
theorem dL_law_302 : decode cL_law 302 = .ok (.aload_n 0, 1) := sorry
theorem dL_law_303 : decode cL_law 303 = .ok (.iload_n 3, 1) := sorry
theorem dL_law_304 : decode cL_law 304 = .ok (.iconst 1, 1) := sorry
theorem dL_law_305 : decode cL_law 305 = .ok (.iadd, 1) := sorry
theorem dL_law_306 : decode cL_law 306 = .ok (.iaload, 1) := sorry
theorem dL_law_307 : decode cL_law 307 = .ok (.aload_n 0, 1) := sorry
theorem dL_law_308 : decode cL_law 308 = .ok (.iload_n 3, 1) := sorry
theorem dL_law_309 : decode cL_law 309 = .ok (.iconst 2, 1) := sorry
theorem dL_law_310 : decode cL_law 310 = .ok (.iadd, 1) := sorry
theorem dL_law_311 : decode cL_law 311 = .ok (.iaload, 1) := sorry
theorem dL_law_312 : decode cL_law 312 = .ok (.invokevirtual 44, 3) := sorry
theorem dL_law_315 : decode cL_law 315 = .ok (.aload_n 2, 1) := sorry
theorem dL_law_316 : decode cL_law 316 = .ok (.aload_n 0, 1) := sorry
theorem dL_law_317 : decode cL_law 317 = .ok (.iload_n 3, 1) := sorry
theorem dL_law_318 : decode cL_law 318 = .ok (.iconst 1, 1) := sorry
theorem dL_law_319 : decode cL_law 319 = .ok (.iadd, 1) := sorry
theorem dL_law_320 : decode cL_law 320 = .ok (.iaload, 1) := sorry
theorem dL_law_321 : decode cL_law 321 = .ok (.aload_n 0, 1) := sorry
theorem dL_law_322 : decode cL_law 322 = .ok (.iload_n 3, 1) := sorry
theorem dL_law_323 : decode cL_law 323 = .ok (.iconst 2, 1) := sorry
theorem dL_law_324 : decode cL_law 324 = .ok (.iadd, 1) := sorry
theorem dL_law_325 : decode cL_law 325 = .ok (.iaload, 1) := sorry
theorem dL_law_326 : decode cL_law 326 = .ok (.invokevirtual 47, 3) := sorry
theorem dL_law_329 : decode cL_law 329 = .ok (.if_icmp .eq 367, 3) := sorry
theorem dL_law_332 : decode cL_law 332 = .ok (.iconst 0, 1) := sorry
theorem dL_law_333 : decode cL_law 333 = .ok (.ireturn, 1) := sorry
theorem dL_law_334 : decode cL_law 334 = .ok (.aload_n 1, 1) := sorry
theorem dL_law_335 : decode cL_law 335 = .ok (.aload_n 0, 1) := sorry
theorem dL_law_336 : decode cL_law 336 = .ok (.iload_n 3, 1) := sorry
theorem dL_law_337 : decode cL_law 337 = .ok (.iconst 1, 1) := sorry
theorem dL_law_338 : decode cL_law 338 = .ok (.iadd, 1) := sorry
theorem dL_law_339 : decode cL_law 339 = .ok (.iaload, 1) := sorry
theorem dL_law_340 : decode cL_law 340 = .ok (.aload_n 0, 1) := sorry
theorem dL_law_341 : decode cL_law 341 = .ok (.iload_n 3, 1) := sorry
theorem dL_law_342 : decode cL_law 342 = .ok (.iconst 2, 1) := sorry
theorem dL_law_343 : decode cL_law 343 = .ok (.iadd, 1) := sorry
theorem dL_law_344 : decode cL_law 344 = .ok (.iaload, 1) := sorry
theorem dL_law_345 : decode cL_law 345 = .ok (.invokevirtual 48, 3) := sorry
theorem dL_law_348 : decode cL_law 348 = .ok (.aload_n 2, 1) := sorry
theorem dL_law_349 : decode cL_law 349 = .ok (.aload_n 0, 1) := sorry
theorem dL_law_350 : decode cL_law 350 = .ok (.iload_n 3, 1) := sorry
theorem dL_law_351 : decode cL_law 351 = .ok (.iconst 1, 1) := sorry
theorem dL_law_352 : decode cL_law 352 = .ok (.iadd, 1) := sorry
theorem dL_law_353 : decode cL_law 353 = .ok (.iaload, 1) := sorry
theorem dL_law_354 : decode cL_law 354 = .ok (.aload_n 0, 1) := sorry
theorem dL_law_355 : decode cL_law 355 = .ok (.iload_n 3, 1) := sorry
theorem dL_law_356 : decode cL_law 356 = .ok (.iconst 2, 1) := sorry
theorem dL_law_357 : decode cL_law 357 = .ok (.iadd, 1) := sorry
theorem dL_law_358 : decode cL_law 358 = .ok (.iaload, 1) := sorry
theorem dL_law_359 : decode cL_law 359 = .ok (.invokevirtual 51, 3) := sorry
theorem dL_law_362 : decode cL_law 362 = .ok (.if_icmp .eq 334, 3) := sorry
theorem dL_law_365 : decode cL_law 365 = .ok (.iconst 0, 1) := sorry
theorem dL_law_366 : decode cL_law 366 = .ok (.ireturn, 1) := sorry
theorem dL_law_367 : decode cL_law 367 = .ok (.aload_n 1, 1) := sorry
theorem dL_law_368 : decode cL_law 368 = .ok (.aload_n 0, 1) := sorry
theorem dL_law_369 : decode cL_law 369 = .ok (.iload_n 3, 1) := sorry
theorem dL_law_370 : decode cL_law 370 = .ok (.iconst 1, 1) := sorry
theorem dL_law_371 : decode cL_law 371 = .ok (.iadd, 1) := sorry
theorem dL_law_372 : decode cL_law 372 = .ok (.iaload, 1) := sorry
theorem dL_law_373 : decode cL_law 373 = .ok (.invokevirtual 52, 3) := sorry
theorem dL_law_376 : decode cL_law 376 = .ok (.aload_n 2, 1) := sorry
theorem dL_law_377 : decode cL_law 377 = .ok (.aload_n 0, 1) := sorry
theorem dL_law_378 : decode cL_law 378 = .ok (.iload_n 3, 1) := sorry
theorem dL_law_379 : decode cL_law 379 = .ok (.iconst 1, 1) := sorry
theorem dL_law_380 : decode cL_law 380 = .ok (.iadd, 1) := sorry
theorem dL_law_381 : decode cL_law 381 = .ok (.iaload, 1) := sorry
theorem dL_law_382 : decode cL_law 382 = .ok (.invokevirtual 55, 3) := sorry
theorem dL_law_385 : decode cL_law 385 = .ok (.if_icmp .eq 311, 3) := sorry
theorem dL_law_388 : decode cL_law 388 = .ok (.iconst 0, 1) := sorry
theorem dL_law_389 : decode cL_law 389 = .ok (.ireturn, 1) := sorry
theorem dL_law_390 : decode cL_law 390 = .ok (.aload_n 1, 1) := sorry
theorem dL_law_391 : decode cL_law 391 = .ok (.aload_n 0, 1) := sorry
theorem dL_law_392 : decode cL_law 392 = .ok (.iload_n 3, 1) := sorry
theorem dL_law_393 : decode cL_law 393 = .ok (.iconst 1, 1) := sorry
theorem dL_law_394 : decode cL_law 394 = .ok (.iadd, 1) := sorry
theorem dL_law_395 : decode cL_law 395 = .ok (.iaload, 1) := sorry
theorem dL_law_396 : decode cL_law 396 = .ok (.invokevirtual 56, 3) := sorry
theorem dL_law_399 : decode cL_law 399 = .ok (.aload_n 2, 1) := sorry
theorem dL_law_400 : decode cL_law 400 = .ok (.aload_n 0, 1) := sorry
theorem dL_law_401 : decode cL_law 401 = .ok (.iload_n 3, 1) := sorry
theorem dL_law_402 : decode cL_law 402 = .ok (.iconst 1, 1) := sorry
theorem dL_law_403 : decode cL_law 403 = .ok (.iadd, 1) := sorry
theorem dL_law_404 : decode cL_law 404 = .ok (.iaload, 1) := sorry
theorem dL_law_405 : decode cL_law 405 = .ok (.invokevirtual 59, 3) := sorry
theorem dL_law_408 : decode cL_law 408 = .ok (.if_icmp .eq 288, 3) := sorry
theorem dL_law_411 : decode cL_law 411 = .ok (.iconst 0, 1) := sorry
theorem dL_law_412 : decode cL_law 412 = .ok (.ireturn, 1) := sorry
theorem dL_law_413 : decode cL_law 413 = .ok (.aload_n 1, 1) := sorry
theorem dL_law_414 : decode cL_law 414 = .ok (.aload_n 0, 1) := sorry
theorem dL_law_415 : decode cL_law 415 = .ok (.iload_n 3, 1) := sorry
theorem dL_law_416 : decode cL_law 416 = .ok (.iconst 1, 1) := sorry
theorem dL_law_417 : decode cL_law 417 = .ok (.iadd, 1) := sorry
theorem dL_law_418 : decode cL_law 418 = .ok (.iaload, 1) := sorry
theorem dL_law_419 : decode cL_law 419 = .ok (.aload_n 0, 1) := sorry
theorem dL_law_420 : decode cL_law 420 = .ok (.iload_n 3, 1) := sorry
theorem dL_law_421 : decode cL_law 421 = .ok (.iconst 2, 1) := sorry
theorem dL_law_422 : decode cL_law 422 = .ok (.iadd, 1) := sorry
theorem dL_law_423 : decode cL_law 423 = .ok (.iaload, 1) := sorry
theorem dL_law_424 : decode cL_law 424 = .ok (.invokevirtual 60, 3) := sorry
theorem dL_law_427 : decode cL_law 427 = .ok (.aload_n 2, 1) := sorry
theorem dL_law_428 : decode cL_law 428 = .ok (.aload_n 0, 1) := sorry
theorem dL_law_429 : decode cL_law 429 = .ok (.iload_n 3, 1) := sorry
theorem dL_law_430 : decode cL_law 430 = .ok (.iconst 1, 1) := sorry
theorem dL_law_431 : decode cL_law 431 = .ok (.iadd, 1) := sorry
theorem dL_law_432 : decode cL_law 432 = .ok (.iaload, 1) := sorry
theorem dL_law_433 : decode cL_law 433 = .ok (.aload_n 0, 1) := sorry
theorem dL_law_434 : decode cL_law 434 = .ok (.iload_n 3, 1) := sorry
theorem dL_law_435 : decode cL_law 435 = .ok (.iconst 2, 1) := sorry
theorem dL_law_436 : decode cL_law 436 = .ok (.iadd, 1) := sorry
theorem dL_law_437 : decode cL_law 437 = .ok (.iaload, 1) := sorry
theorem dL_law_438 : decode cL_law 438 = .ok (.invokevirtual 63, 3) := sorry
theorem dL_law_441 : decode cL_law 441 = .ok (.if_icmp .eq 255, 3) := sorry
theorem dL_law_444 : decode cL_law 444 = .ok (.iconst 0, 1) := sorry
theorem dL_law_445 : decode cL_law 445 = .ok (.ireturn, 1) := sorry
theorem dL_law_446 : decode cL_law 446 = .ok (.aload_n 1, 1) := sorry
theorem dL_law_447 : decode cL_law 447 = .ok (.aload_n 0, 1) := sorry
theorem dL_law_448 : decode cL_law 448 = .ok (.iload_n 3, 1) := sorry
theorem dL_law_449 : decode cL_law 449 = .ok (.iconst 1, 1) := sorry
theorem dL_law_450 : decode cL_law 450 = .ok (.iadd, 1) := sorry
theorem dL_law_451 : decode cL_law 451 = .ok (.iaload, 1) := sorry
theorem dL_law_452 : decode cL_law 452 = .ok (.invokevirtual 64, 3) := sorry
theorem dL_law_455 : decode cL_law 455 = .ok (.aload_n 2, 1) := sorry
theorem dL_law_456 : decode cL_law 456 = .ok (.aload_n 0, 1) := sorry
theorem dL_law_457 : decode cL_law 457 = .ok (.iload_n 3, 1) := sorry
theorem dL_law_458 : decode cL_law 458 = .ok (.iconst 1, 1) := sorry
theorem dL_law_459 : decode cL_law 459 = .ok (.iadd, 1) := sorry
theorem dL_law_460 : decode cL_law 460 = .ok (.iaload, 1) := sorry
theorem dL_law_461 : decode cL_law 461 = .ok (.invokevirtual 67, 3) := sorry
theorem dL_law_464 : decode cL_law 464 = .ok (.if_icmp .eq 232, 3) := sorry
theorem dL_law_467 : decode cL_law 467 = .ok (.iconst 0, 1) := sorry
theorem dL_law_468 : decode cL_law 468 = .ok (.ireturn, 1) := sorry
theorem dL_law_469 : decode cL_law 469 = .ok (.aload_n 1, 1) := sorry
theorem dL_law_470 : decode cL_law 470 = .ok (.aload_n 0, 1) := sorry
theorem dL_law_471 : decode cL_law 471 = .ok (.iload_n 3, 1) := sorry
theorem dL_law_472 : decode cL_law 472 = .ok (.iconst 1, 1) := sorry
theorem dL_law_473 : decode cL_law 473 = .ok (.iadd, 1) := sorry
theorem dL_law_474 : decode cL_law 474 = .ok (.iaload, 1) := sorry
theorem dL_law_475 : decode cL_law 475 = .ok (.invokevirtual 68, 3) := sorry
theorem dL_law_478 : decode cL_law 478 = .ok (.aload_n 2, 1) := sorry
theorem dL_law_479 : decode cL_law 479 = .ok (.aload_n 0, 1) := sorry
theorem dL_law_480 : decode cL_law 480 = .ok (.iload_n 3, 1) := sorry
theorem dL_law_481 : decode cL_law 481 = .ok (.iconst 1, 1) := sorry
theorem dL_law_482 : decode cL_law 482 = .ok (.iadd, 1) := sorry
theorem dL_law_483 : decode cL_law 483 = .ok (.iaload, 1) := sorry
theorem dL_law_484 : decode cL_law 484 = .ok (.invokevirtual 71, 3) := sorry
theorem dL_law_487 : decode cL_law 487 = .ok (.if_icmp .eq 209, 3) := sorry
theorem dL_law_490 : decode cL_law 490 = .ok (.iconst 0, 1) := sorry
theorem dL_law_491 : decode cL_law 491 = .ok (.ireturn, 1) := sorry
theorem dL_law_492 : decode cL_law 492 = .ok (.aload_n 1, 1) := sorry
theorem dL_law_493 : decode cL_law 493 = .ok (.invokevirtual 72, 3) := sorry
theorem dL_law_496 : decode cL_law 496 = .ok (.aload_n 2, 1) := sorry
theorem dL_law_497 : decode cL_law 497 = .ok (.invokevirtual 75, 3) := sorry
theorem dL_law_500 : decode cL_law 500 = .ok (.if_icmp .eq 196, 3) := sorry
theorem dL_law_503 : decode cL_law 503 = .ok (.iconst 0, 1) := sorry
theorem dL_law_504 : decode cL_law 504 = .ok (.ireturn, 1) := sorry
theorem dL_law_505 : decode cL_law 505 = .ok (.aload_n 1, 1) := sorry
theorem dL_law_506 : decode cL_law 506 = .ok (.invokevirtual 76, 3) := sorry
theorem dL_law_509 : decode cL_law 509 = .ok (.aload_n 2, 1) := sorry
theorem dL_law_510 : decode cL_law 510 = .ok (.invokevirtual 79, 3) := sorry
theorem dL_law_513 : decode cL_law 513 = .ok (.if_icmp .eq 183, 3) := sorry
theorem dL_law_516 : decode cL_law 516 = .ok (.iconst 0, 1) := sorry
theorem dL_law_517 : decode cL_law 517 = .ok (.ireturn, 1) := sorry
theorem dL_law_518 : decode cL_law 518 = .ok (.aload_n 1, 1) := sorry
theorem dL_law_519 : decode cL_law 519 = .ok (.aload_n 0, 1) := sorry
theorem dL_law_520 : decode cL_law 520 = .ok (.iload_n 3, 1) := sorry
theorem dL_law_521 : decode cL_law 521 = .ok (.iconst 1, 1) := sorry
theorem dL_law_522 : decode cL_law 522 = .ok (.iadd, 1) := sorry
theorem dL_law_523 : decode cL_law 523 = .ok (.iaload, 1) := sorry
theorem dL_law_524 : decode cL_law 524 = .ok (.aload_n 0, 1) := sorry
theorem dL_law_525 : decode cL_law 525 = .ok (.iload_n 3, 1) := sorry
theorem dL_law_526 : decode cL_law 526 = .ok (.iconst 2, 1) := sorry
theorem dL_law_527 : decode cL_law 527 = .ok (.iadd, 1) := sorry
theorem dL_law_528 : decode cL_law 528 = .ok (.iaload, 1) := sorry
theorem dL_law_529 : decode cL_law 529 = .ok (.aload_n 0, 1) := sorry
theorem dL_law_530 : decode cL_law 530 = .ok (.iload_n 3, 1) := sorry
theorem dL_law_531 : decode cL_law 531 = .ok (.iconst 3, 1) := sorry
theorem dL_law_532 : decode cL_law 532 = .ok (.iadd, 1) := sorry
theorem dL_law_533 : decode cL_law 533 = .ok (.iaload, 1) := sorry
theorem dL_law_534 : decode cL_law 534 = .ok (.ifCond .eq 7, 3) := sorry
theorem dL_law_537 : decode cL_law 537 = .ok (.iconst 1, 1) := sorry
theorem dL_law_538 : decode cL_law 538 = .ok (.goto 4, 3) := sorry
theorem dL_law_541 : decode cL_law 541 = .ok (.iconst 0, 1) := sorry
theorem dL_law_542 : decode cL_law 542 = .ok (.invokevirtual 80, 3) := sorry
theorem dL_law_545 : decode cL_law 545 = .ok (.aload_n 2, 1) := sorry
theorem dL_law_546 : decode cL_law 546 = .ok (.aload_n 0, 1) := sorry
theorem dL_law_547 : decode cL_law 547 = .ok (.iload_n 3, 1) := sorry
theorem dL_law_548 : decode cL_law 548 = .ok (.iconst 1, 1) := sorry
theorem dL_law_549 : decode cL_law 549 = .ok (.iadd, 1) := sorry
theorem dL_law_550 : decode cL_law 550 = .ok (.iaload, 1) := sorry
theorem dL_law_551 : decode cL_law 551 = .ok (.aload_n 0, 1) := sorry
theorem dL_law_552 : decode cL_law 552 = .ok (.iload_n 3, 1) := sorry
theorem dL_law_553 : decode cL_law 553 = .ok (.iconst 2, 1) := sorry
theorem dL_law_554 : decode cL_law 554 = .ok (.iadd, 1) := sorry
theorem dL_law_555 : decode cL_law 555 = .ok (.iaload, 1) := sorry
theorem dL_law_556 : decode cL_law 556 = .ok (.aload_n 0, 1) := sorry
theorem dL_law_557 : decode cL_law 557 = .ok (.iload_n 3, 1) := sorry
theorem dL_law_558 : decode cL_law 558 = .ok (.iconst 3, 1) := sorry
theorem dL_law_559 : decode cL_law 559 = .ok (.iadd, 1) := sorry
theorem dL_law_560 : decode cL_law 560 = .ok (.iaload, 1) := sorry
theorem dL_law_561 : decode cL_law 561 = .ok (.ifCond .eq 7, 3) := sorry
theorem dL_law_564 : decode cL_law 564 = .ok (.iconst 1, 1) := sorry
theorem dL_law_565 : decode cL_law 565 = .ok (.goto 4, 3) := sorry
theorem dL_law_568 : decode cL_law 568 = .ok (.iconst 0, 1) := sorry
theorem dL_law_569 : decode cL_law 569 = .ok (.invokevirtual 84, 3) := sorry
theorem dL_law_572 : decode cL_law 572 = .ok (.if_icmp .eq 124, 3) := sorry
theorem dL_law_575 : decode cL_law 575 = .ok (.iconst 0, 1) := sorry
theorem dL_law_576 : decode cL_law 576 = .ok (.ireturn, 1) := sorry
theorem dL_law_577 : decode cL_law 577 = .ok (.aload_n 1, 1) := sorry
theorem dL_law_578 : decode cL_law 578 = .ok (.invokevirtual 85, 3) := sorry
theorem dL_law_581 : decode cL_law 581 = .ok (.aload_n 2, 1) := sorry
theorem dL_law_582 : decode cL_law 582 = .ok (.invokevirtual 88, 3) := sorry
theorem dL_law_585 : decode cL_law 585 = .ok (.if_icmp .eq 111, 3) := sorry
theorem dL_law_588 : decode cL_law 588 = .ok (.iconst 0, 1) := sorry
theorem dL_law_589 : decode cL_law 589 = .ok (.ireturn, 1) := sorry
theorem dL_law_590 : decode cL_law 590 = .ok (.aload_n 1, 1) := sorry
theorem dL_law_591 : decode cL_law 591 = .ok (.aload_n 0, 1) := sorry
theorem dL_law_592 : decode cL_law 592 = .ok (.iload_n 3, 1) := sorry
theorem dL_law_593 : decode cL_law 593 = .ok (.iconst 1, 1) := sorry
theorem dL_law_594 : decode cL_law 594 = .ok (.iadd, 1) := sorry
theorem dL_law_595 : decode cL_law 595 = .ok (.iaload, 1) := sorry
theorem dL_law_596 : decode cL_law 596 = .ok (.aload_n 0, 1) := sorry
theorem dL_law_597 : decode cL_law 597 = .ok (.iload_n 3, 1) := sorry
theorem dL_law_598 : decode cL_law 598 = .ok (.iconst 2, 1) := sorry
theorem dL_law_599 : decode cL_law 599 = .ok (.iadd, 1) := sorry
theorem dL_law_600 : decode cL_law 600 = .ok (.iaload, 1) := sorry
theorem dL_law_601 : decode cL_law 601 = .ok (.aload_n 0, 1) := sorry
theorem dL_law_602 : decode cL_law 602 = .ok (.iload_n 3, 1) := sorry
theorem dL_law_603 : decode cL_law 603 = .ok (.iconst 3, 1) := sorry
theorem dL_law_604 : decode cL_law 604 = .ok (.iadd, 1) := sorry
theorem dL_law_605 : decode cL_law 605 = .ok (.iaload, 1) := sorry
theorem dL_law_606 : decode cL_law 606 = .ok (.invokevirtual 89, 3) := sorry
theorem dL_law_609 : decode cL_law 609 = .ok (.aload_n 2, 1) := sorry
theorem dL_law_610 : decode cL_law 610 = .ok (.aload_n 0, 1) := sorry
theorem dL_law_611 : decode cL_law 611 = .ok (.iload_n 3, 1) := sorry
theorem dL_law_612 : decode cL_law 612 = .ok (.iconst 1, 1) := sorry
theorem dL_law_613 : decode cL_law 613 = .ok (.iadd, 1) := sorry
theorem dL_law_614 : decode cL_law 614 = .ok (.iaload, 1) := sorry
theorem dL_law_615 : decode cL_law 615 = .ok (.aload_n 0, 1) := sorry
theorem dL_law_616 : decode cL_law 616 = .ok (.iload_n 3, 1) := sorry
theorem dL_law_617 : decode cL_law 617 = .ok (.iconst 2, 1) := sorry
theorem dL_law_618 : decode cL_law 618 = .ok (.iadd, 1) := sorry
theorem dL_law_619 : decode cL_law 619 = .ok (.iaload, 1) := sorry
theorem dL_law_620 : decode cL_law 620 = .ok (.aload_n 0, 1) := sorry
theorem dL_law_621 : decode cL_law 621 = .ok (.iload_n 3, 1) := sorry
theorem dL_law_622 : decode cL_law 622 = .ok (.iconst 3, 1) := sorry
theorem dL_law_623 : decode cL_law 623 = .ok (.iadd, 1) := sorry
theorem dL_law_624 : decode cL_law 624 = .ok (.iaload, 1) := sorry
theorem dL_law_625 : decode cL_law 625 = .ok (.invokevirtual 93, 3) := sorry
theorem dL_law_628 : decode cL_law 628 = .ok (.if_icmp .eq 68, 3) := sorry
theorem dL_law_631 : decode cL_law 631 = .ok (.iconst 0, 1) := sorry
theorem dL_law_632 : decode cL_law 632 = .ok (.ireturn, 1) := sorry
theorem dL_law_633 : decode cL_law 633 = .ok (.aload_n 1, 1) := sorry
theorem dL_law_634 : decode cL_law 634 = .ok (.invokevirtual 94, 3) := sorry
theorem dL_law_637 : decode cL_law 637 = .ok (.aload_n 2, 1) := sorry
theorem dL_law_638 : decode cL_law 638 = .ok (.invokevirtual 97, 3) := sorry
theorem dL_law_641 : decode cL_law 641 = .ok (.if_icmp .eq 55, 3) := sorry
theorem dL_law_644 : decode cL_law 644 = .ok (.iconst 0, 1) := sorry
theorem dL_law_645 : decode cL_law 645 = .ok (.ireturn, 1) := sorry
theorem dL_law_646 : decode cL_law 646 = .ok (.aload_n 1, 1) := sorry
theorem dL_law_647 : decode cL_law 647 = .ok (.invokevirtual 98, 3) := sorry
theorem dL_law_650 : decode cL_law 650 = .ok (.aload_n 2, 1) := sorry
theorem dL_law_651 : decode cL_law 651 = .ok (.invokevirtual 101, 3) := sorry
theorem dL_law_654 : decode cL_law 654 = .ok (.if_icmp .eq 42, 3) := sorry
theorem dL_law_657 : decode cL_law 657 = .ok (.iconst 0, 1) := sorry
theorem dL_law_658 : decode cL_law 658 = .ok (.ireturn, 1) := sorry
theorem dL_law_659 : decode cL_law 659 = .ok (.aload_n 1, 1) := sorry
theorem dL_law_660 : decode cL_law 660 = .ok (.aload_n 0, 1) := sorry
theorem dL_law_661 : decode cL_law 661 = .ok (.iload_n 3, 1) := sorry
theorem dL_law_662 : decode cL_law 662 = .ok (.iconst 1, 1) := sorry
theorem dL_law_663 : decode cL_law 663 = .ok (.iadd, 1) := sorry
theorem dL_law_664 : decode cL_law 664 = .ok (.iaload, 1) := sorry
theorem dL_law_665 : decode cL_law 665 = .ok (.invokevirtual 102, 3) := sorry
theorem dL_law_668 : decode cL_law 668 = .ok (.aload_n 2, 1) := sorry
theorem dL_law_669 : decode cL_law 669 = .ok (.aload_n 0, 1) := sorry
theorem dL_law_670 : decode cL_law 670 = .ok (.iload_n 3, 1) := sorry
theorem dL_law_671 : decode cL_law 671 = .ok (.iconst 1, 1) := sorry
theorem dL_law_672 : decode cL_law 672 = .ok (.iadd, 1) := sorry
theorem dL_law_673 : decode cL_law 673 = .ok (.iaload, 1) := sorry
theorem dL_law_674 : decode cL_law 674 = .ok (.invokevirtual 105, 3) := sorry
theorem dL_law_677 : decode cL_law 677 = .ok (.if_icmp .eq 19, 3) := sorry
theorem dL_law_680 : decode cL_law 680 = .ok (.iconst 0, 1) := sorry
theorem dL_law_681 : decode cL_law 681 = .ok (.ireturn, 1) := sorry
theorem dL_law_682 : decode cL_law 682 = .ok (.aload_n 1, 1) := sorry
theorem dL_law_683 : decode cL_law 683 = .ok (.invokevirtual 106, 3) := sorry
theorem dL_law_686 : decode cL_law 686 = .ok (.aload_n 2, 1) := sorry
theorem dL_law_687 : decode cL_law 687 = .ok (.invokevirtual 110, 3) := sorry
theorem dL_law_690 : decode cL_law 690 = .ok (.lcmp, 1) := sorry
theorem dL_law_691 : decode cL_law 691 = .ok (.ifCond .eq 5, 3) := sorry
theorem dL_law_694 : decode cL_law 694 = .ok (.iconst 0, 1) := sorry
theorem dL_law_695 : decode cL_law 695 = .ok (.ireturn, 1) := sorry
theorem dL_law_696 : decode cL_law 696 = .ok (.iinc 3 4, 3) := sorry
theorem dL_law_699 : decode cL_law 699 = .ok (.goto (-681), 3) := sorry
theorem dL_law_702 : decode cL_law 702 = .ok (.iconst 1, 1) := sorry
theorem dL_law_703 : decode cL_law 703 = .ok (.ireturn, 1) := sorry
