/-! KM: every method of the tables agrees with the bytecode; kG -/
theorem kab_0 : kallB 0 kc_X0_init = true := by decide +kernel
theorem kab_1 : kallB 1 kc_X0_chalks = true := by decide +kernel
theorem kab_2 : kallB 2 kc_X1_init = true := by decide +kernel
theorem kab_3 : kallB 3 kc_X1_copyFrom = true := by decide +kernel
theorem kab_4 : kallB 4 kc_X1_add = true := by decide +kernel
theorem kab_5 : kallB 5 kc_X1_get = true := by decide +kernel
theorem kab_6 : kallB 6 kc_X1_put = true := by decide +kernel
theorem kab_7 : kallB 7 kc_X1_reportCount = true := by decide +kernel
theorem kab_8 : kallB 8 kc_X1_isOver = true := by decide +kernel
theorem kab_9 : kallB 9 kc_X1_byTurns = true := by decide +kernel
theorem kab_10 : kallB 10 kc_X1_pass = true := by decide +kernel
theorem kab_11 : kallB 11 kc_X1_passOn = true := by decide +kernel
theorem kab_12 : kallB 12 kc_X1_passByLot = true := by decide +kernel
theorem kab_13 : kallB 13 kc_X1_passOnByLot = true := by decide +kernel
theorem kab_14 : kallB 14 kc_X1_walkAll = true := by decide +kernel
theorem kab_15 : kallB 15 kc_X1_settle = true := by decide +kernel
theorem kab_16 : kallB 16 kc_X1_obey = true := by decide +kernel
theorem kab_17 : kallB 17 kc_X1_willOf = true := by decide +kernel
theorem kab_18 : kallB 18 kc_X1_learnFacts = true := by decide +kernel
theorem kab_19 : kallB 19 kc_X1_holds = true := by decide +kernel
theorem kab_20 : kallB 20 kc_X1_valueOf = true := by decide +kernel
theorem kab_21 : kallB 21 kc_X1_shutCells = true := by decide +kernel
theorem kab_22 : kallB 22 kc_X1_shutFrom = true := by decide +kernel
theorem kab_23 : kallB 23 kc_X1_openRightward = true := by decide +kernel
theorem kab_24 : kallB 24 kc_X1_openDownward = true := by decide +kernel
theorem kab_25 : kallB 25 kc_X1_wider = true := by decide +kernel
theorem kab_26 : kallB 26 kc_X1_edgesLeaving = true := by decide +kernel
theorem kab_27 : kallB 27 kc_X1_beside = true := by decide +kernel
theorem kab_28 : kallB 28 kc_X1_edgeAhead = true := by decide +kernel
theorem kab_29 : kallB 29 kc_X1_edgesAt = true := by decide +kernel
theorem kab_30 : kallB 30 kc_X1_turned = true := by decide +kernel
theorem kab_31 : kallB 31 kc_X1_strokesOf = true := by decide +kernel
theorem kab_32 : kallB 32 kc_X1_costsOf = true := by decide +kernel
theorem kab_33 : kallB 33 kc_X1_turnsOf = true := by decide +kernel
theorem kab_34 : kallB 34 kc_X1_rubs = true := by decide +kernel
theorem kab_35 : kallB 35 kc_X1_isUnder = true := by decide +kernel
theorem kab_36 : kallB 36 kc_X2_init = true := by decide +kernel
theorem kab_37 : kallB 37 kc_X2_shouts = true := by decide +kernel
theorem kab_38 : kallB 38 kc_X2_parts = true := by decide +kernel
theorem kab_39 : kallB 39 kc_X3_init = true := by decide +kernel
theorem kab_40 : kallB 40 kc_X3_shouts = true := by decide +kernel
theorem kab_41 : kallB 41 kc_X4_init = true := by decide +kernel
theorem kab_42 : kallB 42 kc_X4_chalks = true := by decide +kernel
theorem kab_43 : kallB 43 kc_X4_wins = true := by decide +kernel
theorem kab_44 : kallB 44 kc_X5_init = true := by decide +kernel
theorem kab_45 : kallB 45 kc_X5_begin = true := by decide +kernel
theorem kab_46 : kallB 46 kc_X5_explore = true := by decide +kernel
theorem kab_47 : kallB 47 kc_X5_branch = true := by decide +kernel
theorem kab_48 : kallB 48 kc_X5_weigh = true := by decide +kernel
theorem kab_49 : kallB 49 kc_X5_playOut = true := by decide +kernel
theorem kab_50 : kallB 50 kc_X5_valueAt = true := by decide +kernel
theorem kab_51 : kallB 51 kc_X6_init = true := by decide +kernel
theorem kab_52 : kallB 52 kc_X6_take = true := by decide +kernel
theorem kab_53 : kallB 53 kc_X6_split = true := by decide +kernel
theorem kab_54 : kallB 54 kc_X6_tokenHere = true := by decide +kernel
theorem kab_55 : kallB 55 kc_X6_nameHere = true := by decide +kernel
theorem kab_56 : kallB 56 kc_X6_numberHere = true := by decide +kernel
theorem kab_57 : kallB 57 kc_X6_nameFrom = true := by decide +kernel
theorem kab_58 : kallB 58 kc_X6_isLetter = true := by decide +kernel
theorem kab_59 : kallB 59 kc_X6_isDigit = true := by decide +kernel
theorem kab_60 : kallB 60 kc_X6_signFor = true := by decide +kernel
theorem kab_61 : kallB 61 kc_X6_fault = true := by decide +kernel
theorem kab_62 : kallB 62 kc_X6_goOn = true := by decide +kernel
theorem kab_63 : kallB 63 kc_X6_readsAll = true := by decide +kernel
theorem kab_64 : kallB 64 kc_X6_readsRule = true := by decide +kernel
theorem kab_65 : kallB 65 kc_X6_readsCondition = true := by decide +kernel
theorem kab_66 : kallB 66 kc_X6_readsEach = true := by decide +kernel
theorem kab_67 : kallB 67 kc_X6_readsOne = true := by decide +kernel
theorem kab_68 : kallB 68 kc_X6_readsWithin = true := by decide +kernel
theorem kab_69 : kallB 69 kc_X6_readsComparison = true := by decide +kernel
theorem kab_70 : kallB 70 kc_X6_valueAhead = true := by decide +kernel
theorem kab_71 : kallB 71 kc_X7_init = true := by decide +kernel
theorem kab_72 : kallB 72 kc_X8_init = true := by decide +kernel
theorem kab_73 : kallB 73 kc_X8_parts = true := by decide +kernel
theorem kab_74 : kallB 74 kc_X9_init = true := by decide +kernel
theorem kab_75 : kallB 75 kc_X9_emit = true := by decide +kernel
theorem kab_76 : kallB 76 kc_X9_comparison = true := by decide +kernel
theorem kab_77 : kallB 77 kc_X9_truthOf = true := by decide +kernel
theorem kab_78 : kallB 78 kc_X9_close = true := by decide +kernel
theorem kab_79 : kallB 79 kc_X9_beginOf = true := by decide +kernel
theorem kab_80 : kallB 80 kc_X10_init = true := by decide +kernel
theorem kab_81 : kallB 81 kc_X10_standFor = true := by decide +kernel
theorem kab_82 : kallB 82 kc_X10_begins = true := by decide +kernel
theorem kab_83 : kallB 83 kc_X10_chalks = true := by decide +kernel
theorem kab_84 : kallB 84 kc_X10_shouts = true := by decide +kernel
theorem kab_85 : kallB 85 kc_X10_parts = true := by decide +kernel
theorem kab_86 : kallB 86 kc_X10_wins = true := by decide +kernel
theorem kab_87 : kallB 87 kc_X11_init = true := by decide +kernel
theorem kab_88 : kallB 88 kc_X11_hand = true := by decide +kernel
theorem kab_89 : kallB 89 kc_X11_handOf = true := by decide +kernel
theorem kab_90 : kallB 90 kc_X11_change = true := by decide +kernel
theorem kab_91 : kallB 91 kc_X11_remake = true := by decide +kernel
theorem kab_92 : kallB 92 kc_X11_set = true := by decide +kernel
theorem kab_93 : kallB 93 kc_X11_setEnd = true := by decide +kernel
theorem kab_94 : kallB 94 kc_X11_setHome = true := by decide +kernel
theorem kab_95 : kallB 95 kc_X11_setLines = true := by decide +kernel
theorem kab_96 : kallB 96 kc_X11_setDry = true := by decide +kernel
theorem kab_97 : kallB 97 kc_X11_setRain = true := by decide +kernel
theorem kab_98 : kallB 98 kc_X11_edge = true := by decide +kernel
theorem kab_99 : kallB 99 kc_X11_anew = true := by decide +kernel
theorem kab_100 : kallB 100 kc_X11_state = true := by decide +kernel
theorem kab_101 : kallB 101 kc_X11_isHand = true := by decide +kernel
theorem kab_102 : kallB 102 kc_X11_isAct = true := by decide +kernel
theorem kab_103 : kallB 103 kc_X11_isHandKind = true := by decide +kernel
theorem kab_104 : kallB 104 kc_X11_isCell = true := by decide +kernel
theorem kab_105 : kallB 105 kc_X11_isFacing = true := by decide +kernel
theorem kab_106 : kallB 106 kc_X11_isChalk = true := by decide +kernel
theorem kab_107 : kallB 107 kc_X11_isSet = true := by decide +kernel
theorem kab_108 : kallB 108 kc_X11_isPlaceInHand = true := by decide +kernel
theorem kab_109 : kallB 109 kc_X11_feed = true := by decide +kernel
theorem kab_110 : kallB 110 kc_X11_rules = true := by decide +kernel
theorem kab_111 : kallB 111 kc_X11_dusk = true := by decide +kernel
theorem kab_112 : kallB 112 kc_X11_on = true := by decide +kernel
theorem kab_113 : kallB 113 kc_X11_when = true := by decide +kernel
theorem kab_114 : kallB 114 kc_X11_chalkFor = true := by decide +kernel
theorem kab_115 : kallB 115 kc_X11_facingFor = true := by decide +kernel
theorem kab_116 : kallB 116 kc_X11_bestFor = true := by decide +kernel
theorem kab_117 : kallB 117 kc_X11_holdsAll = true := by decide +kernel
theorem kab_118 : kallB 118 kc_X11_cut = true := by decide +kernel
theorem kab_119 : kallB 119 kc_X11_leastCut = true := by decide +kernel
theorem kab_120 : kallB 120 kc_X11_way = true := by decide +kernel
theorem kab_121 : kallB 121 kc_X11_bridges = true := by decide +kernel
theorem kab_122 : kallB 122 kc_X11_best = true := by decide +kernel
theorem kab_123 : kallB 123 kc_X11_ith = true := by decide +kernel
theorem kab_124 : kallB 124 kc_X11_ways = true := by decide +kernel
theorem kab_125 : kallB 125 kc_X11_siege = true := by decide +kernel
theorem kab_126 : kallB 126 kc_X11_bars = true := by decide +kernel
theorem kab_127 : kallB 127 kc_X11_isPlanLength = true := by decide +kernel
theorem kab_128 : kallB 128 kc_X11_leastOf = true := by decide +kernel
theorem kab_129 : kallB 129 kc_X11_game = true := by decide +kernel
theorem kab_130 : kallB 130 kc_X11_play = true := by decide +kernel
theorem kab_131 : kallB 131 kc_X11_report = true := by decide +kernel
theorem kab_132 : kallB 132 kc_X11_forget = true := by decide +kernel
theorem kab_133 : kallB 133 kc_X11_span = true := by decide +kernel
theorem kab_134 : kallB 134 kc_X11_liar = true := by decide +kernel
theorem kab_135 : kallB 135 kc_X11_strangeKind = true := by decide +kernel
theorem kab_136 : kallB 136 kc_X11_strangeCell = true := by decide +kernel
theorem kab_137 : kallB 137 kc_X11_strangeFacing = true := by decide +kernel
theorem kab_138 : kallB 138 kc_X11_wrongReports = true := by decide +kernel
theorem kab_139 : kallB 139 kc_X11_seed = true := by decide +kernel
theorem kab_140 : kallB 140 kc_X11_lot = true := by decide +kernel
theorem kab_141 : kallB 141 kc_X11_times = true := by decide +kernel
theorem kab_142 : kallB 142 kc_X11_prove = true := by decide +kernel
theorem kab_143 : kallB 143 kc_X11_row = true := by decide +kernel
theorem kab_144 : kallB 144 kc_X11_alterRow = true := by decide +kernel
theorem kab_145 : kallB 145 kc_X11_isInRow = true := by decide +kernel
theorem kab_146 : kallB 146 kc_X11_judge = true := by decide +kernel
theorem kab_147 : kallB 147 kc_X11_isRight = true := by decide +kernel
theorem kab_148 : kallB 148 kc_X11_sheet = true := by decide +kernel
theorem kab_149 : kallB 149 kc_X11_write = true := by decide +kernel
theorem kab_150 : kallB 150 kc_X11_narrowed = true := by decide +kernel
theorem kab_151 : kallB 151 kc_X11_item = true := by decide +kernel
theorem kab_152 : kallB 152 kc_X11_goAll = true := by decide +kernel
theorem kab_153 : kallB 153 kc_X11_wouldBe = true := by decide +kernel
theorem kab_154 : kallB 154 kc_X11_isSheet = true := by decide +kernel
theorem kab_155 : kallB 155 kc_X11_isItem = true := by decide +kernel
theorem kab_156 : kallB 156 kc_X11_refusedAs = true := by decide +kernel
theorem kab_157 : kallB 157 kc_X11_shelf = true := by decide +kernel
theorem kab_158 : kallB 158 kc_X11_layRow = true := by decide +kernel
theorem kab_159 : kallB 159 kc_X11_lay = true := by decide +kernel
theorem kab_160 : kallB 160 kc_X11_taken = true := by decide +kernel
theorem kab_161 : kallB 161 kc_X11_act = true := by decide +kernel
theorem kab_162 : kallB 162 kc_X11_trace = true := by decide +kernel
theorem kab_163 : kallB 163 kc_X11_many = true := by decide +kernel
theorem kab_164 : kallB 164 kc_X11_isShelf = true := by decide +kernel
theorem kab_165 : kallB 165 kc_X11_handOn = true := by decide +kernel
theorem kab_166 : kallB 166 kc_X11_traceLength = true := by decide +kernel
theorem kab_167 : kallB 167 kc_X11_keep = true := by decide +kernel
theorem kab_168 : kallB 168 kc_X11_again = true := by decide +kernel
theorem kab_169 : kallB 169 kc_X12_init = true := by decide +kernel
theorem kab_170 : kallB 170 kc_X12_in = true := by decide +kernel
theorem kab_171 : kallB 171 kc_X12_copyAll = true := by decide +kernel
theorem kab_172 : kallB 172 kc_X12_thinks = true := by decide +kernel
theorem kab_173 : kallB 173 kc_X12_putsBack = true := by decide +kernel
theorem kab_174 : kallB 174 kc_X12_becomes = true := by decide +kernel
theorem kab_175 : kallB 175 kc_X12_isHand = true := by decide +kernel
theorem kab_176 : kallB 176 kc_X12_isCell = true := by decide +kernel
theorem kab_177 : kallB 177 kc_X12_isFour = true := by decide +kernel
theorem kab_178 : kallB 178 kc_X12_of = true := by decide +kernel
theorem kab_179 : kallB 179 kc_X12_put = true := by decide +kernel
theorem kab_180 : kallB 180 kc_X12_isOver = true := by decide +kernel
theorem kab_181 : kallB 181 kc_X12_bits = true := by decide +kernel
theorem kab_182 : kallB 182 kc_X12_edgeOf = true := by decide +kernel
theorem kab_183 : kallB 183 kc_X12_nextTo = true := by decide +kernel
theorem kab_184 : kallB 184 kc_X12_onward = true := by decide +kernel
theorem kab_185 : kallB 185 kc_X12_shutBy = true := by decide +kernel
theorem kab_186 : kallB 186 kc_X12_shutNow = true := by decide +kernel
theorem kab_187 : kallB 187 kc_X12_strokesOf = true := by decide +kernel
theorem kab_188 : kallB 188 kc_X12_costsOf = true := by decide +kernel
theorem kab_189 : kallB 189 kc_X12_turnsBy = true := by decide +kernel
theorem kab_190 : kallB 190 kc_X12_doesRub = true := by decide +kernel
theorem kab_191 : kallB 191 kc_X12_isUnder = true := by decide +kernel
theorem kab_192 : kallB 192 kc_X12_strokeEdges = true := by decide +kernel
theorem kab_193 : kallB 193 kc_X12_isOf = true := by decide +kernel
theorem kab_194 : kallB 194 kc_X12_hand = true := by decide +kernel
theorem kab_195 : kallB 195 kc_X12_handOf = true := by decide +kernel
theorem kab_196 : kallB 196 kc_X12_change = true := by decide +kernel
theorem kab_197 : kallB 197 kc_X12_remake = true := by decide +kernel
theorem kab_198 : kallB 198 kc_X12_set = true := by decide +kernel
theorem kab_199 : kallB 199 kc_X12_edge = true := by decide +kernel
theorem kab_200 : kallB 200 kc_X12_anew = true := by decide +kernel
theorem kab_201 : kallB 201 kc_X12_state = true := by decide +kernel
theorem kab_202 : kallB 202 kc_X12_feed = true := by decide +kernel
theorem kab_203 : kallB 203 kc_X12_isByte = true := by decide +kernel
theorem kab_204 : kallB 204 kc_X12_isName = true := by decide +kernel
theorem kab_205 : kallB 205 kc_X12_wordHere = true := by decide +kernel
theorem kab_206 : kallB 206 kc_X12_signOf = true := by decide +kernel
theorem kab_207 : kallB 207 kc_X12_reads = true := by decide +kernel
theorem kab_208 : kallB 208 kc_X12_passes = true := by decide +kernel
theorem kab_209 : kallB 209 kc_X12_step = true := by decide +kernel
theorem kab_210 : kallB 210 kc_X12_side = true := by decide +kernel
theorem kab_211 : kallB 211 kc_X12_one = true := by decide +kernel
theorem kab_212 : kallB 212 kc_X12_all = true := by decide +kernel
theorem kab_213 : kallB 213 kc_X12_condition = true := by decide +kernel
theorem kab_214 : kallB 214 kc_X12_ruleHere = true := by decide +kernel
theorem kab_215 : kallB 215 kc_X12_rules = true := by decide +kernel
theorem kab_216 : kallB 216 kc_X12_factOf = true := by decide +kernel
theorem kab_217 : kallB 217 kc_X12_isSo = true := by decide +kernel
theorem kab_218 : kallB 218 kc_X12_isHolding = true := by decide +kernel
theorem kab_219 : kallB 219 kc_X12_does = true := by decide +kernel
theorem kab_220 : kallB 220 kc_X12_walks = true := by decide +kernel
theorem kab_221 : kallB 221 kc_X12_acts = true := by decide +kernel
theorem kab_222 : kallB 222 kc_X12_goes = true := by decide +kernel
theorem kab_223 : kallB 223 kc_X12_goesByTurns = true := by decide +kernel
theorem kab_224 : kallB 224 kc_X12_dusk = true := by decide +kernel
theorem kab_225 : kallB 225 kc_X12_restOf = true := by decide +kernel
theorem kab_226 : kallB 226 kc_X12_on = true := by decide +kernel
theorem kab_227 : kallB 227 kc_X12_when = true := by decide +kernel
theorem kab_228 : kallB 228 kc_X12_bestFor = true := by decide +kernel
theorem kab_229 : kallB 229 kc_X12_chalkFor = true := by decide +kernel
theorem kab_230 : kallB 230 kc_X12_facingFor = true := by decide +kernel
theorem kab_231 : kallB 231 kc_X12_leastCut = true := by decide +kernel
theorem kab_232 : kallB 232 kc_X12_cut = true := by decide +kernel
theorem kab_233 : kallB 233 kc_X12_way = true := by decide +kernel
theorem kab_234 : kallB 234 kc_X12_bridges = true := by decide +kernel
theorem kab_235 : kallB 235 kc_X12_monthsOf = true := by decide +kernel
theorem kab_236 : kallB 236 kc_X12_plansOf = true := by decide +kernel
theorem kab_237 : kallB 237 kc_X12_digit = true := by decide +kernel
theorem kab_238 : kallB 238 kc_X12_worthOf = true := by decide +kernel
theorem kab_239 : kallB 239 kc_X12_findBest = true := by decide +kernel
theorem kab_240 : kallB 240 kc_X12_best = true := by decide +kernel
theorem kab_241 : kallB 241 kc_X12_ith = true := by decide +kernel
theorem kab_242 : kallB 242 kc_X12_ways = true := by decide +kernel
theorem kab_243 : kallB 243 kc_X12_actsIn = true := by decide +kernel
theorem kab_244 : kallB 244 kc_X12_siege = true := by decide +kernel
theorem kab_245 : kallB 245 kc_X12_bars = true := by decide +kernel
theorem kab_246 : kallB 246 kc_X12_gameOn = true := by decide +kernel
theorem kab_247 : kallB 247 kc_X12_game = true := by decide +kernel
theorem kab_248 : kallB 248 kc_X12_play = true := by decide +kernel
theorem kab_249 : kallB 249 kc_X12_report = true := by decide +kernel
theorem kab_250 : kallB 250 kc_X12_forget = true := by decide +kernel
theorem kab_251 : kallB 251 kc_X12_fits = true := by decide +kernel
theorem kab_252 : kallB 252 kc_X12_strange = true := by decide +kernel
theorem kab_253 : kallB 253 kc_X12_span = true := by decide +kernel
theorem kab_254 : kallB 254 kc_X12_liar = true := by decide +kernel
theorem kab_255 : kallB 255 kc_X12_seed = true := by decide +kernel
theorem kab_256 : kallB 256 kc_X12_byLot = true := by decide +kernel
theorem kab_257 : kallB 257 kc_X12_lot = true := by decide +kernel
theorem kab_258 : kallB 258 kc_X12_times = true := by decide +kernel
theorem kab_259 : kallB 259 kc_X12_prove = true := by decide +kernel
theorem kab_260 : kallB 260 kc_X12_isRow = true := by decide +kernel
theorem kab_261 : kallB 261 kc_X12_row = true := by decide +kernel
theorem kab_262 : kallB 262 kc_X12_alterRow = true := by decide +kernel
theorem kab_263 : kallB 263 kc_X12_judge = true := by decide +kernel
theorem kab_264 : kallB 264 kc_X12_sheet = true := by decide +kernel
theorem kab_265 : kallB 265 kc_X12_write = true := by decide +kernel
theorem kab_266 : kallB 266 kc_X12_item = true := by decide +kernel
theorem kab_267 : kallB 267 kc_X12_notActs = true := by decide +kernel
theorem kab_268 : kallB 268 kc_X12_isPlace = true := by decide +kernel
theorem kab_269 : kallB 269 kc_X12_goAll = true := by decide +kernel
theorem kab_270 : kallB 270 kc_X12_wouldBe = true := by decide +kernel
theorem kab_271 : kallB 271 kc_X12_shelf = true := by decide +kernel
theorem kab_272 : kallB 272 kc_X12_hasHand = true := by decide +kernel
theorem kab_273 : kallB 273 kc_X12_taken = true := by decide +kernel
theorem kab_274 : kallB 274 kc_X12_begins = true := by decide +kernel
theorem kab_275 : kallB 275 kc_X12_plainChalks = true := by decide +kernel
theorem kab_276 : kallB 276 kc_X12_chalks = true := by decide +kernel
theorem kab_277 : kallB 277 kc_X12_plainShouts = true := by decide +kernel
theorem kab_278 : kallB 278 kc_X12_shouts = true := by decide +kernel
theorem kab_279 : kallB 279 kc_X12_plainParts = true := by decide +kernel
theorem kab_280 : kallB 280 kc_X12_rubberParts = true := by decide +kernel
theorem kab_281 : kallB 281 kc_X12_parts = true := by decide +kernel
theorem kab_282 : kallB 282 kc_X12_plainWins = true := by decide +kernel
theorem kab_283 : kallB 283 kc_X12_wins = true := by decide +kernel
theorem kab_284 : kallB 284 kc_X12_act = true := by decide +kernel
theorem kab_285 : kallB 285 kc_X12_trace = true := by decide +kernel
theorem kab_286 : kallB 286 kc_X12_many = true := by decide +kernel
theorem kab_287 : kallB 287 kc_X12_keep = true := by decide +kernel
theorem kab_288 : kallB 288 kc_X12_again = true := by decide +kernel
theorem kab_289 : kallB 289 kc_J6_bitCount_0f7a4 = true := by decide +kernel
theorem kab_290 : kallB 290 kc_J9_max_7cf53 = true := by decide +kernel
theorem kab_291 : kallB 291 kc_J9_min_7cf53 = true := by decide +kernel
theorem kab_292 : kallB 292 kc_J0_length_8abf5 = true := by decide +kernel
theorem kab_293 : kallB 293 kc_J0_charAt_5068e = true := by decide +kernel
theorem kab_294 : kallB 294 kc_J0_coder_7d493 = true := by decide +kernel
theorem kab_295 : kallB 295 kc_J0_isLatin1_aae02 = true := by decide +kernel
theorem kab_296 : kallB 296 kc_J1_charAt_3b067 = true := by decide +kernel
theorem kabL_0 : kallB kML kc_law_0 = true := by decide +kernel
theorem kabL_1 : kallB kML kc_law_1 = true := by decide +kernel
theorem kabL_2 : kallB kML kc_law_2 = true := by decide +kernel
theorem kabL_3 : kallB kML kc_law_3 = true := by decide +kernel
theorem kabL_4 : kallB kML kc_law_4 = true := by decide +kernel
theorem kabL_5 : kallB kML kc_law_5 = true := by decide +kernel
theorem kabL_6 : kallB kML kc_law_6 = true := by decide +kernel
theorem kabL_7 : kallB kML kc_law_7 = true := by decide +kernel
theorem kabL_8 : kallB kML kc_law_8 = true := by decide +kernel
theorem kabL_9 : kallB kML kc_law_9 = true := by decide +kernel
theorem kabL_10 : kallB kML kc_law_10 = true := by decide +kernel
theorem kabL_11 : kallB kML kc_law_11 = true := by decide +kernel
theorem kall_0 : ∀ (i : Nat) (l : List (Nat × KE)), kcs_0[i]? = some l → kallB (0 + i) l = true := fun i l h => match i, h with
  | 0, h => by cases h; exact kab_0
  | 1, h => by cases h; exact kab_1
  | 2, h => by cases h; exact kab_2
  | 3, h => by cases h; exact kab_3
  | 4, h => by cases h; exact kab_4
  | 5, h => by cases h; exact kab_5
  | 6, h => by cases h; exact kab_6
  | 7, h => by cases h; exact kab_7
  | 8, h => by cases h; exact kab_8
  | 9, h => by cases h; exact kab_9
  | 10, h => by cases h; exact kab_10
  | 11, h => by cases h; exact kab_11
  | 12, h => by cases h; exact kab_12
  | 13, h => by cases h; exact kab_13
  | 14, h => by cases h; exact kab_14
  | 15, h => by cases h; exact kab_15
  | 16, h => by cases h; exact kab_16
  | 17, h => by cases h; exact kab_17
  | 18, h => by cases h; exact kab_18
  | 19, h => by cases h; exact kab_19
  | 20, h => by cases h; exact kab_20
  | 21, h => by cases h; exact kab_21
  | 22, h => by cases h; exact kab_22
  | 23, h => by cases h; exact kab_23
  | 24, h => by cases h; exact kab_24
  | 25, h => by cases h; exact kab_25
  | 26, h => by cases h; exact kab_26
  | 27, h => by cases h; exact kab_27
  | 28, h => by cases h; exact kab_28
  | 29, h => by cases h; exact kab_29
  | 30, h => by cases h; exact kab_30
  | 31, h => by cases h; exact kab_31
  | 32, h => by cases h; exact kab_32
  | 33, h => by cases h; exact kab_33
  | 34, h => by cases h; exact kab_34
  | 35, h => by cases h; exact kab_35
  | 36, h => by cases h; exact kab_36
  | 37, h => by cases h; exact kab_37
  | 38, h => by cases h; exact kab_38
  | 39, h => by cases h; exact kab_39
  | 40, h => by cases h; exact kab_40
  | 41, h => by cases h; exact kab_41
  | 42, h => by cases h; exact kab_42
  | 43, h => by cases h; exact kab_43
  | 44, h => by cases h; exact kab_44
  | 45, h => by cases h; exact kab_45
  | 46, h => by cases h; exact kab_46
  | 47, h => by cases h; exact kab_47
  | 48, h => by cases h; exact kab_48
  | 49, h => by cases h; exact kab_49
  | i + 50, h => by cases h
theorem kall_1 : ∀ (i : Nat) (l : List (Nat × KE)), kcs_1[i]? = some l → kallB (50 + i) l = true := fun i l h => match i, h with
  | 0, h => by cases h; exact kab_50
  | 1, h => by cases h; exact kab_51
  | 2, h => by cases h; exact kab_52
  | 3, h => by cases h; exact kab_53
  | 4, h => by cases h; exact kab_54
  | 5, h => by cases h; exact kab_55
  | 6, h => by cases h; exact kab_56
  | 7, h => by cases h; exact kab_57
  | 8, h => by cases h; exact kab_58
  | 9, h => by cases h; exact kab_59
  | 10, h => by cases h; exact kab_60
  | 11, h => by cases h; exact kab_61
  | 12, h => by cases h; exact kab_62
  | 13, h => by cases h; exact kab_63
  | 14, h => by cases h; exact kab_64
  | 15, h => by cases h; exact kab_65
  | 16, h => by cases h; exact kab_66
  | 17, h => by cases h; exact kab_67
  | 18, h => by cases h; exact kab_68
  | 19, h => by cases h; exact kab_69
  | 20, h => by cases h; exact kab_70
  | 21, h => by cases h; exact kab_71
  | 22, h => by cases h; exact kab_72
  | 23, h => by cases h; exact kab_73
  | 24, h => by cases h; exact kab_74
  | 25, h => by cases h; exact kab_75
  | 26, h => by cases h; exact kab_76
  | 27, h => by cases h; exact kab_77
  | 28, h => by cases h; exact kab_78
  | 29, h => by cases h; exact kab_79
  | 30, h => by cases h; exact kab_80
  | 31, h => by cases h; exact kab_81
  | 32, h => by cases h; exact kab_82
  | 33, h => by cases h; exact kab_83
  | 34, h => by cases h; exact kab_84
  | 35, h => by cases h; exact kab_85
  | 36, h => by cases h; exact kab_86
  | 37, h => by cases h; exact kab_87
  | 38, h => by cases h; exact kab_88
  | 39, h => by cases h; exact kab_89
  | 40, h => by cases h; exact kab_90
  | 41, h => by cases h; exact kab_91
  | 42, h => by cases h; exact kab_92
  | 43, h => by cases h; exact kab_93
  | 44, h => by cases h; exact kab_94
  | 45, h => by cases h; exact kab_95
  | 46, h => by cases h; exact kab_96
  | 47, h => by cases h; exact kab_97
  | 48, h => by cases h; exact kab_98
  | 49, h => by cases h; exact kab_99
  | i + 50, h => by cases h
theorem kall_2 : ∀ (i : Nat) (l : List (Nat × KE)), kcs_2[i]? = some l → kallB (100 + i) l = true := fun i l h => match i, h with
  | 0, h => by cases h; exact kab_100
  | 1, h => by cases h; exact kab_101
  | 2, h => by cases h; exact kab_102
  | 3, h => by cases h; exact kab_103
  | 4, h => by cases h; exact kab_104
  | 5, h => by cases h; exact kab_105
  | 6, h => by cases h; exact kab_106
  | 7, h => by cases h; exact kab_107
  | 8, h => by cases h; exact kab_108
  | 9, h => by cases h; exact kab_109
  | 10, h => by cases h; exact kab_110
  | 11, h => by cases h; exact kab_111
  | 12, h => by cases h; exact kab_112
  | 13, h => by cases h; exact kab_113
  | 14, h => by cases h; exact kab_114
  | 15, h => by cases h; exact kab_115
  | 16, h => by cases h; exact kab_116
  | 17, h => by cases h; exact kab_117
  | 18, h => by cases h; exact kab_118
  | 19, h => by cases h; exact kab_119
  | 20, h => by cases h; exact kab_120
  | 21, h => by cases h; exact kab_121
  | 22, h => by cases h; exact kab_122
  | 23, h => by cases h; exact kab_123
  | 24, h => by cases h; exact kab_124
  | 25, h => by cases h; exact kab_125
  | 26, h => by cases h; exact kab_126
  | 27, h => by cases h; exact kab_127
  | 28, h => by cases h; exact kab_128
  | 29, h => by cases h; exact kab_129
  | 30, h => by cases h; exact kab_130
  | 31, h => by cases h; exact kab_131
  | 32, h => by cases h; exact kab_132
  | 33, h => by cases h; exact kab_133
  | 34, h => by cases h; exact kab_134
  | 35, h => by cases h; exact kab_135
  | 36, h => by cases h; exact kab_136
  | 37, h => by cases h; exact kab_137
  | 38, h => by cases h; exact kab_138
  | 39, h => by cases h; exact kab_139
  | 40, h => by cases h; exact kab_140
  | 41, h => by cases h; exact kab_141
  | 42, h => by cases h; exact kab_142
  | 43, h => by cases h; exact kab_143
  | 44, h => by cases h; exact kab_144
  | 45, h => by cases h; exact kab_145
  | 46, h => by cases h; exact kab_146
  | 47, h => by cases h; exact kab_147
  | 48, h => by cases h; exact kab_148
  | 49, h => by cases h; exact kab_149
  | i + 50, h => by cases h
theorem kall_3 : ∀ (i : Nat) (l : List (Nat × KE)), kcs_3[i]? = some l → kallB (150 + i) l = true := fun i l h => match i, h with
  | 0, h => by cases h; exact kab_150
  | 1, h => by cases h; exact kab_151
  | 2, h => by cases h; exact kab_152
  | 3, h => by cases h; exact kab_153
  | 4, h => by cases h; exact kab_154
  | 5, h => by cases h; exact kab_155
  | 6, h => by cases h; exact kab_156
  | 7, h => by cases h; exact kab_157
  | 8, h => by cases h; exact kab_158
  | 9, h => by cases h; exact kab_159
  | 10, h => by cases h; exact kab_160
  | 11, h => by cases h; exact kab_161
  | 12, h => by cases h; exact kab_162
  | 13, h => by cases h; exact kab_163
  | 14, h => by cases h; exact kab_164
  | 15, h => by cases h; exact kab_165
  | 16, h => by cases h; exact kab_166
  | 17, h => by cases h; exact kab_167
  | 18, h => by cases h; exact kab_168
  | 19, h => by cases h; exact kab_169
  | 20, h => by cases h; exact kab_170
  | 21, h => by cases h; exact kab_171
  | 22, h => by cases h; exact kab_172
  | 23, h => by cases h; exact kab_173
  | 24, h => by cases h; exact kab_174
  | 25, h => by cases h; exact kab_175
  | 26, h => by cases h; exact kab_176
  | 27, h => by cases h; exact kab_177
  | 28, h => by cases h; exact kab_178
  | 29, h => by cases h; exact kab_179
  | 30, h => by cases h; exact kab_180
  | 31, h => by cases h; exact kab_181
  | 32, h => by cases h; exact kab_182
  | 33, h => by cases h; exact kab_183
  | 34, h => by cases h; exact kab_184
  | 35, h => by cases h; exact kab_185
  | 36, h => by cases h; exact kab_186
  | 37, h => by cases h; exact kab_187
  | 38, h => by cases h; exact kab_188
  | 39, h => by cases h; exact kab_189
  | 40, h => by cases h; exact kab_190
  | 41, h => by cases h; exact kab_191
  | 42, h => by cases h; exact kab_192
  | 43, h => by cases h; exact kab_193
  | 44, h => by cases h; exact kab_194
  | 45, h => by cases h; exact kab_195
  | 46, h => by cases h; exact kab_196
  | 47, h => by cases h; exact kab_197
  | 48, h => by cases h; exact kab_198
  | 49, h => by cases h; exact kab_199
  | i + 50, h => by cases h
theorem kall_4 : ∀ (i : Nat) (l : List (Nat × KE)), kcs_4[i]? = some l → kallB (200 + i) l = true := fun i l h => match i, h with
  | 0, h => by cases h; exact kab_200
  | 1, h => by cases h; exact kab_201
  | 2, h => by cases h; exact kab_202
  | 3, h => by cases h; exact kab_203
  | 4, h => by cases h; exact kab_204
  | 5, h => by cases h; exact kab_205
  | 6, h => by cases h; exact kab_206
  | 7, h => by cases h; exact kab_207
  | 8, h => by cases h; exact kab_208
  | 9, h => by cases h; exact kab_209
  | 10, h => by cases h; exact kab_210
  | 11, h => by cases h; exact kab_211
  | 12, h => by cases h; exact kab_212
  | 13, h => by cases h; exact kab_213
  | 14, h => by cases h; exact kab_214
  | 15, h => by cases h; exact kab_215
  | 16, h => by cases h; exact kab_216
  | 17, h => by cases h; exact kab_217
  | 18, h => by cases h; exact kab_218
  | 19, h => by cases h; exact kab_219
  | 20, h => by cases h; exact kab_220
  | 21, h => by cases h; exact kab_221
  | 22, h => by cases h; exact kab_222
  | 23, h => by cases h; exact kab_223
  | 24, h => by cases h; exact kab_224
  | 25, h => by cases h; exact kab_225
  | 26, h => by cases h; exact kab_226
  | 27, h => by cases h; exact kab_227
  | 28, h => by cases h; exact kab_228
  | 29, h => by cases h; exact kab_229
  | 30, h => by cases h; exact kab_230
  | 31, h => by cases h; exact kab_231
  | 32, h => by cases h; exact kab_232
  | 33, h => by cases h; exact kab_233
  | 34, h => by cases h; exact kab_234
  | 35, h => by cases h; exact kab_235
  | 36, h => by cases h; exact kab_236
  | 37, h => by cases h; exact kab_237
  | 38, h => by cases h; exact kab_238
  | 39, h => by cases h; exact kab_239
  | 40, h => by cases h; exact kab_240
  | 41, h => by cases h; exact kab_241
  | 42, h => by cases h; exact kab_242
  | 43, h => by cases h; exact kab_243
  | 44, h => by cases h; exact kab_244
  | 45, h => by cases h; exact kab_245
  | 46, h => by cases h; exact kab_246
  | 47, h => by cases h; exact kab_247
  | 48, h => by cases h; exact kab_248
  | 49, h => by cases h; exact kab_249
  | i + 50, h => by cases h
theorem kall_5 : ∀ (i : Nat) (l : List (Nat × KE)), kcs_5[i]? = some l → kallB (250 + i) l = true := fun i l h => match i, h with
  | 0, h => by cases h; exact kab_250
  | 1, h => by cases h; exact kab_251
  | 2, h => by cases h; exact kab_252
  | 3, h => by cases h; exact kab_253
  | 4, h => by cases h; exact kab_254
  | 5, h => by cases h; exact kab_255
  | 6, h => by cases h; exact kab_256
  | 7, h => by cases h; exact kab_257
  | 8, h => by cases h; exact kab_258
  | 9, h => by cases h; exact kab_259
  | 10, h => by cases h; exact kab_260
  | 11, h => by cases h; exact kab_261
  | 12, h => by cases h; exact kab_262
  | 13, h => by cases h; exact kab_263
  | 14, h => by cases h; exact kab_264
  | 15, h => by cases h; exact kab_265
  | 16, h => by cases h; exact kab_266
  | 17, h => by cases h; exact kab_267
  | 18, h => by cases h; exact kab_268
  | 19, h => by cases h; exact kab_269
  | 20, h => by cases h; exact kab_270
  | 21, h => by cases h; exact kab_271
  | 22, h => by cases h; exact kab_272
  | 23, h => by cases h; exact kab_273
  | 24, h => by cases h; exact kab_274
  | 25, h => by cases h; exact kab_275
  | 26, h => by cases h; exact kab_276
  | 27, h => by cases h; exact kab_277
  | 28, h => by cases h; exact kab_278
  | 29, h => by cases h; exact kab_279
  | 30, h => by cases h; exact kab_280
  | 31, h => by cases h; exact kab_281
  | 32, h => by cases h; exact kab_282
  | 33, h => by cases h; exact kab_283
  | 34, h => by cases h; exact kab_284
  | 35, h => by cases h; exact kab_285
  | 36, h => by cases h; exact kab_286
  | 37, h => by cases h; exact kab_287
  | 38, h => by cases h; exact kab_288
  | 39, h => by cases h; exact kab_289
  | 40, h => by cases h; exact kab_290
  | 41, h => by cases h; exact kab_291
  | 42, h => by cases h; exact kab_292
  | 43, h => by cases h; exact kab_293
  | 44, h => by cases h; exact kab_294
  | 45, h => by cases h; exact kab_295
  | 46, h => by cases h; exact kab_296
  | i + 47, h => by cases h
theorem kcond2 {α : Type} {b : Bool} {x : α} {o1 o2 : Option α} (h : cond b o1 o2 = some x) : (b = true ∧ o1 = some x) ∨ (b = false ∧ o2 = some x) := by
  cases b with
  | true => exact Or.inl ⟨rfl, h⟩
  | false => exact Or.inr ⟨rfl, h⟩
theorem kgetD {l : List (List (Nat × KE))} {j pc : Nat} {e : KE} (h : kfind (l.getD j []) pc = some e) : ∃ x, l[j]? = some x ∧ kfind x pc = some e := by
  rw [List.getD_eq_getElem?_getD] at h
  cases hl : l[j]? with
  | none => rw [hl] at h; cases h
  | some x => rw [hl] at h; exact ⟨x, rfl, h⟩
theorem kall_of {c M pc : Nat} {e : KE} {l : List (List (Nat × KE))} (hc : c ≤ M) (ha : ∀ (i : Nat) (x : List (Nat × KE)), l[i]? = some x → kallB (c + i) x = true) (h : kfind (l.getD (M - c) []) pc = some e) : kopB M (pc, e) = true := by
  obtain ⟨x, h1, h2⟩ := kgetD h
  have h3 := ha _ _ h1
  rw [show c + (M - c) = M by omega] at h3
  exact kallB_ok h3 h2
theorem kfc {b : Bool} {x y : List (Nat × KE)} {pc : Nat} : kfind (cond b x y) pc = cond b (kfind x pc) (kfind y pc) := by cases b <;> rfl
theorem kblt_false {a b : Nat} (h : Nat.blt a b = false) : b ≤ a := by
  by_cases q : a < b
  · have := Nat.blt_eq.mpr q
    rw [h] at this
    cases this
  · omega
theorem kpf_ok {M pc : Nat} {e : KE} (h : kpf M pc = some e) : kopB M (pc, e) = true := by
  unfold kpf at h
  rcases kcond2 h with ⟨hM, h⟩ | ⟨hM, h⟩
  · rw [Nat.eq_of_beq_eq_true hM]
    unfold kf_law at h
    rcases kcond2 h with ⟨-, h⟩ | ⟨-, h⟩
    · exact kallB_ok kabL_0 h
    rcases kcond2 h with ⟨-, h⟩ | ⟨-, h⟩
    · exact kallB_ok kabL_1 h
    rcases kcond2 h with ⟨-, h⟩ | ⟨-, h⟩
    · exact kallB_ok kabL_2 h
    rcases kcond2 h with ⟨-, h⟩ | ⟨-, h⟩
    · exact kallB_ok kabL_3 h
    rcases kcond2 h with ⟨-, h⟩ | ⟨-, h⟩
    · exact kallB_ok kabL_4 h
    rcases kcond2 h with ⟨-, h⟩ | ⟨-, h⟩
    · exact kallB_ok kabL_5 h
    rcases kcond2 h with ⟨-, h⟩ | ⟨-, h⟩
    · exact kallB_ok kabL_6 h
    rcases kcond2 h with ⟨-, h⟩ | ⟨-, h⟩
    · exact kallB_ok kabL_7 h
    rcases kcond2 h with ⟨-, h⟩ | ⟨-, h⟩
    · exact kallB_ok kabL_8 h
    rcases kcond2 h with ⟨-, h⟩ | ⟨-, h⟩
    · exact kallB_ok kabL_9 h
    rcases kcond2 h with ⟨-, h⟩ | ⟨-, h⟩
    · exact kallB_ok kabL_10 h
    exact kallB_ok kabL_11 h
  · unfold kcode at h
    rw [hM, cond_false] at h
    simp only [kfc] at h
    rcases kcond2 h with ⟨-, h⟩ | ⟨h0, h⟩
    · exact kall_of (c := 0) (by omega) kall_0 h
    rcases kcond2 h with ⟨-, h⟩ | ⟨h1, h⟩
    · exact kall_of (c := 50) (by have := kblt_false h0; omega) kall_1 h
    rcases kcond2 h with ⟨-, h⟩ | ⟨h2, h⟩
    · exact kall_of (c := 100) (by have := kblt_false h1; omega) kall_2 h
    rcases kcond2 h with ⟨-, h⟩ | ⟨h3, h⟩
    · exact kall_of (c := 150) (by have := kblt_false h2; omega) kall_3 h
    rcases kcond2 h with ⟨-, h⟩ | ⟨h4, h⟩
    · exact kall_of (c := 200) (by have := kblt_false h3; omega) kall_4 h
    exact kall_of (c := 250) (by have := kblt_false h4; omega) kall_5 h
theorem kG (M pc : Nat) (e : KE) (h : kpf M pc = some e) : ∃ len, decode (kmb M) pc = .ok (e.1, len) ∧ kOp kmaxl kmrc kmo kmy kmb kmret kw kn 60 M pc len e := kopB_ok (kpf_ok h)
