theorem lkm_all : ∀ i, i < 316 → (i = 205 ∨ lkm i = true) := by
  intro i h
  by_cases h8 : i < 8
  · exact lkmg_0 i (by omega) (by omega)
  by_cases h10 : i < 10
  · exact lkmg_8 i (by omega) (by omega)
  by_cases h14 : i < 14
  · exact lkmg_10 i (by omega) (by omega)
  by_cases h19 : i < 19
  · exact lkmg_14 i (by omega) (by omega)
  by_cases h24 : i < 24
  · exact lkmg_19 i (by omega) (by omega)
  by_cases h26 : i < 26
  · exact lkmg_24 i (by omega) (by omega)
  by_cases h30 : i < 30
  · exact lkmg_26 i (by omega) (by omega)
  by_cases h34 : i < 34
  · exact lkmg_30 i (by omega) (by omega)
  by_cases h38 : i < 38
  · exact lkmg_34 i (by omega) (by omega)
  by_cases h46 : i < 46
  · exact lkmg_38 i (by omega) (by omega)
  by_cases h51 : i < 51
  · exact lkmg_46 i (by omega) (by omega)
  by_cases h58 : i < 58
  · exact lkmg_51 i (by omega) (by omega)
  by_cases h65 : i < 65
  · exact lkmg_58 i (by omega) (by omega)
  by_cases h76 : i < 76
  · exact lkmg_65 i (by omega) (by omega)
  by_cases h85 : i < 85
  · exact lkmg_76 i (by omega) (by omega)
  by_cases h92 : i < 92
  · exact lkmg_85 i (by omega) (by omega)
  by_cases h101 : i < 101
  · exact lkmg_92 i (by omega) (by omega)
  by_cases h114 : i < 114
  · exact lkmg_101 i (by omega) (by omega)
  by_cases h121 : i < 121
  · exact lkmg_114 i (by omega) (by omega)
  by_cases h126 : i < 126
  · exact lkmg_121 i (by omega) (by omega)
  by_cases h129 : i < 129
  · exact lkmg_126 i (by omega) (by omega)
  by_cases h133 : i < 133
  · exact lkmg_129 i (by omega) (by omega)
  by_cases h136 : i < 136
  · exact lkmg_133 i (by omega) (by omega)
  by_cases h141 : i < 141
  · exact lkmg_136 i (by omega) (by omega)
  by_cases h145 : i < 145
  · exact lkmg_141 i (by omega) (by omega)
  by_cases h148 : i < 148
  · exact lkmg_145 i (by omega) (by omega)
  by_cases h153 : i < 153
  · exact lkmg_148 i (by omega) (by omega)
  by_cases h160 : i < 160
  · exact lkmg_153 i (by omega) (by omega)
  by_cases h166 : i < 166
  · exact lkmg_160 i (by omega) (by omega)
  by_cases h173 : i < 173
  · exact lkmg_166 i (by omega) (by omega)
  by_cases h179 : i < 179
  · exact lkmg_173 i (by omega) (by omega)
  by_cases h187 : i < 187
  · exact lkmg_179 i (by omega) (by omega)
  by_cases h199 : i < 199
  · exact lkmg_187 i (by omega) (by omega)
  by_cases h206 : i < 206
  · exact lkmg_199 i (by omega) (by omega)
  by_cases h207 : i < 207
  · exact lkmg_206 i (by omega) (by omega)
  by_cases h213 : i < 213
  · exact lkmg_207 i (by omega) (by omega)
  by_cases h219 : i < 219
  · exact lkmg_213 i (by omega) (by omega)
  by_cases h225 : i < 225
  · exact lkmg_219 i (by omega) (by omega)
  by_cases h226 : i < 226
  · exact lkmg_225 i (by omega) (by omega)
  by_cases h228 : i < 228
  · exact lkmg_226 i (by omega) (by omega)
  by_cases h232 : i < 232
  · exact lkmg_228 i (by omega) (by omega)
  by_cases h235 : i < 235
  · exact lkmg_232 i (by omega) (by omega)
  by_cases h239 : i < 239
  · exact lkmg_235 i (by omega) (by omega)
  by_cases h244 : i < 244
  · exact lkmg_239 i (by omega) (by omega)
  by_cases h248 : i < 248
  · exact lkmg_244 i (by omega) (by omega)
  by_cases h250 : i < 250
  · exact lkmg_248 i (by omega) (by omega)
  by_cases h253 : i < 253
  · exact lkmg_250 i (by omega) (by omega)
  by_cases h256 : i < 256
  · exact lkmg_253 i (by omega) (by omega)
  by_cases h257 : i < 257
  · exact lkmg_256 i (by omega) (by omega)
  by_cases h261 : i < 261
  · exact lkmg_257 i (by omega) (by omega)
  by_cases h264 : i < 264
  · exact lkmg_261 i (by omega) (by omega)
  by_cases h266 : i < 266
  · exact lkmg_264 i (by omega) (by omega)
  by_cases h271 : i < 271
  · exact lkmg_266 i (by omega) (by omega)
  by_cases h275 : i < 275
  · exact lkmg_271 i (by omega) (by omega)
  by_cases h277 : i < 277
  · exact lkmg_275 i (by omega) (by omega)
  by_cases h278 : i < 278
  · exact lkmg_277 i (by omega) (by omega)
  by_cases h283 : i < 283
  · exact lkmg_278 i (by omega) (by omega)
  by_cases h285 : i < 285
  · exact lkmg_283 i (by omega) (by omega)
  by_cases h287 : i < 287
  · exact lkmg_285 i (by omega) (by omega)
  by_cases h290 : i < 290
  · exact lkmg_287 i (by omega) (by omega)
  by_cases h295 : i < 295
  · exact lkmg_290 i (by omega) (by omega)
  by_cases h297 : i < 297
  · exact lkmg_295 i (by omega) (by omega)
  by_cases h298 : i < 298
  · exact lkmg_297 i (by omega) (by omega)
  by_cases h301 : i < 301
  · exact lkmg_298 i (by omega) (by omega)
  by_cases h303 : i < 303
  · exact lkmg_301 i (by omega) (by omega)
  by_cases h305 : i < 305
  · exact lkmg_303 i (by omega) (by omega)
  by_cases h310 : i < 310
  · exact lkmg_305 i (by omega) (by omega)
  by_cases h315 : i < 315
  · exact lkmg_310 i (by omega) (by omega)
  exact lkmg_315 i (by omega) (by omega)
