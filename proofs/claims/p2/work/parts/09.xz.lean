theorem lkm_all : ∀ i, i < 316 → (i = 205 ∨ lkm i = true) := by
  intro i h
  by_cases h10 : i < 10
  · exact lkmg_0 i (by omega) (by omega)
  by_cases h18 : i < 18
  · exact lkmg_10 i (by omega) (by omega)
  by_cases h25 : i < 25
  · exact lkmg_18 i (by omega) (by omega)
  by_cases h30 : i < 30
  · exact lkmg_25 i (by omega) (by omega)
  by_cases h38 : i < 38
  · exact lkmg_30 i (by omega) (by omega)
  by_cases h51 : i < 51
  · exact lkmg_38 i (by omega) (by omega)
  by_cases h63 : i < 63
  · exact lkmg_51 i (by omega) (by omega)
  by_cases h83 : i < 83
  · exact lkmg_63 i (by omega) (by omega)
  by_cases h96 : i < 96
  · exact lkmg_83 i (by omega) (by omega)
  by_cases h116 : i < 116
  · exact lkmg_96 i (by omega) (by omega)
  by_cases h127 : i < 127
  · exact lkmg_116 i (by omega) (by omega)
  by_cases h134 : i < 134
  · exact lkmg_127 i (by omega) (by omega)
  by_cases h143 : i < 143
  · exact lkmg_134 i (by omega) (by omega)
  by_cases h150 : i < 150
  · exact lkmg_143 i (by omega) (by omega)
  by_cases h163 : i < 163
  · exact lkmg_150 i (by omega) (by omega)
  by_cases h176 : i < 176
  · exact lkmg_163 i (by omega) (by omega)
  by_cases h191 : i < 191
  · exact lkmg_176 i (by omega) (by omega)
  by_cases h206 : i < 206
  · exact lkmg_191 i (by omega) (by omega)
  by_cases h207 : i < 207
  · exact lkmg_206 i (by omega) (by omega)
  by_cases h219 : i < 219
  · exact lkmg_207 i (by omega) (by omega)
  by_cases h226 : i < 226
  · exact lkmg_219 i (by omega) (by omega)
  by_cases h232 : i < 232
  · exact lkmg_226 i (by omega) (by omega)
  by_cases h240 : i < 240
  · exact lkmg_232 i (by omega) (by omega)
  by_cases h249 : i < 249
  · exact lkmg_240 i (by omega) (by omega)
  by_cases h253 : i < 253
  · exact lkmg_249 i (by omega) (by omega)
  by_cases h257 : i < 257
  · exact lkmg_253 i (by omega) (by omega)
  by_cases h264 : i < 264
  · exact lkmg_257 i (by omega) (by omega)
  by_cases h270 : i < 270
  · exact lkmg_264 i (by omega) (by omega)
  by_cases h277 : i < 277
  · exact lkmg_270 i (by omega) (by omega)
  by_cases h283 : i < 283
  · exact lkmg_277 i (by omega) (by omega)
  by_cases h287 : i < 287
  · exact lkmg_283 i (by omega) (by omega)
  by_cases h295 : i < 295
  · exact lkmg_287 i (by omega) (by omega)
  by_cases h300 : i < 300
  · exact lkmg_295 i (by omega) (by omega)
  by_cases h306 : i < 306
  · exact lkmg_300 i (by omega) (by omega)
  by_cases h315 : i < 315
  · exact lkmg_306 i (by omega) (by omega)
  exact lkmg_315 i (by omega) (by omega)
