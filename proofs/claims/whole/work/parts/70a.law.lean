section LawC
variable {l : Launch} {D : va_G} {cI cO cL : ClassId} {J : JT va_W} {b L : Nat} {xs : Nat → Int32} {a a2 : Nat → Nat} {Z Z2 : ZZ} {o : Nat} {f : Nat → Int64} {k i : Nat} {g : Nat → Int}
set_option maxRecDepth 20000 in
theorem law_set (hJ : IsG l D (tL cI cO cL) cL_law 7 wsL_law RL room_1 (XL b L xs) J) (hl0 : l.stackTraces = false) (hI : XI Z g) (hM : MI Z2 g) (hi : i + 5 ≤ L) (hL : L ≤ 2560) (hk : k + 8 ≤ 601024)
    (nx : ∀ (g' : Nat → Int) (Z' : ZZ) (f' : Nat → Int64) (Z2' : ZZ), XI Z' g' → MI Z2' g' → J ((wX cI cO a Z' ++ wO cL o f') ++ wM cI a2 Z2') (k + 8) 1008 [(0, .ref b), (1, .ref (a 0)), (2, .ref (a2 0)), (3, .ref o), (4, .int (iZ (i : Int)))] []) : J ((wX cI cO a Z ++ wO cL o f) ++ wM cI a2 Z2) k 112 [(0, .ref b), (1, .ref (a 0)), (2, .ref (a2 0)), (3, .ref o), (4, .int (iZ (i : Int)))] [] := by
  refine g_aload_n hJ dL_law_112 rfl ?_
  refine g_arg (i := (i : Int)) (n := i + 1) hJ (by omega) (by omega) hL rfl rfl dL_law_113 dL_law_114 dL_law_116 dL_law_117 dL_law_118 ?_
  refine g_long (i := (i : Int)) (n2 := i + 2) (n3 := i + 3) hJ (by omega) (by omega) (by omega) (by omega) hL rfl rfl (by decide +kernel) dL_law_119 dL_law_120 dL_law_122 dL_law_123 dL_law_124 dL_law_125 dL_law_126 dL_law_128 dL_law_129 dL_law_130 dL_law_132 dL_law_133 dL_law_134 dL_law_135 dL_law_136 dL_law_139 dL_law_140 ?_
  refine g_callW (n := 3) (r2 := wM cI a2 Z2) hJ (kL_set l D cI cO cL a Z o f hl0 g hI ((xs (i + 1)).toInt) ((xs (i + 2)).toInt * ((2 ^ 32 : Nat) : Int) + (xs (i + 3)).toInt % 4294967296) (i32_v _) (i64_hl _ _)) rfl gL_law_L_set rfl (by decide +kernel) rfl ⟨Nat.le_of_ble_eq_true rfl, Nat.le_of_ble_eq_true rfl⟩ (Nat.le_of_ble_eq_true rfl) (l_room hk (by omega)) [0, 1, 2] rfl dL_law_141 (fun r3 w3 h3 => ?_)
  obtain ⟨Z3, rfl, hX3, rfl⟩ := h3
  refine g_istore hJ (by decide) dL_law_144 ?_
  refine g_aload_n hJ dL_law_146 rfl ?_
  refine g_arg (i := (i : Int)) (n := i + 1) hJ (by omega) (by omega) hL rfl rfl dL_law_147 dL_law_148 dL_law_150 dL_law_151 dL_law_152 ?_
  refine g_long (i := (i : Int)) (n2 := i + 2) (n3 := i + 3) hJ (by omega) (by omega) (by omega) (by omega) hL rfl rfl (by decide +kernel) dL_law_153 dL_law_154 dL_law_156 dL_law_157 dL_law_158 dL_law_159 dL_law_160 dL_law_162 dL_law_163 dL_law_164 dL_law_166 dL_law_167 dL_law_168 dL_law_169 dL_law_170 dL_law_173 dL_law_174 ?_
  refine g_callM (r1 := wX cI cO a Z3 ++ wO cL o f) hJ (kX1_set l D cI a2 Z2 g hM ((xs (i + 1)).toInt) ((xs (i + 2)).toInt * ((2 ^ 32 : Nat) : Int) + (xs (i + 3)).toInt % 4294967296) (i32_v _) (i64_hl _ _)) rfl gL_law_X1_set rfl hdX1_set rfl ⟨Nat.le_of_ble_eq_true rfl, Nat.le_of_ble_eq_true rfl⟩ (Nat.le_of_ble_eq_true rfl) (l_room hk (by omega)) [0] rfl dL_law_175 (fun r4 Z4 h4 => ?_)
  obtain ⟨rfl, hc4, hM4⟩ := h4
  refine g_aload_n hJ dL_law_178 rfl ?_
  refine g_callM (As := []) (r1 := wX cI cO a Z3 ++ wO cL o f) hJ (kX1_thrown l D cI a2 Z4) rfl gL_law_X1_thrown rfl hdX1_thrown rfl ⟨Nat.le_of_ble_eq_true rfl, Nat.le_of_ble_eq_true rfl⟩ (Nat.le_of_ble_eq_true rfl) (l_room hk (by omega)) [0] rfl dL_law_179 (fun r5 Z5 h5 => ?_)
  obtain ⟨rfl, rfl⟩ := h5
  refine g_iload hJ dL_law_182 rfl ?_
  refine g_ieq (tgt := 189) hJ (by rw [hc4]) (by decide) dL_law_184 ?_
  refine g_goto (tgt := 1008) hJ (by decide) dL_law_189 ?_
  exact g_re hJ (g_wide hJ (by omega) (nx _ Z3 f Z4 hX3 hM4)) ⟨rfl, rfl, rfl, rfl, rfl, trivial⟩
set_option maxRecDepth 20000 in
theorem law_append (hJ : IsG l D (tL cI cO cL) cL_law 7 wsL_law RL room_1 (XL b L xs) J) (hl0 : l.stackTraces = false) (hI : XI Z g) (hM : MI Z2 g) (hi : i + 5 ≤ L) (hL : L ≤ 2560) (hk : k + 8 ≤ 601024)
    (nx : ∀ (g' : Nat → Int) (Z' : ZZ) (f' : Nat → Int64) (Z2' : ZZ), XI Z' g' → MI Z2' g' → J ((wX cI cO a Z' ++ wO cL o f') ++ wM cI a2 Z2') (k + 8) 1008 [(0, .ref b), (1, .ref (a 0)), (2, .ref (a2 0)), (3, .ref o), (4, .int (iZ (i : Int)))] []) : J ((wX cI cO a Z ++ wO cL o f) ++ wM cI a2 Z2) k 192 [(0, .ref b), (1, .ref (a 0)), (2, .ref (a2 0)), (3, .ref o), (4, .int (iZ (i : Int)))] [] := by
  refine g_aload_n hJ dL_law_192 rfl ?_
  refine g_arg (i := (i : Int)) (n := i + 1) hJ (by omega) (by omega) hL rfl rfl dL_law_193 dL_law_194 dL_law_196 dL_law_197 dL_law_198 ?_
  refine g_arg (i := (i : Int)) (n := i + 2) hJ (by omega) (by omega) hL rfl rfl dL_law_199 dL_law_200 dL_law_202 dL_law_203 dL_law_204 ?_
  refine g_callW (n := 3) (r2 := wM cI a2 Z2) hJ (kL_append l D cI cO cL a Z o f hl0 g hI ((xs (i + 1)).toInt) ((xs (i + 2)).toInt) (i32_v _) (i32_v _)) rfl gL_law_L_append rfl (by decide +kernel) rfl ⟨Nat.le_of_ble_eq_true rfl, Nat.le_of_ble_eq_true rfl⟩ (Nat.le_of_ble_eq_true rfl) (l_room hk (by omega)) [0, 1, 2] rfl dL_law_205 (fun r3 w3 h3 => ?_)
  obtain ⟨Z3, rfl, hX3, rfl⟩ := h3
  refine g_istore hJ (by decide) dL_law_208 ?_
  refine g_aload_n hJ dL_law_210 rfl ?_
  refine g_arg (i := (i : Int)) (n := i + 1) hJ (by omega) (by omega) hL rfl rfl dL_law_211 dL_law_212 dL_law_214 dL_law_215 dL_law_216 ?_
  refine g_arg (i := (i : Int)) (n := i + 2) hJ (by omega) (by omega) hL rfl rfl dL_law_217 dL_law_218 dL_law_220 dL_law_221 dL_law_222 ?_
  refine g_callM (r1 := wX cI cO a Z3 ++ wO cL o f) hJ (kX1_append l D cI a2 Z2 g hM ((xs (i + 1)).toInt) ((xs (i + 2)).toInt) (i32_v _) (i32_v _)) rfl gL_law_X1_append rfl hdX1_append rfl ⟨Nat.le_of_ble_eq_true rfl, Nat.le_of_ble_eq_true rfl⟩ (Nat.le_of_ble_eq_true rfl) (l_room hk (by omega)) [0] rfl dL_law_223 (fun r4 Z4 h4 => ?_)
  obtain ⟨rfl, hc4, hM4⟩ := h4
  refine g_aload_n hJ dL_law_226 rfl ?_
  refine g_callM (As := []) (r1 := wX cI cO a Z3 ++ wO cL o f) hJ (kX1_thrown l D cI a2 Z4) rfl gL_law_X1_thrown rfl hdX1_thrown rfl ⟨Nat.le_of_ble_eq_true rfl, Nat.le_of_ble_eq_true rfl⟩ (Nat.le_of_ble_eq_true rfl) (l_room hk (by omega)) [0] rfl dL_law_227 (fun r5 Z5 h5 => ?_)
  obtain ⟨rfl, rfl⟩ := h5
  refine g_iload hJ dL_law_230 rfl ?_
  refine g_ieq (tgt := 237) hJ (by rw [hc4]) (by decide) dL_law_232 ?_
  refine g_goto (tgt := 1008) hJ (by decide) dL_law_237 ?_
  exact g_re hJ (g_wide hJ (by omega) (nx _ Z3 f Z4 hX3 hM4)) ⟨rfl, rfl, rfl, rfl, rfl, trivial⟩
set_option maxRecDepth 20000 in
theorem law_negate (hJ : IsG l D (tL cI cO cL) cL_law 7 wsL_law RL room_1 (XL b L xs) J) (hl0 : l.stackTraces = false) (hI : XI Z g) (hM : MI Z2 g) (hi : i + 5 ≤ L) (hL : L ≤ 2560) (hk : k + 8 ≤ 601024)
    (nx : ∀ (g' : Nat → Int) (Z' : ZZ) (f' : Nat → Int64) (Z2' : ZZ), XI Z' g' → MI Z2' g' → J ((wX cI cO a Z' ++ wO cL o f') ++ wM cI a2 Z2') (k + 8) 1008 [(0, .ref b), (1, .ref (a 0)), (2, .ref (a2 0)), (3, .ref o), (4, .int (iZ (i : Int)))] []) : J ((wX cI cO a Z ++ wO cL o f) ++ wM cI a2 Z2) k 240 [(0, .ref b), (1, .ref (a 0)), (2, .ref (a2 0)), (3, .ref o), (4, .int (iZ (i : Int)))] [] := by
  refine g_aload_n hJ dL_law_240 rfl ?_
  refine g_arg (i := (i : Int)) (n := i + 1) hJ (by omega) (by omega) hL rfl rfl dL_law_241 dL_law_242 dL_law_244 dL_law_245 dL_law_246 ?_
  refine g_callW (n := 2) (r2 := wM cI a2 Z2) hJ (kL_negate l D cI cO cL a Z o f hl0 g hI ((xs (i + 1)).toInt) (i32_v _)) rfl gL_law_L_negate rfl (by decide +kernel) rfl ⟨Nat.le_of_ble_eq_true rfl, Nat.le_of_ble_eq_true rfl⟩ (Nat.le_of_ble_eq_true rfl) (l_room hk (by omega)) [0, 1, 2] rfl dL_law_247 (fun r3 w3 h3 => ?_)
  obtain ⟨Z3, rfl, hX3, rfl⟩ := h3
  refine g_istore hJ (by decide) dL_law_250 ?_
  refine g_aload_n hJ dL_law_252 rfl ?_
  refine g_arg (i := (i : Int)) (n := i + 1) hJ (by omega) (by omega) hL rfl rfl dL_law_253 dL_law_254 dL_law_256 dL_law_257 dL_law_258 ?_
  refine g_callM (r1 := wX cI cO a Z3 ++ wO cL o f) hJ (kX1_negate l D cI a2 Z2 g hM ((xs (i + 1)).toInt) (i32_v _)) rfl gL_law_X1_negate rfl hdX1_negate rfl ⟨Nat.le_of_ble_eq_true rfl, Nat.le_of_ble_eq_true rfl⟩ (Nat.le_of_ble_eq_true rfl) (l_room hk (by omega)) [0] rfl dL_law_259 (fun r4 Z4 h4 => ?_)
  obtain ⟨rfl, hc4, hM4⟩ := h4
  refine g_aload_n hJ dL_law_262 rfl ?_
  refine g_callM (As := []) (r1 := wX cI cO a Z3 ++ wO cL o f) hJ (kX1_thrown l D cI a2 Z4) rfl gL_law_X1_thrown rfl hdX1_thrown rfl ⟨Nat.le_of_ble_eq_true rfl, Nat.le_of_ble_eq_true rfl⟩ (Nat.le_of_ble_eq_true rfl) (l_room hk (by omega)) [0] rfl dL_law_263 (fun r5 Z5 h5 => ?_)
  obtain ⟨rfl, rfl⟩ := h5
  refine g_iload hJ dL_law_266 rfl ?_
  refine g_ieq (tgt := 273) hJ (by rw [hc4]) (by decide) dL_law_268 ?_
  refine g_goto (tgt := 1008) hJ (by decide) dL_law_273 ?_
  exact g_re hJ (g_wide hJ (by omega) (nx _ Z3 f Z4 hX3 hM4)) ⟨rfl, rfl, rfl, rfl, rfl, trivial⟩
set_option maxRecDepth 20000 in
theorem law_copy (hJ : IsG l D (tL cI cO cL) cL_law 7 wsL_law RL room_1 (XL b L xs) J) (hl0 : l.stackTraces = false) (hI : XI Z g) (hM : MI Z2 g) (hi : i + 5 ≤ L) (hL : L ≤ 2560) (hk : k + 8 ≤ 601024)
    (nx : ∀ (g' : Nat → Int) (Z' : ZZ) (f' : Nat → Int64) (Z2' : ZZ), XI Z' g' → MI Z2' g' → J ((wX cI cO a Z' ++ wO cL o f') ++ wM cI a2 Z2') (k + 8) 1008 [(0, .ref b), (1, .ref (a 0)), (2, .ref (a2 0)), (3, .ref o), (4, .int (iZ (i : Int)))] []) : J ((wX cI cO a Z ++ wO cL o f) ++ wM cI a2 Z2) k 276 [(0, .ref b), (1, .ref (a 0)), (2, .ref (a2 0)), (3, .ref o), (4, .int (iZ (i : Int)))] [] := by
  refine g_aload_n hJ dL_law_276 rfl ?_
  refine g_arg (i := (i : Int)) (n := i + 1) hJ (by omega) (by omega) hL rfl rfl dL_law_277 dL_law_278 dL_law_280 dL_law_281 dL_law_282 ?_
  refine g_arg (i := (i : Int)) (n := i + 2) hJ (by omega) (by omega) hL rfl rfl dL_law_283 dL_law_284 dL_law_286 dL_law_287 dL_law_288 ?_
  refine g_callW (n := 3) (r2 := wM cI a2 Z2) hJ (kL_copy l D cI cO cL a Z o f hl0 g hI ((xs (i + 1)).toInt) ((xs (i + 2)).toInt) (i32_v _) (i32_v _)) rfl gL_law_L_copy rfl (by decide +kernel) rfl ⟨Nat.le_of_ble_eq_true rfl, Nat.le_of_ble_eq_true rfl⟩ (Nat.le_of_ble_eq_true rfl) (l_room hk (by omega)) [0, 1, 2] rfl dL_law_289 (fun r3 w3 h3 => ?_)
  obtain ⟨Z3, rfl, hX3, rfl⟩ := h3
  refine g_istore hJ (by decide) dL_law_292 ?_
  refine g_aload_n hJ dL_law_294 rfl ?_
  refine g_arg (i := (i : Int)) (n := i + 1) hJ (by omega) (by omega) hL rfl rfl dL_law_295 dL_law_296 dL_law_298 dL_law_299 dL_law_300 ?_
  refine g_arg (i := (i : Int)) (n := i + 2) hJ (by omega) (by omega) hL rfl rfl dL_law_301 dL_law_302 dL_law_304 dL_law_305 dL_law_306 ?_
  refine g_callM (r1 := wX cI cO a Z3 ++ wO cL o f) hJ (kX1_copy l D cI a2 Z2 g hM ((xs (i + 1)).toInt) ((xs (i + 2)).toInt) (i32_v _) (i32_v _)) rfl gL_law_X1_copy rfl hdX1_copy rfl ⟨Nat.le_of_ble_eq_true rfl, Nat.le_of_ble_eq_true rfl⟩ (Nat.le_of_ble_eq_true rfl) (l_room hk (by omega)) [0] rfl dL_law_307 (fun r4 Z4 h4 => ?_)
  obtain ⟨rfl, hc4, hM4⟩ := h4
  refine g_aload_n hJ dL_law_310 rfl ?_
  refine g_callM (As := []) (r1 := wX cI cO a Z3 ++ wO cL o f) hJ (kX1_thrown l D cI a2 Z4) rfl gL_law_X1_thrown rfl hdX1_thrown rfl ⟨Nat.le_of_ble_eq_true rfl, Nat.le_of_ble_eq_true rfl⟩ (Nat.le_of_ble_eq_true rfl) (l_room hk (by omega)) [0] rfl dL_law_311 (fun r5 Z5 h5 => ?_)
  obtain ⟨rfl, rfl⟩ := h5
  refine g_iload hJ dL_law_314 rfl ?_
  refine g_ieq (tgt := 321) hJ (by rw [hc4]) (by decide) dL_law_316 ?_
  refine g_goto (tgt := 1008) hJ (by decide) dL_law_321 ?_
  exact g_re hJ (g_wide hJ (by omega) (nx _ Z3 f Z4 hX3 hM4)) ⟨rfl, rfl, rfl, rfl, rfl, trivial⟩
set_option maxRecDepth 20000 in
theorem law_add (hJ : IsG l D (tL cI cO cL) cL_law 7 wsL_law RL room_1 (XL b L xs) J) (hl0 : l.stackTraces = false) (hI : XI Z g) (hM : MI Z2 g) (hi : i + 5 ≤ L) (hL : L ≤ 2560) (hk : k + 8 ≤ 601024)
    (nx : ∀ (g' : Nat → Int) (Z' : ZZ) (f' : Nat → Int64) (Z2' : ZZ), XI Z' g' → MI Z2' g' → J ((wX cI cO a Z' ++ wO cL o f') ++ wM cI a2 Z2') (k + 8) 1008 [(0, .ref b), (1, .ref (a 0)), (2, .ref (a2 0)), (3, .ref o), (4, .int (iZ (i : Int)))] []) : J ((wX cI cO a Z ++ wO cL o f) ++ wM cI a2 Z2) k 324 [(0, .ref b), (1, .ref (a 0)), (2, .ref (a2 0)), (3, .ref o), (4, .int (iZ (i : Int)))] [] := by
  refine g_aload_n hJ dL_law_324 rfl ?_
  refine g_arg (i := (i : Int)) (n := i + 1) hJ (by omega) (by omega) hL rfl rfl dL_law_325 dL_law_326 dL_law_328 dL_law_329 dL_law_330 ?_
  refine g_arg (i := (i : Int)) (n := i + 2) hJ (by omega) (by omega) hL rfl rfl dL_law_331 dL_law_332 dL_law_334 dL_law_335 dL_law_336 ?_
  refine g_arg (i := (i : Int)) (n := i + 3) hJ (by omega) (by omega) hL rfl rfl dL_law_337 dL_law_338 dL_law_340 dL_law_341 dL_law_342 ?_
  refine g_callW (n := 4) (r2 := wM cI a2 Z2) hJ (kL_add l D cI cO cL a Z o f hl0 g hI ((xs (i + 1)).toInt) ((xs (i + 2)).toInt) ((xs (i + 3)).toInt) (i32_v _) (i32_v _) (i32_v _)) rfl gL_law_L_add rfl (by decide +kernel) rfl ⟨Nat.le_of_ble_eq_true rfl, Nat.le_of_ble_eq_true rfl⟩ (Nat.le_of_ble_eq_true rfl) (l_room hk (by omega)) [0, 1, 2] rfl dL_law_343 (fun r3 w3 h3 => ?_)
  obtain ⟨Z3, rfl, hX3, rfl⟩ := h3
  refine g_istore hJ (by decide) dL_law_346 ?_
  refine g_aload_n hJ dL_law_348 rfl ?_
  refine g_arg (i := (i : Int)) (n := i + 1) hJ (by omega) (by omega) hL rfl rfl dL_law_349 dL_law_350 dL_law_352 dL_law_353 dL_law_354 ?_
  refine g_arg (i := (i : Int)) (n := i + 2) hJ (by omega) (by omega) hL rfl rfl dL_law_355 dL_law_356 dL_law_358 dL_law_359 dL_law_360 ?_
  refine g_arg (i := (i : Int)) (n := i + 3) hJ (by omega) (by omega) hL rfl rfl dL_law_361 dL_law_362 dL_law_364 dL_law_365 dL_law_366 ?_
  refine g_callM (r1 := wX cI cO a Z3 ++ wO cL o f) hJ (kX1_add l D cI a2 Z2 g hM ((xs (i + 1)).toInt) ((xs (i + 2)).toInt) ((xs (i + 3)).toInt) (i32_v _) (i32_v _) (i32_v _)) rfl gL_law_X1_add rfl hdX1_add rfl ⟨Nat.le_of_ble_eq_true rfl, Nat.le_of_ble_eq_true rfl⟩ (Nat.le_of_ble_eq_true rfl) (l_room hk (by omega)) [0] rfl dL_law_367 (fun r4 Z4 h4 => ?_)
  obtain ⟨rfl, hc4, hM4⟩ := h4
  refine g_aload_n hJ dL_law_370 rfl ?_
  refine g_callM (As := []) (r1 := wX cI cO a Z3 ++ wO cL o f) hJ (kX1_thrown l D cI a2 Z4) rfl gL_law_X1_thrown rfl hdX1_thrown rfl ⟨Nat.le_of_ble_eq_true rfl, Nat.le_of_ble_eq_true rfl⟩ (Nat.le_of_ble_eq_true rfl) (l_room hk (by omega)) [0] rfl dL_law_371 (fun r5 Z5 h5 => ?_)
  obtain ⟨rfl, rfl⟩ := h5
  refine g_iload hJ dL_law_374 rfl ?_
  refine g_ieq (tgt := 381) hJ (by rw [hc4]) (by decide) dL_law_376 ?_
  refine g_goto (tgt := 1008) hJ (by decide) dL_law_381 ?_
  exact g_re hJ (g_wide hJ (by omega) (nx _ Z3 f Z4 hX3 hM4)) ⟨rfl, rfl, rfl, rfl, rfl, trivial⟩
end LawC
