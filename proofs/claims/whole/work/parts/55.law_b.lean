/-! THE LAW, its cases: each a call of the class and a call of the reference, whose answers are one -/
abbrev lv4 (s : State) (b : Nat) (i : Int32) : List (Nat × Value) := [(3, .int i), (2, .ref (s.heap.size + 45)), (1, .ref (s.heap.size + 0)), (0, .ref b)]
theorem m4_3 {s : State} {b : Nat} {i : Int32} : (3, Value.int i) ∈ lv4 s b i := List.mem_of_getElem? (i := 0) rfl
theorem m4_2 {s : State} {b : Nat} {i : Int32} : (2, Value.ref (s.heap.size + 45)) ∈ lv4 s b i := List.mem_of_getElem? (i := 1) rfl
theorem m4_1 {s : State} {b : Nat} {i : Int32} : (1, Value.ref (s.heap.size + 0)) ∈ lv4 s b i := List.mem_of_getElem? (i := 2) rfl
theorem m4_0 {s : State} {b : Nat} {i : Int32} : (0, Value.ref b) ∈ lv4 s b i := List.mem_of_getElem? (i := 3) rfl
theorem arg_in {j t L : Nat} (hL : L ≤ 3072) (hj : j + 6 ≤ L) (ht : t < 6) : vp_in (nI j + nI t) L := by
  rw [nI_add]
  exact vp_in_nI (by omega) (by omega)
section LAW
variable {p : Program} {l : Launch} {e : Env} {s : State} {m : MethodId} {below : List Frame} {meth : Method} {c : Code} {b L : Nat} {xs : Nat → Int32} {G : GG} {k n pc : Nat} {lv : List (Nat × Value)} {st : List Value} {h : List AC}
theorem LW.eqs {st' : List Value} (he : st = st') (kk : LW p l e s m below meth c b G k n pc lv st' h) : LW p l e s m below meth c b G k n pc lv st h := by rw [he]; exact kk
theorem LW.eqh {h' : List AC} (he : h = h') (kk : LW p l e s m below meth c b G k n pc lv st h') : LW p l e s m below meth c b G k n pc lv st h := by rw [he]; exact kk
theorem LW.tabOut {dflt lo hi : Int} {offs : Array Int} {len : Nat} {x : Int32} (tgt : Nat) (hC : lw_At p s m meth c b L xs) (hd : decode code pc = .ok (.tableswitch dflt lo hi offs, len)) (hh : x.toInt < lo ∨ hi < x.toInt) (ht : (pc : Int) + dflt = (tgt : Int)) (kk : LW p l e s m below meth c b G k n tgt lv st h) : LW p l e s m below meth c b G k n pc lv (.int x :: st) h :=
  fun H locs arr hW hL => lv_tableOut hC.1 hC.2.1 hd hh ht (kk H locs arr hW hL)
theorem LW.tabIn {dflt lo hi : Int} {offs : Array Int} {len : Nat} {x : Int32} {off : Int} (tgt : Nat) (hC : lw_At p s m meth c b L xs) (hd : decode code pc = .ok (.tableswitch dflt lo hi offs, len)) (h1 : ¬ x.toInt < lo) (h2 : ¬ hi < x.toInt) (ho : offs[(x.toInt - lo).toNat]? = some off) (ht : (pc : Int) + off = (tgt : Int)) (kk : LW p l e s m below meth c b G k n tgt lv st h) : LW p l e s m below meth c b G k n pc lv (.int x :: st) h :=
  fun H locs arr hW hL => lv_tableIn hC.1 hC.2.1 hd h1 h2 ho ht (kk H locs arr hW hL)
/-- a call that makes nothing new -/
theorem LW.cV {idx ci na i d' : Nat} {M' : MD} {As : List Value} {st0 : List Value} {fs : List Value} {Q' : Option Value → List AC → Prop} (hM : Mt d' 0 0 M' (.ref i :: As) h Q') (hC : lw_At p s m meth c b L xs) (hK : Kn G s) (hd : decode code pc = .ok (.invokevirtual idx, 3)) (hw : CVok RL idx M' ci na) (hr : h[i]? = some (.inl (ci, fs))) (hn : As.length = na) (hst : st0 = As.reverse ++ .ref i :: st) (hs : (st.map fun v => v.category).sum ≤ 8) (hdp : d' ≤ 100)
    (kk : ∀ (r : Option Value) (h' : List AC), Q' r h' → LW p l e s m below meth c b G 69 763 (pc + 3) lv (r.toList ++ st) h') : LW p l e s m below meth c b G 69 763 pc lv st0 h :=
  LW.callV (nc := 0) (ns := 0) hC hK hd hw hr hn hst hs hdp hM (by decide) (by decide) kk
theorem L_scene {j : Nat} (hC : lw_At p s m meth c b L xs) (hK : Kn G s) (hL : L ≤ 3072) (hj : j + 6 ≤ L) (hG : GH h) (kk : ∀ h', GH h' → LW p l e s m below meth c b G 69 763 802 (lv4 s b (nI j)) [] h') : LW p l e s m below meth c b G 69 763 136 (lv4 s b (nI j)) [] h := by
  obtain ⟨F, n, nd, R, D, f, ro, rs, rw, rb, mm, rfl, hJ, hP, hM⟩ := hG
  refine LW.ald 0 hC dL_law_136 m4_1 ?_
  refine LW.arg 1 hC m4_0 m4_3 (arg_in hL hj (by decide)) dL_law_137 dL_law_138 dL_law_139 dL_law_140 dL_law_141 (by decide +kernel) ?_
  refine LW.arg 2 hC m4_0 m4_3 (arg_in hL hj (by decide)) dL_law_142 dL_law_143 dL_law_144 dL_law_145 dL_law_146 (by decide +kernel) ?_
  refine LW.arg 3 hC m4_0 m4_3 (arg_in hL hj (by decide)) dL_law_147 dL_law_148 dL_law_149 dL_law_150 dL_law_151 (by decide +kernel) ?_
  refine LW.arg 4 hC m4_0 m4_3 (arg_in hL hj (by decide)) dL_law_152 dL_law_153 dL_law_154 dL_law_155 dL_law_156 (by decide +kernel) ?_
  refine LW.arg 5 hC m4_0 m4_3 (arg_in hL hj (by decide)) dL_law_157 dL_law_158 dL_law_159 dL_law_160 dL_law_161 (by decide +kernel) ?_
  refine LW.cV (p_scene hJ hP hM (xs (nI j + nI 1).toNatClampNeg) (xs (nI j + nI 2).toNatClampNeg) (xs (nI j + nI 3).toNatClampNeg) (xs (nI j + nI 4).toNatClampNeg) (xs (nI j + nI 5).toNatClampNeg)) hC hK dL_law_162 k_L_13 rfl rfl rfl (Nat.le_of_ble_eq_true rfl) (Nat.le_of_ble_eq_true rfl) ?_
  rintro _ h1 ⟨v, rfl, ⟨fs, h45⟩, h7⟩
  refine LW.eqs (st' := [.int v]) rfl ?_
  refine LW.ald 45 hC dL_law_165 m4_2 ?_
  refine LW.arg 1 hC m4_0 m4_3 (arg_in hL hj (by decide)) dL_law_166 dL_law_167 dL_law_168 dL_law_169 dL_law_170 (by decide +kernel) ?_
  refine LW.arg 2 hC m4_0 m4_3 (arg_in hL hj (by decide)) dL_law_171 dL_law_172 dL_law_173 dL_law_174 dL_law_175 (by decide +kernel) ?_
  refine LW.arg 3 hC m4_0 m4_3 (arg_in hL hj (by decide)) dL_law_176 dL_law_177 dL_law_178 dL_law_179 dL_law_180 (by decide +kernel) ?_
  refine LW.arg 4 hC m4_0 m4_3 (arg_in hL hj (by decide)) dL_law_181 dL_law_182 dL_law_183 dL_law_184 dL_law_185 (by decide +kernel) ?_
  refine LW.arg 5 hC m4_0 m4_3 (arg_in hL hj (by decide)) dL_law_186 dL_law_187 dL_law_188 dL_law_189 dL_law_190 (by decide +kernel) ?_
  refine LW.cV h7 hC hK dL_law_191 k_L_17 h45 rfl rfl (Nat.le_of_ble_eq_true rfl) (Nat.le_of_ble_eq_true rfl) ?_
  rintro _ h2 ⟨rfl, hg⟩
  refine LW.eqs (st' := [.int v, .int v]) rfl ?_
  refine LW.icmp_eq 802 hC dL_law_194 (by decide) rfl ?_
  exact kk h2 hg
theorem L_player {j : Nat} (hC : lw_At p s m meth c b L xs) (hK : Kn G s) (hL : L ≤ 3072) (hj : j + 6 ≤ L) (hG : GH h) (kk : ∀ h', GH h' → LW p l e s m below meth c b G 69 763 802 (lv4 s b (nI j)) [] h') : LW p l e s m below meth c b G 69 763 199 (lv4 s b (nI j)) [] h := by
  obtain ⟨F, n, nd, R, D, f, ro, rs, rw, rb, mm, rfl, hJ, hP, hM⟩ := hG
  refine LW.ald 0 hC dL_law_199 m4_1 ?_
  refine LW.arg 1 hC m4_0 m4_3 (arg_in hL hj (by decide)) dL_law_200 dL_law_201 dL_law_202 dL_law_203 dL_law_204 (by decide +kernel) ?_
  refine LW.arg 2 hC m4_0 m4_3 (arg_in hL hj (by decide)) dL_law_205 dL_law_206 dL_law_207 dL_law_208 dL_law_209 (by decide +kernel) ?_
  refine LW.arg 3 hC m4_0 m4_3 (arg_in hL hj (by decide)) dL_law_210 dL_law_211 dL_law_212 dL_law_213 dL_law_214 (by decide +kernel) ?_
  refine LW.cV (p_player hJ hP hM (xs (nI j + nI 1).toNatClampNeg) (xs (nI j + nI 2).toNatClampNeg) (xs (nI j + nI 3).toNatClampNeg)) hC hK dL_law_215 k_L_18 rfl rfl rfl (Nat.le_of_ble_eq_true rfl) (Nat.le_of_ble_eq_true rfl) ?_
  rintro _ h1 ⟨v, rfl, ⟨fs, h45⟩, h7⟩
  refine LW.eqs (st' := [.int v]) rfl ?_
  refine LW.ald 45 hC dL_law_218 m4_2 ?_
  refine LW.arg 1 hC m4_0 m4_3 (arg_in hL hj (by decide)) dL_law_219 dL_law_220 dL_law_221 dL_law_222 dL_law_223 (by decide +kernel) ?_
  refine LW.arg 2 hC m4_0 m4_3 (arg_in hL hj (by decide)) dL_law_224 dL_law_225 dL_law_226 dL_law_227 dL_law_228 (by decide +kernel) ?_
  refine LW.arg 3 hC m4_0 m4_3 (arg_in hL hj (by decide)) dL_law_229 dL_law_230 dL_law_231 dL_law_232 dL_law_233 (by decide +kernel) ?_
  refine LW.cV h7 hC hK dL_law_234 k_L_22 h45 rfl rfl (Nat.le_of_ble_eq_true rfl) (Nat.le_of_ble_eq_true rfl) ?_
  rintro _ h2 ⟨rfl, hg⟩
  refine LW.eqs (st' := [.int v, .int v]) rfl ?_
  refine LW.icmp_eq 802 hC dL_law_237 (by decide) rfl ?_
  exact kk h2 hg
theorem L_rent {j : Nat} (hC : lw_At p s m meth c b L xs) (hK : Kn G s) (hL : L ≤ 3072) (hj : j + 6 ≤ L) (hG : GH h) (kk : ∀ h', GH h' → LW p l e s m below meth c b G 69 763 802 (lv4 s b (nI j)) [] h') : LW p l e s m below meth c b G 69 763 242 (lv4 s b (nI j)) [] h := by
  obtain ⟨F, n, nd, R, D, f, ro, rs, rw, rb, mm, rfl, hJ, hP, hM⟩ := hG
  refine LW.ald 0 hC dL_law_242 m4_1 ?_
  refine LW.arg 1 hC m4_0 m4_3 (arg_in hL hj (by decide)) dL_law_243 dL_law_244 dL_law_245 dL_law_246 dL_law_247 (by decide +kernel) ?_
  refine LW.arg 2 hC m4_0 m4_3 (arg_in hL hj (by decide)) dL_law_248 dL_law_249 dL_law_250 dL_law_251 dL_law_252 (by decide +kernel) ?_
  refine LW.cV (p_rent hJ hP hM (xs (nI j + nI 1).toNatClampNeg) (xs (nI j + nI 2).toNatClampNeg)) hC hK dL_law_253 k_L_23 rfl rfl rfl (Nat.le_of_ble_eq_true rfl) (Nat.le_of_ble_eq_true rfl) ?_
  rintro _ h1 ⟨v, rfl, ⟨fs, h45⟩, h7⟩
  refine LW.eqs (st' := [.int v]) rfl ?_
  refine LW.ald 45 hC dL_law_256 m4_2 ?_
  refine LW.arg 1 hC m4_0 m4_3 (arg_in hL hj (by decide)) dL_law_257 dL_law_258 dL_law_259 dL_law_260 dL_law_261 (by decide +kernel) ?_
  refine LW.arg 2 hC m4_0 m4_3 (arg_in hL hj (by decide)) dL_law_262 dL_law_263 dL_law_264 dL_law_265 dL_law_266 (by decide +kernel) ?_
  refine LW.cV h7 hC hK dL_law_267 k_L_27 h45 rfl rfl (Nat.le_of_ble_eq_true rfl) (Nat.le_of_ble_eq_true rfl) ?_
  rintro _ h2 ⟨rfl, hg⟩
  refine LW.eqs (st' := [.int v, .int v]) rfl ?_
  refine LW.icmp_eq 802 hC dL_law_270 (by decide) rfl ?_
  exact kk h2 hg
theorem L_spot {j : Nat} (hC : lw_At p s m meth c b L xs) (hK : Kn G s) (hL : L ≤ 3072) (hj : j + 6 ≤ L) (hG : GH h) (kk : ∀ h', GH h' → LW p l e s m below meth c b G 69 763 802 (lv4 s b (nI j)) [] h') : LW p l e s m below meth c b G 69 763 275 (lv4 s b (nI j)) [] h := by
  obtain ⟨F, n, nd, R, D, f, ro, rs, rw, rb, mm, rfl, hJ, hP, hM⟩ := hG
  refine LW.ald 0 hC dL_law_275 m4_1 ?_
  refine LW.arg 1 hC m4_0 m4_3 (arg_in hL hj (by decide)) dL_law_276 dL_law_277 dL_law_278 dL_law_279 dL_law_280 (by decide +kernel) ?_
  refine LW.arg 2 hC m4_0 m4_3 (arg_in hL hj (by decide)) dL_law_281 dL_law_282 dL_law_283 dL_law_284 dL_law_285 (by decide +kernel) ?_
  refine LW.cV (p_spot hJ hP hM (xs (nI j + nI 1).toNatClampNeg) (xs (nI j + nI 2).toNatClampNeg)) hC hK dL_law_286 k_L_28 rfl rfl rfl (Nat.le_of_ble_eq_true rfl) (Nat.le_of_ble_eq_true rfl) ?_
  rintro _ h1 ⟨v, rfl, ⟨fs, h45⟩, h7⟩
  refine LW.eqs (st' := [.int v]) rfl ?_
  refine LW.ald 45 hC dL_law_289 m4_2 ?_
  refine LW.arg 1 hC m4_0 m4_3 (arg_in hL hj (by decide)) dL_law_290 dL_law_291 dL_law_292 dL_law_293 dL_law_294 (by decide +kernel) ?_
  refine LW.arg 2 hC m4_0 m4_3 (arg_in hL hj (by decide)) dL_law_295 dL_law_296 dL_law_297 dL_law_298 dL_law_299 (by decide +kernel) ?_
  refine LW.cV h7 hC hK dL_law_300 k_L_31 h45 rfl rfl (Nat.le_of_ble_eq_true rfl) (Nat.le_of_ble_eq_true rfl) ?_
  rintro _ h2 ⟨rfl, hg⟩
  refine LW.eqs (st' := [.int v, .int v]) rfl ?_
  refine LW.icmp_eq 802 hC dL_law_303 (by decide) rfl ?_
  exact kk h2 hg
theorem L_ahead {j : Nat} (hC : lw_At p s m meth c b L xs) (hK : Kn G s) (hL : L ≤ 3072) (hj : j + 6 ≤ L) (hG : GH h) (kk : ∀ h', GH h' → LW p l e s m below meth c b G 69 763 802 (lv4 s b (nI j)) [] h') : LW p l e s m below meth c b G 69 763 308 (lv4 s b (nI j)) [] h := by
  obtain ⟨F, n, nd, R, D, f, ro, rs, rw, rb, mm, rfl, hJ, hP, hM⟩ := hG
  refine LW.ald 0 hC dL_law_308 m4_1 ?_
  refine LW.arg 1 hC m4_0 m4_3 (arg_in hL hj (by decide)) dL_law_309 dL_law_310 dL_law_311 dL_law_312 dL_law_313 (by decide +kernel) ?_
  refine LW.arg 2 hC m4_0 m4_3 (arg_in hL hj (by decide)) dL_law_314 dL_law_315 dL_law_316 dL_law_317 dL_law_318 (by decide +kernel) ?_
  refine LW.cV (p_ahead hJ hP hM (xs (nI j + nI 1).toNatClampNeg) (xs (nI j + nI 2).toNatClampNeg)) hC hK dL_law_319 k_L_32 rfl rfl rfl (Nat.le_of_ble_eq_true rfl) (Nat.le_of_ble_eq_true rfl) ?_
  rintro _ h1 ⟨v, rfl, ⟨fs, h45⟩, h7⟩
  refine LW.eqs (st' := [.int v]) rfl ?_
  refine LW.ald 45 hC dL_law_322 m4_2 ?_
  refine LW.arg 1 hC m4_0 m4_3 (arg_in hL hj (by decide)) dL_law_323 dL_law_324 dL_law_325 dL_law_326 dL_law_327 (by decide +kernel) ?_
  refine LW.arg 2 hC m4_0 m4_3 (arg_in hL hj (by decide)) dL_law_328 dL_law_329 dL_law_330 dL_law_331 dL_law_332 (by decide +kernel) ?_
  refine LW.cV h7 hC hK dL_law_333 k_L_35 h45 rfl rfl (Nat.le_of_ble_eq_true rfl) (Nat.le_of_ble_eq_true rfl) ?_
  rintro _ h2 ⟨rfl, hg⟩
  refine LW.eqs (st' := [.int v, .int v]) rfl ?_
  refine LW.icmp_eq 802 hC dL_law_336 (by decide) rfl ?_
  exact kk h2 hg
theorem L_day {j : Nat} (hC : lw_At p s m meth c b L xs) (hK : Kn G s) (hL : L ≤ 3072) (hj : j + 6 ≤ L) (hG : GH h) (kk : ∀ h', GH h' → LW p l e s m below meth c b G 69 763 802 (lv4 s b (nI j)) [] h') : LW p l e s m below meth c b G 69 763 341 (lv4 s b (nI j)) [] h := by
  obtain ⟨F, n, nd, R, D, f, ro, rs, rw, rb, mm, rfl, hJ, hP, hM⟩ := hG
  refine LW.ald 0 hC dL_law_341 m4_1 ?_
  refine LW.arg 1 hC m4_0 m4_3 (arg_in hL hj (by decide)) dL_law_342 dL_law_343 dL_law_344 dL_law_345 dL_law_346 (by decide +kernel) ?_
  refine LW.arg 2 hC m4_0 m4_3 (arg_in hL hj (by decide)) dL_law_347 dL_law_348 dL_law_349 dL_law_350 dL_law_351 (by decide +kernel) ?_
  refine LW.cV (p_day hJ hP hM (xs (nI j + nI 1).toNatClampNeg) (xs (nI j + nI 2).toNatClampNeg)) hC hK dL_law_352 k_L_36 rfl rfl rfl (Nat.le_of_ble_eq_true rfl) (Nat.le_of_ble_eq_true rfl) ?_
  rintro _ h1 ⟨v, rfl, ⟨fs, h45⟩, h7⟩
  refine LW.eqs (st' := [.int v]) rfl ?_
  refine LW.ald 45 hC dL_law_355 m4_2 ?_
  refine LW.arg 1 hC m4_0 m4_3 (arg_in hL hj (by decide)) dL_law_356 dL_law_357 dL_law_358 dL_law_359 dL_law_360 (by decide +kernel) ?_
  refine LW.arg 2 hC m4_0 m4_3 (arg_in hL hj (by decide)) dL_law_361 dL_law_362 dL_law_363 dL_law_364 dL_law_365 (by decide +kernel) ?_
  refine LW.cV h7 hC hK dL_law_366 k_L_39 h45 rfl rfl (Nat.le_of_ble_eq_true rfl) (Nat.le_of_ble_eq_true rfl) ?_
  rintro _ h2 ⟨rfl, hg⟩
  refine LW.eqs (st' := [.int v, .int v]) rfl ?_
  refine LW.icmp_eq 802 hC dL_law_369 (by decide) rfl ?_
  exact kk h2 hg
theorem L_about {j : Nat} (hC : lw_At p s m meth c b L xs) (hK : Kn G s) (hL : L ≤ 3072) (hj : j + 6 ≤ L) (hG : GH h) (kk : ∀ h', GH h' → LW p l e s m below meth c b G 69 763 802 (lv4 s b (nI j)) [] h') : LW p l e s m below meth c b G 69 763 374 (lv4 s b (nI j)) [] h := by
  obtain ⟨F, n, nd, R, D, f, ro, rs, rw, rb, mm, rfl, hJ, hP, hM⟩ := hG
  refine LW.ald 0 hC dL_law_374 m4_1 ?_
  refine LW.arg 1 hC m4_0 m4_3 (arg_in hL hj (by decide)) dL_law_375 dL_law_376 dL_law_377 dL_law_378 dL_law_379 (by decide +kernel) ?_
  refine LW.arg 2 hC m4_0 m4_3 (arg_in hL hj (by decide)) dL_law_380 dL_law_381 dL_law_382 dL_law_383 dL_law_384 (by decide +kernel) ?_
  refine LW.cV (p_about hJ hP hM (xs (nI j + nI 1).toNatClampNeg) (xs (nI j + nI 2).toNatClampNeg)) hC hK dL_law_385 k_L_40 rfl rfl rfl (Nat.le_of_ble_eq_true rfl) (Nat.le_of_ble_eq_true rfl) ?_
  rintro _ h1 ⟨v, rfl, ⟨fs, h45⟩, h7⟩
  refine LW.eqs (st' := [.int v]) rfl ?_
  refine LW.ald 45 hC dL_law_388 m4_2 ?_
  refine LW.arg 1 hC m4_0 m4_3 (arg_in hL hj (by decide)) dL_law_389 dL_law_390 dL_law_391 dL_law_392 dL_law_393 (by decide +kernel) ?_
  refine LW.arg 2 hC m4_0 m4_3 (arg_in hL hj (by decide)) dL_law_394 dL_law_395 dL_law_396 dL_law_397 dL_law_398 (by decide +kernel) ?_
  refine LW.cV h7 hC hK dL_law_399 k_L_43 h45 rfl rfl (Nat.le_of_ble_eq_true rfl) (Nat.le_of_ble_eq_true rfl) ?_
  rintro _ h2 ⟨rfl, hg⟩
  refine LW.eqs (st' := [.int v, .int v]) rfl ?_
  refine LW.icmp_eq 802 hC dL_law_402 (by decide) rfl ?_
  exact kk h2 hg
theorem L_row {j : Nat} (hC : lw_At p s m meth c b L xs) (hK : Kn G s) (hL : L ≤ 3072) (hj : j + 6 ≤ L) (hG : GH h) (kk : ∀ h', GH h' → LW p l e s m below meth c b G 69 763 802 (lv4 s b (nI j)) [] h') : LW p l e s m below meth c b G 69 763 407 (lv4 s b (nI j)) [] h := by
  obtain ⟨F, n, nd, R, D, f, ro, rs, rw, rb, mm, rfl, hJ, hP, hM⟩ := hG
  refine LW.ald 0 hC dL_law_407 m4_1 ?_
  refine LW.arg 1 hC m4_0 m4_3 (arg_in hL hj (by decide)) dL_law_408 dL_law_409 dL_law_410 dL_law_411 dL_law_412 (by decide +kernel) ?_
  refine LW.arg 2 hC m4_0 m4_3 (arg_in hL hj (by decide)) dL_law_413 dL_law_414 dL_law_415 dL_law_416 dL_law_417 (by decide +kernel) ?_
  refine LW.cV (p_row hJ hP hM (xs (nI j + nI 1).toNatClampNeg) (xs (nI j + nI 2).toNatClampNeg)) hC hK dL_law_418 k_L_44 rfl rfl rfl (Nat.le_of_ble_eq_true rfl) (Nat.le_of_ble_eq_true rfl) ?_
  rintro _ h1 ⟨v, rfl, ⟨fs, h45⟩, h7⟩
  refine LW.eqs (st' := [.int v]) rfl ?_
  refine LW.ald 45 hC dL_law_421 m4_2 ?_
  refine LW.arg 1 hC m4_0 m4_3 (arg_in hL hj (by decide)) dL_law_422 dL_law_423 dL_law_424 dL_law_425 dL_law_426 (by decide +kernel) ?_
  refine LW.arg 2 hC m4_0 m4_3 (arg_in hL hj (by decide)) dL_law_427 dL_law_428 dL_law_429 dL_law_430 dL_law_431 (by decide +kernel) ?_
  refine LW.cV h7 hC hK dL_law_432 k_L_47 h45 rfl rfl (Nat.le_of_ble_eq_true rfl) (Nat.le_of_ble_eq_true rfl) ?_
  rintro _ h2 ⟨rfl, hg⟩
  refine LW.eqs (st' := [.int v, .int v]) rfl ?_
  refine LW.icmp_eq 802 hC dL_law_435 (by decide) rfl ?_
  exact kk h2 hg
theorem L_of {j : Nat} (hC : lw_At p s m meth c b L xs) (hK : Kn G s) (hL : L ≤ 3072) (hj : j + 6 ≤ L) (hG : GH h) (kk : ∀ h', GH h' → LW p l e s m below meth c b G 69 763 802 (lv4 s b (nI j)) [] h') : LW p l e s m below meth c b G 69 763 440 (lv4 s b (nI j)) [] h := by
  obtain ⟨F, n, nd, R, D, f, ro, rs, rw, rb, mm, rfl, hJ, hP, hM⟩ := hG
  refine LW.ald 0 hC dL_law_440 m4_1 ?_
  refine LW.arg 1 hC m4_0 m4_3 (arg_in hL hj (by decide)) dL_law_441 dL_law_442 dL_law_443 dL_law_444 dL_law_445 (by decide +kernel) ?_
  refine LW.arg 2 hC m4_0 m4_3 (arg_in hL hj (by decide)) dL_law_446 dL_law_447 dL_law_448 dL_law_449 dL_law_450 (by decide +kernel) ?_
  refine LW.cV (p_of hJ hP hM (xs (nI j + nI 1).toNatClampNeg) (xs (nI j + nI 2).toNatClampNeg)) hC hK dL_law_451 k_L_48 rfl rfl rfl (Nat.le_of_ble_eq_true rfl) (Nat.le_of_ble_eq_true rfl) ?_
  rintro _ h1 ⟨v, rfl, ⟨fs, h45⟩, h7⟩
  refine LW.eqs (st' := [.int v]) rfl ?_
  refine LW.ald 45 hC dL_law_454 m4_2 ?_
  refine LW.arg 1 hC m4_0 m4_3 (arg_in hL hj (by decide)) dL_law_455 dL_law_456 dL_law_457 dL_law_458 dL_law_459 (by decide +kernel) ?_
  refine LW.arg 2 hC m4_0 m4_3 (arg_in hL hj (by decide)) dL_law_460 dL_law_461 dL_law_462 dL_law_463 dL_law_464 (by decide +kernel) ?_
  refine LW.cV h7 hC hK dL_law_465 k_L_51 h45 rfl rfl (Nat.le_of_ble_eq_true rfl) (Nat.le_of_ble_eq_true rfl) ?_
  rintro _ h2 ⟨rfl, hg⟩
  refine LW.eqs (st' := [.int v, .int v]) rfl ?_
  refine LW.icmp_eq 802 hC dL_law_468 (by decide) rfl ?_
  exact kk h2 hg
theorem L_held {j : Nat} (hC : lw_At p s m meth c b L xs) (hK : Kn G s) (hL : L ≤ 3072) (hj : j + 6 ≤ L) (hG : GH h) (kk : ∀ h', GH h' → LW p l e s m below meth c b G 69 763 802 (lv4 s b (nI j)) [] h') : LW p l e s m below meth c b G 69 763 473 (lv4 s b (nI j)) [] h := by
  obtain ⟨F, n, nd, R, D, f, ro, rs, rw, rb, mm, rfl, hJ, hP, hM⟩ := hG
  refine LW.ald 0 hC dL_law_473 m4_1 ?_
  refine LW.arg 1 hC m4_0 m4_3 (arg_in hL hj (by decide)) dL_law_474 dL_law_475 dL_law_476 dL_law_477 dL_law_478 (by decide +kernel) ?_
  refine LW.arg 2 hC m4_0 m4_3 (arg_in hL hj (by decide)) dL_law_479 dL_law_480 dL_law_481 dL_law_482 dL_law_483 (by decide +kernel) ?_
  refine LW.cV (p_held hJ hP hM (xs (nI j + nI 1).toNatClampNeg) (xs (nI j + nI 2).toNatClampNeg)) hC hK dL_law_484 k_L_52 rfl rfl rfl (Nat.le_of_ble_eq_true rfl) (Nat.le_of_ble_eq_true rfl) ?_
  rintro _ h1 ⟨v, rfl, ⟨fs, h45⟩, h7⟩
  refine LW.eqs (st' := [.int v]) rfl ?_
  refine LW.ald 45 hC dL_law_487 m4_2 ?_
  refine LW.arg 1 hC m4_0 m4_3 (arg_in hL hj (by decide)) dL_law_488 dL_law_489 dL_law_490 dL_law_491 dL_law_492 (by decide +kernel) ?_
  refine LW.arg 2 hC m4_0 m4_3 (arg_in hL hj (by decide)) dL_law_493 dL_law_494 dL_law_495 dL_law_496 dL_law_497 (by decide +kernel) ?_
  refine LW.cV h7 hC hK dL_law_498 k_L_55 h45 rfl rfl (Nat.le_of_ble_eq_true rfl) (Nat.le_of_ble_eq_true rfl) ?_
  rintro _ h2 ⟨rfl, hg⟩
  refine LW.eqs (st' := [.int v, .int v]) rfl ?_
  refine LW.icmp_eq 802 hC dL_law_501 (by decide) rfl ?_
  exact kk h2 hg
theorem L_cost {j : Nat} (hC : lw_At p s m meth c b L xs) (hK : Kn G s) (hL : L ≤ 3072) (hj : j + 6 ≤ L) (hG : GH h) (kk : ∀ h', GH h' → LW p l e s m below meth c b G 69 763 802 (lv4 s b (nI j)) [] h') : LW p l e s m below meth c b G 69 763 506 (lv4 s b (nI j)) [] h := by
  obtain ⟨F, n, nd, R, D, f, ro, rs, rw, rb, mm, rfl, hJ, hP, hM⟩ := hG
  refine LW.ald 0 hC dL_law_506 m4_1 ?_
  refine LW.arg 1 hC m4_0 m4_3 (arg_in hL hj (by decide)) dL_law_507 dL_law_508 dL_law_509 dL_law_510 dL_law_511 (by decide +kernel) ?_
  refine LW.cV (p_cost hJ hP hM (xs (nI j + nI 1).toNatClampNeg)) hC hK dL_law_512 k_L_56 rfl rfl rfl (Nat.le_of_ble_eq_true rfl) (Nat.le_of_ble_eq_true rfl) ?_
  rintro _ h1 ⟨v, rfl, ⟨fs, h45⟩, h7⟩
  refine LW.eqs (st' := [.int v]) rfl ?_
  refine LW.ald 45 hC dL_law_515 m4_2 ?_
  refine LW.arg 1 hC m4_0 m4_3 (arg_in hL hj (by decide)) dL_law_516 dL_law_517 dL_law_518 dL_law_519 dL_law_520 (by decide +kernel) ?_
  refine LW.cV h7 hC hK dL_law_521 k_L_60 h45 rfl rfl (Nat.le_of_ble_eq_true rfl) (Nat.le_of_ble_eq_true rfl) ?_
  rintro _ h2 ⟨rfl, hg⟩
  refine LW.eqs (st' := [.int v, .int v]) rfl ?_
  refine LW.icmp_eq 802 hC dL_law_524 (by decide) rfl ?_
  exact kk h2 hg
theorem L_below {j : Nat} (hC : lw_At p s m meth c b L xs) (hK : Kn G s) (hL : L ≤ 3072) (hj : j + 6 ≤ L) (hG : GH h) (kk : ∀ h', GH h' → LW p l e s m below meth c b G 69 763 802 (lv4 s b (nI j)) [] h') : LW p l e s m below meth c b G 69 763 529 (lv4 s b (nI j)) [] h := by
  obtain ⟨F, n, nd, R, D, f, ro, rs, rw, rb, mm, rfl, hJ, hP, hM⟩ := hG
  refine LW.ald 0 hC dL_law_529 m4_1 ?_
  refine LW.cV (p_below hJ hP hM) hC hK dL_law_530 k_L_61 rfl rfl rfl (Nat.le_of_ble_eq_true rfl) (Nat.le_of_ble_eq_true rfl) ?_
  rintro _ h1 ⟨v, rfl, ⟨fs, h45⟩, h7⟩
  refine LW.eqs (st' := [.int v]) rfl ?_
  refine LW.ald 45 hC dL_law_533 m4_2 ?_
  refine LW.cV h7 hC hK dL_law_534 k_L_65 h45 rfl rfl (Nat.le_of_ble_eq_true rfl) (Nat.le_of_ble_eq_true rfl) ?_
  rintro _ h2 ⟨rfl, hg⟩
  refine LW.eqs (st' := [.int v, .int v]) rfl ?_
  refine LW.icmp_eq 802 hC dL_law_537 (by decide) rfl ?_
  exact kk h2 hg
theorem L_may {j : Nat} (hC : lw_At p s m meth c b L xs) (hK : Kn G s) (hL : L ≤ 3072) (hj : j + 6 ≤ L) (hG : GH h) (kk : ∀ h', GH h' → LW p l e s m below meth c b G 69 763 802 (lv4 s b (nI j)) [] h') : LW p l e s m below meth c b G 69 763 542 (lv4 s b (nI j)) [] h := by
  obtain ⟨F, n, nd, R, D, f, ro, rs, rw, rb, mm, rfl, hJ, hP, hM⟩ := hG
  refine LW.ald 0 hC dL_law_542 m4_1 ?_
  refine LW.arg 1 hC m4_0 m4_3 (arg_in hL hj (by decide)) dL_law_543 dL_law_544 dL_law_545 dL_law_546 dL_law_547 (by decide +kernel) ?_
  refine LW.arg 2 hC m4_0 m4_3 (arg_in hL hj (by decide)) dL_law_548 dL_law_549 dL_law_550 dL_law_551 dL_law_552 (by decide +kernel) ?_
  refine LW.cV (p_may hJ hP hM (xs (nI j + nI 1).toNatClampNeg) (xs (nI j + nI 2).toNatClampNeg)) hC hK dL_law_553 k_L_66 rfl rfl rfl (Nat.le_of_ble_eq_true rfl) (Nat.le_of_ble_eq_true rfl) ?_
  rintro _ h1 ⟨v, rfl, ⟨fs, h45⟩, h7⟩
  refine LW.eqs (st' := [.int v]) rfl ?_
  refine LW.ald 45 hC dL_law_556 m4_2 ?_
  refine LW.arg 1 hC m4_0 m4_3 (arg_in hL hj (by decide)) dL_law_557 dL_law_558 dL_law_559 dL_law_560 dL_law_561 (by decide +kernel) ?_
  refine LW.arg 2 hC m4_0 m4_3 (arg_in hL hj (by decide)) dL_law_562 dL_law_563 dL_law_564 dL_law_565 dL_law_566 (by decide +kernel) ?_
  refine LW.cV h7 hC hK dL_law_567 k_L_69 h45 rfl rfl (Nat.le_of_ble_eq_true rfl) (Nat.le_of_ble_eq_true rfl) ?_
  rintro _ h2 ⟨rfl, hg⟩
  refine LW.eqs (st' := [.int v, .int v]) rfl ?_
  refine LW.icmp_eq 802 hC dL_law_570 (by decide) rfl ?_
  exact kk h2 hg
theorem L_put {j : Nat} (hC : lw_At p s m meth c b L xs) (hK : Kn G s) (hL : L ≤ 3072) (hj : j + 6 ≤ L) (hG : GH h) (kk : ∀ h', GH h' → LW p l e s m below meth c b G 69 763 802 (lv4 s b (nI j)) [] h') : LW p l e s m below meth c b G 69 763 575 (lv4 s b (nI j)) [] h := by
  obtain ⟨F, n, nd, R, D, f, ro, rs, rw, rb, mm, rfl, hJ, hP, hM⟩ := hG
  refine LW.ald 0 hC dL_law_575 m4_1 ?_
  refine LW.arg 1 hC m4_0 m4_3 (arg_in hL hj (by decide)) dL_law_576 dL_law_577 dL_law_578 dL_law_579 dL_law_580 (by decide +kernel) ?_
  refine LW.arg 2 hC m4_0 m4_3 (arg_in hL hj (by decide)) dL_law_581 dL_law_582 dL_law_583 dL_law_584 dL_law_585 (by decide +kernel) ?_
  refine LW.cV (p_put hJ hP hM (xs (nI j + nI 1).toNatClampNeg) (xs (nI j + nI 2).toNatClampNeg)) hC hK dL_law_586 k_L_70 rfl rfl rfl (Nat.le_of_ble_eq_true rfl) (Nat.le_of_ble_eq_true rfl) ?_
  rintro _ h1 ⟨v, rfl, ⟨fs, h45⟩, h7⟩
  refine LW.eqs (st' := [.int v]) rfl ?_
  refine LW.ald 45 hC dL_law_589 m4_2 ?_
  refine LW.arg 1 hC m4_0 m4_3 (arg_in hL hj (by decide)) dL_law_590 dL_law_591 dL_law_592 dL_law_593 dL_law_594 (by decide +kernel) ?_
  refine LW.arg 2 hC m4_0 m4_3 (arg_in hL hj (by decide)) dL_law_595 dL_law_596 dL_law_597 dL_law_598 dL_law_599 (by decide +kernel) ?_
  refine LW.cV h7 hC hK dL_law_600 k_L_73 h45 rfl rfl (Nat.le_of_ble_eq_true rfl) (Nat.le_of_ble_eq_true rfl) ?_
  rintro _ h2 ⟨rfl, hg⟩
  refine LW.eqs (st' := [.int v, .int v]) rfl ?_
  refine LW.icmp_eq 802 hC dL_law_603 (by decide) rfl ?_
  exact kk h2 hg
theorem L_take {j : Nat} (hC : lw_At p s m meth c b L xs) (hK : Kn G s) (hL : L ≤ 3072) (hj : j + 6 ≤ L) (hG : GH h) (kk : ∀ h', GH h' → LW p l e s m below meth c b G 69 763 802 (lv4 s b (nI j)) [] h') : LW p l e s m below meth c b G 69 763 608 (lv4 s b (nI j)) [] h := by
  obtain ⟨F, n, nd, R, D, f, ro, rs, rw, rb, mm, rfl, hJ, hP, hM⟩ := hG
  refine LW.ald 0 hC dL_law_608 m4_1 ?_
  refine LW.arg 1 hC m4_0 m4_3 (arg_in hL hj (by decide)) dL_law_609 dL_law_610 dL_law_611 dL_law_612 dL_law_613 (by decide +kernel) ?_
  refine LW.cV (p_take hJ hP hM (xs (nI j + nI 1).toNatClampNeg)) hC hK dL_law_614 k_L_74 rfl rfl rfl (Nat.le_of_ble_eq_true rfl) (Nat.le_of_ble_eq_true rfl) ?_
  rintro _ h1 ⟨v, rfl, ⟨fs, h45⟩, h7⟩
  refine LW.eqs (st' := [.int v]) rfl ?_
  refine LW.ald 45 hC dL_law_617 m4_2 ?_
  refine LW.arg 1 hC m4_0 m4_3 (arg_in hL hj (by decide)) dL_law_618 dL_law_619 dL_law_620 dL_law_621 dL_law_622 (by decide +kernel) ?_
  refine LW.cV h7 hC hK dL_law_623 k_L_77 h45 rfl rfl (Nat.le_of_ble_eq_true rfl) (Nat.le_of_ble_eq_true rfl) ?_
  rintro _ h2 ⟨rfl, hg⟩
  refine LW.eqs (st' := [.int v, .int v]) rfl ?_
  refine LW.icmp_eq 802 hC dL_law_626 (by decide) rfl ?_
  exact kk h2 hg
theorem L_tidy {j : Nat} (hC : lw_At p s m meth c b L xs) (hK : Kn G s) (hL : L ≤ 3072) (hj : j + 6 ≤ L) (hG : GH h) (kk : ∀ h', GH h' → LW p l e s m below meth c b G 69 763 802 (lv4 s b (nI j)) [] h') : LW p l e s m below meth c b G 69 763 631 (lv4 s b (nI j)) [] h := by
  obtain ⟨F, n, nd, R, D, f, ro, rs, rw, rb, mm, rfl, hJ, hP, hM⟩ := hG
  refine LW.ald 0 hC dL_law_631 m4_1 ?_
  refine LW.arg 1 hC m4_0 m4_3 (arg_in hL hj (by decide)) dL_law_632 dL_law_633 dL_law_634 dL_law_635 dL_law_636 (by decide +kernel) ?_
  refine LW.cV (p_tidy hJ hP hM (xs (nI j + nI 1).toNatClampNeg)) hC hK dL_law_637 k_L_78 rfl rfl rfl (Nat.le_of_ble_eq_true rfl) (Nat.le_of_ble_eq_true rfl) ?_
  rintro _ h1 ⟨v, rfl, ⟨fs, h45⟩, h7⟩
  refine LW.eqs (st' := [.int v]) rfl ?_
  refine LW.ald 45 hC dL_law_640 m4_2 ?_
  refine LW.arg 1 hC m4_0 m4_3 (arg_in hL hj (by decide)) dL_law_641 dL_law_642 dL_law_643 dL_law_644 dL_law_645 (by decide +kernel) ?_
  refine LW.cV h7 hC hK dL_law_646 k_L_81 h45 rfl rfl (Nat.le_of_ble_eq_true rfl) (Nat.le_of_ble_eq_true rfl) ?_
  rintro _ h2 ⟨rfl, hg⟩
  refine LW.eqs (st' := [.int v, .int v]) rfl ?_
  refine LW.icmp_eq 802 hC dL_law_649 (by decide) rfl ?_
  exact kk h2 hg
theorem L_trade {j : Nat} (hC : lw_At p s m meth c b L xs) (hK : Kn G s) (hL : L ≤ 3072) (hj : j + 6 ≤ L) (hG : GH h) (kk : ∀ h', GH h' → LW p l e s m below meth c b G 69 763 802 (lv4 s b (nI j)) [] h') : LW p l e s m below meth c b G 69 763 654 (lv4 s b (nI j)) [] h := by
  obtain ⟨F, n, nd, R, D, f, ro, rs, rw, rb, mm, rfl, hJ, hP, hM⟩ := hG
  refine LW.ald 0 hC dL_law_654 m4_1 ?_
  refine LW.arg 1 hC m4_0 m4_3 (arg_in hL hj (by decide)) dL_law_655 dL_law_656 dL_law_657 dL_law_658 dL_law_659 (by decide +kernel) ?_
  refine LW.arg 2 hC m4_0 m4_3 (arg_in hL hj (by decide)) dL_law_660 dL_law_661 dL_law_662 dL_law_663 dL_law_664 (by decide +kernel) ?_
  refine LW.cV (p_trade hJ hP hM (xs (nI j + nI 1).toNatClampNeg) (xs (nI j + nI 2).toNatClampNeg)) hC hK dL_law_665 k_L_82 rfl rfl rfl (Nat.le_of_ble_eq_true rfl) (Nat.le_of_ble_eq_true rfl) ?_
  rintro _ h1 ⟨v, rfl, ⟨fs, h45⟩, h7⟩
  refine LW.eqs (st' := [.int v]) rfl ?_
  refine LW.ald 45 hC dL_law_668 m4_2 ?_
  refine LW.arg 1 hC m4_0 m4_3 (arg_in hL hj (by decide)) dL_law_669 dL_law_670 dL_law_671 dL_law_672 dL_law_673 (by decide +kernel) ?_
  refine LW.arg 2 hC m4_0 m4_3 (arg_in hL hj (by decide)) dL_law_674 dL_law_675 dL_law_676 dL_law_677 dL_law_678 (by decide +kernel) ?_
  refine LW.cV h7 hC hK dL_law_679 k_L_85 h45 rfl rfl (Nat.le_of_ble_eq_true rfl) (Nat.le_of_ble_eq_true rfl) ?_
  rintro _ h2 ⟨rfl, hg⟩
  refine LW.eqs (st' := [.int v, .int v]) rfl ?_
  refine LW.icmp_eq 802 hC dL_law_682 (by decide) rfl ?_
  exact kk h2 hg
theorem L_better {j : Nat} (hC : lw_At p s m meth c b L xs) (hK : Kn G s) (hL : L ≤ 3072) (hj : j + 6 ≤ L) (hG : GH h) (kk : ∀ h', GH h' → LW p l e s m below meth c b G 69 763 802 (lv4 s b (nI j)) [] h') : LW p l e s m below meth c b G 69 763 687 (lv4 s b (nI j)) [] h := by
  obtain ⟨F, n, nd, R, D, f, ro, rs, rw, rb, mm, rfl, hJ, hP, hM⟩ := hG
  refine LW.ald 0 hC dL_law_687 m4_1 ?_
  refine LW.cV (p_better hJ hP hM) hC hK dL_law_688 k_L_86 rfl rfl rfl (Nat.le_of_ble_eq_true rfl) (Nat.le_of_ble_eq_true rfl) ?_
  rintro _ h1 ⟨v, rfl, ⟨fs, h45⟩, h7⟩
  refine LW.eqs (st' := [.int v]) rfl ?_
  refine LW.ald 45 hC dL_law_691 m4_2 ?_
  refine LW.cV h7 hC hK dL_law_692 k_L_89 h45 rfl rfl (Nat.le_of_ble_eq_true rfl) (Nat.le_of_ble_eq_true rfl) ?_
  rintro _ h2 ⟨rfl, hg⟩
  refine LW.eqs (st' := [.int v, .int v]) rfl ?_
  refine LW.icmp_eq 802 hC dL_law_695 (by decide) rfl ?_
  exact kk h2 hg
theorem L_order {j : Nat} (hC : lw_At p s m meth c b L xs) (hK : Kn G s) (hL : L ≤ 3072) (hj : j + 6 ≤ L) (hG : GH h) (kk : ∀ h', GH h' → LW p l e s m below meth c b G 69 763 802 (lv4 s b (nI j)) [] h') : LW p l e s m below meth c b G 69 763 700 (lv4 s b (nI j)) [] h := by
  obtain ⟨F, n, nd, R, D, f, ro, rs, rw, rb, mm, rfl, hJ, hP, hM⟩ := hG
  refine LW.ald 0 hC dL_law_700 m4_1 ?_
  refine LW.cV (p_order hJ hP hM) hC hK dL_law_701 k_L_90 rfl rfl rfl (Nat.le_of_ble_eq_true rfl) (Nat.le_of_ble_eq_true rfl) ?_
  rintro _ h1 ⟨v, rfl, ⟨fs, h45⟩, h7⟩
  refine LW.eqs (st' := [.int v]) rfl ?_
  refine LW.ald 45 hC dL_law_704 m4_2 ?_
  refine LW.cV h7 hC hK dL_law_705 k_L_93 h45 rfl rfl (Nat.le_of_ble_eq_true rfl) (Nat.le_of_ble_eq_true rfl) ?_
  rintro _ h2 ⟨rfl, hg⟩
  refine LW.eqs (st' := [.int v, .int v]) rfl ?_
  refine LW.icmp_eq 802 hC dL_law_708 (by decide) rfl ?_
  exact kk h2 hg
theorem L_rain {j : Nat} (hC : lw_At p s m meth c b L xs) (hK : Kn G s) (hL : L ≤ 3072) (hj : j + 6 ≤ L) (hG : GH h) (kk : ∀ h', GH h' → LW p l e s m below meth c b G 69 763 802 (lv4 s b (nI j)) [] h') : LW p l e s m below meth c b G 69 763 713 (lv4 s b (nI j)) [] h := by
  obtain ⟨F, n, nd, R, D, f, ro, rs, rw, rb, mm, rfl, hJ, hP, hM⟩ := hG
  refine LW.ald 0 hC dL_law_713 m4_1 ?_
  refine LW.arg 1 hC m4_0 m4_3 (arg_in hL hj (by decide)) dL_law_714 dL_law_715 dL_law_716 dL_law_717 dL_law_718 (by decide +kernel) ?_
  refine LW.cV (p_rain hJ hP hM (xs (nI j + nI 1).toNatClampNeg)) hC hK dL_law_719 k_L_94 rfl rfl rfl (Nat.le_of_ble_eq_true rfl) (Nat.le_of_ble_eq_true rfl) ?_
  rintro _ h1 ⟨v, rfl, ⟨fs, h45⟩, h7⟩
  refine LW.eqs (st' := [.int v]) rfl ?_
  refine LW.ald 45 hC dL_law_722 m4_2 ?_
  refine LW.arg 1 hC m4_0 m4_3 (arg_in hL hj (by decide)) dL_law_723 dL_law_724 dL_law_725 dL_law_726 dL_law_727 (by decide +kernel) ?_
  refine LW.cV h7 hC hK dL_law_728 k_L_97 h45 rfl rfl (Nat.le_of_ble_eq_true rfl) (Nat.le_of_ble_eq_true rfl) ?_
  rintro _ h2 ⟨rfl, hg⟩
  refine LW.eqs (st' := [.int v, .int v]) rfl ?_
  refine LW.icmp_eq 802 hC dL_law_731 (by decide) rfl ?_
  exact kk h2 hg
theorem L_change {j : Nat} (hC : lw_At p s m meth c b L xs) (hK : Kn G s) (hL : L ≤ 3072) (hj : j + 6 ≤ L) (hG : GH h) (kk : ∀ h', GH h' → LW p l e s m below meth c b G 69 763 802 (lv4 s b (nI j)) [] h') : LW p l e s m below meth c b G 69 763 736 (lv4 s b (nI j)) [] h := by
  obtain ⟨F, n, nd, R, D, f, ro, rs, rw, rb, mm, rfl, hJ, hP, hM⟩ := hG
  refine LW.ald 0 hC dL_law_736 m4_1 ?_
  refine LW.arg 1 hC m4_0 m4_3 (arg_in hL hj (by decide)) dL_law_737 dL_law_738 dL_law_739 dL_law_740 dL_law_741 (by decide +kernel) ?_
  refine LW.arg 2 hC m4_0 m4_3 (arg_in hL hj (by decide)) dL_law_742 dL_law_743 dL_law_744 dL_law_745 dL_law_746 (by decide +kernel) ?_
  refine LW.arg 3 hC m4_0 m4_3 (arg_in hL hj (by decide)) dL_law_747 dL_law_748 dL_law_749 dL_law_750 dL_law_751 (by decide +kernel) ?_
  refine LW.cV (p_change hJ hP hM (xs (nI j + nI 1).toNatClampNeg) (xs (nI j + nI 2).toNatClampNeg) (xs (nI j + nI 3).toNatClampNeg)) hC hK dL_law_752 k_L_98 rfl rfl rfl (Nat.le_of_ble_eq_true rfl) (Nat.le_of_ble_eq_true rfl) ?_
  rintro _ h1 ⟨v, rfl, ⟨fs, h45⟩, h7⟩
  refine LW.eqs (st' := [.int v]) rfl ?_
  refine LW.ald 45 hC dL_law_755 m4_2 ?_
  refine LW.arg 1 hC m4_0 m4_3 (arg_in hL hj (by decide)) dL_law_756 dL_law_757 dL_law_758 dL_law_759 dL_law_760 (by decide +kernel) ?_
  refine LW.arg 2 hC m4_0 m4_3 (arg_in hL hj (by decide)) dL_law_761 dL_law_762 dL_law_763 dL_law_764 dL_law_765 (by decide +kernel) ?_
  refine LW.arg 3 hC m4_0 m4_3 (arg_in hL hj (by decide)) dL_law_766 dL_law_767 dL_law_768 dL_law_769 dL_law_770 (by decide +kernel) ?_
  refine LW.cV h7 hC hK dL_law_771 k_L_101 h45 rfl rfl (Nat.le_of_ble_eq_true rfl) (Nat.le_of_ble_eq_true rfl) ?_
  rintro _ h2 ⟨rfl, hg⟩
  refine LW.eqs (st' := [.int v, .int v]) rfl ?_
  refine LW.icmp_eq 802 hC dL_law_774 (by decide) rfl ?_
  exact kk h2 hg
theorem L_count {j : Nat} (hC : lw_At p s m meth c b L xs) (hK : Kn G s) (hL : L ≤ 3072) (hj : j + 6 ≤ L) (hG : GH h) (kk : ∀ h', GH h' → LW p l e s m below meth c b G 69 763 802 (lv4 s b (nI j)) [] h') : LW p l e s m below meth c b G 69 763 779 (lv4 s b (nI j)) [] h := by
  obtain ⟨F, n, nd, R, D, f, ro, rs, rw, rb, mm, rfl, hJ, hP, hM⟩ := hG
  refine LW.ald 0 hC dL_law_779 m4_1 ?_
  refine LW.arg 1 hC m4_0 m4_3 (arg_in hL hj (by decide)) dL_law_780 dL_law_781 dL_law_782 dL_law_783 dL_law_784 (by decide +kernel) ?_
  refine LW.cV (p_count hJ hP hM (xs (nI j + nI 1).toNatClampNeg)) hC hK dL_law_785 k_L_102 rfl rfl rfl (Nat.le_of_ble_eq_true rfl) (Nat.le_of_ble_eq_true rfl) ?_
  rintro _ h1 ⟨v, rfl, ⟨fs, h45⟩, h7⟩
  refine LW.eqs (st' := [.int v]) rfl ?_
  refine LW.ald 45 hC dL_law_788 m4_2 ?_
  refine LW.arg 1 hC m4_0 m4_3 (arg_in hL hj (by decide)) dL_law_789 dL_law_790 dL_law_791 dL_law_792 dL_law_793 (by decide +kernel) ?_
  refine LW.cV h7 hC hK dL_law_794 k_L_105 h45 rfl rfl (Nat.le_of_ble_eq_true rfl) (Nat.le_of_ble_eq_true rfl) ?_
  rintro _ h2 ⟨rfl, hg⟩
  refine LW.eqs (st' := [.int v, .int v]) rfl ?_
  refine LW.icmp_eq 802 hC dL_law_797 (by decide) rfl ?_
  exact kk h2 hg
end LAW
