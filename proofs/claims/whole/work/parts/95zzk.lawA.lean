/-! THE LAW'S CASES: one turn of its loop -/
set_option maxRecDepth 20000 in
theorem c_174_house {L i : Nat} {xs : Nat → Int32} {hp : hm_H} {Q : Option Value → hm_H → Prop} (hL : L ≤ 2560) (hi : i + 5 ≤ L) (S : hw_S L xs hp) (K : ∀ hp2, hw_S L xs hp2 → hm_T 1000 174 919 [.ref 0, .ref 4, .ref 61, .int (nI i)] [] hp2 Q) : hm_T 1000 174 140 [.ref 0, .ref 4, .ref 61, .int (nI i)] [] hp Q := by
  obtain ⟨h0, fs, h4⟩ := S.at
  refine r_aload_n k_174_140 rfl ?_
  refine r_aload_n k_174_141 rfl ?_
  refine r_iload_n k_174_142 rfl ?_
  refine r_iconst k_174_143 ci_1 ?_
  refine r_iadd k_174_144 ?_
  refine r_ialdn (k := i + 1) k_174_145 h0 (Or.inr rfl) (nI_add i 1) (by omega) (by omega) ?_
  refine r_aload_n k_174_146 rfl ?_
  refine r_iload_n k_174_147 rfl ?_
  refine r_iconst k_174_148 ci_2 ?_
  refine r_iadd k_174_149 ?_
  refine r_ialdn (k := i + 2) k_174_150 h0 (Or.inr rfl) (nI_add i 2) (by omega) (by omega) ?_
  refine r_callv3 m_174 k_174_151 cl_19_13 m_12 (by decide) rfl rfl (Nat.le_of_ble_eq_true rfl) (Nat.le_of_ble_eq_true rfl) h4 rfl ?_
  refine t_house (e := 995) S (fun v hp1 fs2 h0 h61 hM => ?_)
  refine r_aload_n k_174_154 rfl ?_
  refine r_aload_n k_174_155 rfl ?_
  refine r_iload_n k_174_156 rfl ?_
  refine r_iconst k_174_157 ci_1 ?_
  refine r_iadd k_174_158 ?_
  refine r_ialdn (k := i + 1) k_174_159 h0 (Or.inr rfl) (nI_add i 1) (by omega) (by omega) ?_
  refine r_aload_n k_174_160 rfl ?_
  refine r_iload_n k_174_161 rfl ?_
  refine r_iconst k_174_162 ci_2 ?_
  refine r_iadd k_174_163 ?_
  refine r_ialdn (k := i + 2) k_174_164 h0 (Or.inr rfl) (nI_add i 2) (by omega) (by omega) ?_
  refine r_callv3 m_174 k_174_165 cl_19_17 m_118 (by decide) rfl rfl (Nat.le_of_ble_eq_true rfl) (Nat.le_of_ble_eq_true rfl) h61 rfl ?_
  refine hM.mono (fun r hp2 z => ?_)
  obtain ⟨rfl, S2⟩ := z
  refine r_icmp_eq k_174_168 rfl (fun _ => ?_) (fun z => absurd rfl z)
  exact K hp2 S2
set_option maxRecDepth 20000 in
theorem c_174_open {L i : Nat} {xs : Nat → Int32} {hp : hm_H} {Q : Option Value → hm_H → Prop} (hL : L ≤ 2560) (hi : i + 5 ≤ L) (S : hw_S L xs hp) (K : ∀ hp2, hw_S L xs hp2 → hm_T 1000 174 919 [.ref 0, .ref 4, .ref 61, .int (nI i)] [] hp2 Q) : hm_T 1000 174 173 [.ref 0, .ref 4, .ref 61, .int (nI i)] [] hp Q := by
  obtain ⟨h0, fs, h4⟩ := S.at
  refine r_aload_n k_174_173 rfl ?_
  refine r_aload_n k_174_174 rfl ?_
  refine r_iload_n k_174_175 rfl ?_
  refine r_iconst k_174_176 ci_1 ?_
  refine r_iadd k_174_177 ?_
  refine r_ialdn (k := i + 1) k_174_178 h0 (Or.inr rfl) (nI_add i 1) (by omega) (by omega) ?_
  refine r_aload_n k_174_179 rfl ?_
  refine r_iload_n k_174_180 rfl ?_
  refine r_iconst k_174_181 ci_2 ?_
  refine r_iadd k_174_182 ?_
  refine r_ialdn (k := i + 2) k_174_183 h0 (Or.inr rfl) (nI_add i 2) (by omega) (by omega) ?_
  refine r_callv3 m_174 k_174_184 cl_19_18 m_16 (by decide) rfl rfl (Nat.le_of_ble_eq_true rfl) (Nat.le_of_ble_eq_true rfl) h4 rfl ?_
  refine t_open (e := 996) S (fun v hp1 fs2 h0 h61 hM => ?_)
  refine r_aload_n k_174_187 rfl ?_
  refine r_aload_n k_174_188 rfl ?_
  refine r_iload_n k_174_189 rfl ?_
  refine r_iconst k_174_190 ci_1 ?_
  refine r_iadd k_174_191 ?_
  refine r_ialdn (k := i + 1) k_174_192 h0 (Or.inr rfl) (nI_add i 1) (by omega) (by omega) ?_
  refine r_aload_n k_174_193 rfl ?_
  refine r_iload_n k_174_194 rfl ?_
  refine r_iconst k_174_195 ci_2 ?_
  refine r_iadd k_174_196 ?_
  refine r_ialdn (k := i + 2) k_174_197 h0 (Or.inr rfl) (nI_add i 2) (by omega) (by omega) ?_
  refine r_callv3 m_174 k_174_198 cl_19_21 m_125 (by decide) rfl rfl (Nat.le_of_ble_eq_true rfl) (Nat.le_of_ble_eq_true rfl) h61 rfl ?_
  refine hM.mono (fun r hp2 z => ?_)
  obtain ⟨rfl, S2⟩ := z
  refine r_icmp_eq k_174_201 rfl (fun _ => ?_) (fun z => absurd rfl z)
  exact K hp2 S2
set_option maxRecDepth 20000 in
theorem c_174_bearer {L i : Nat} {xs : Nat → Int32} {hp : hm_H} {Q : Option Value → hm_H → Prop} (hL : L ≤ 2560) (hi : i + 5 ≤ L) (S : hw_S L xs hp) (K : ∀ hp2, hw_S L xs hp2 → hm_T 1000 174 919 [.ref 0, .ref 4, .ref 61, .int (nI i)] [] hp2 Q) : hm_T 1000 174 206 [.ref 0, .ref 4, .ref 61, .int (nI i)] [] hp Q := by
  obtain ⟨h0, fs, h4⟩ := S.at
  refine r_aload_n k_174_206 rfl ?_
  refine r_aload_n k_174_207 rfl ?_
  refine r_iload_n k_174_208 rfl ?_
  refine r_iconst k_174_209 ci_1 ?_
  refine r_iadd k_174_210 ?_
  refine r_ialdn (k := i + 1) k_174_211 h0 (Or.inr rfl) (nI_add i 1) (by omega) (by omega) ?_
  refine r_callv2 m_174 k_174_212 cl_19_22 m_22 (by decide) rfl rfl (Nat.le_of_ble_eq_true rfl) (Nat.le_of_ble_eq_true rfl) h4 rfl ?_
  refine t_bearer (e := 998) S (fun v hp1 fs2 h0 h61 hM => ?_)
  refine r_aload_n k_174_215 rfl ?_
  refine r_aload_n k_174_216 rfl ?_
  refine r_iload_n k_174_217 rfl ?_
  refine r_iconst k_174_218 ci_1 ?_
  refine r_iadd k_174_219 ?_
  refine r_ialdn (k := i + 1) k_174_220 h0 (Or.inr rfl) (nI_add i 1) (by omega) (by omega) ?_
  refine r_callv2 m_174 k_174_221 cl_19_26 m_127 (by decide) rfl rfl (Nat.le_of_ble_eq_true rfl) (Nat.le_of_ble_eq_true rfl) h61 rfl ?_
  refine hM.mono (fun r hp2 z => ?_)
  obtain ⟨rfl, S2⟩ := z
  refine r_icmp_eq k_174_224 rfl (fun _ => ?_) (fun z => absurd rfl z)
  exact K hp2 S2
set_option maxRecDepth 20000 in
theorem c_174_feed {L i : Nat} {xs : Nat → Int32} {hp : hm_H} {Q : Option Value → hm_H → Prop} (hL : L ≤ 2560) (hi : i + 5 ≤ L) (S : hw_S L xs hp) (K : ∀ hp2, hw_S L xs hp2 → hm_T 1000 174 919 [.ref 0, .ref 4, .ref 61, .int (nI i)] [] hp2 Q) : hm_T 1000 174 229 [.ref 0, .ref 4, .ref 61, .int (nI i)] [] hp Q := by
  obtain ⟨h0, fs, h4⟩ := S.at
  refine r_aload_n k_174_229 rfl ?_
  refine r_aload_n k_174_230 rfl ?_
  refine r_iload_n k_174_231 rfl ?_
  refine r_iconst k_174_232 ci_1 ?_
  refine r_iadd k_174_233 ?_
  refine r_ialdn (k := i + 1) k_174_234 h0 (Or.inr rfl) (nI_add i 1) (by omega) (by omega) ?_
  refine r_aload_n k_174_235 rfl ?_
  refine r_iload_n k_174_236 rfl ?_
  refine r_iconst k_174_237 ci_2 ?_
  refine r_iadd k_174_238 ?_
  refine r_ialdn (k := i + 2) k_174_239 h0 (Or.inr rfl) (nI_add i 2) (by omega) (by omega) ?_
  refine r_i2l k_174_240 ?_
  refine r_bipush k_174_241 cb_32 ?_
  refine r_lshl k_174_243 ?_
  refine r_aload_n k_174_244 rfl ?_
  refine r_iload_n k_174_245 rfl ?_
  refine r_iconst k_174_246 ci_3 ?_
  refine r_iadd k_174_247 ?_
  refine r_ialdn (k := i + 3) k_174_248 h0 (Or.inr rfl) (nI_add i 3) (by omega) (by omega) ?_
  refine r_i2l k_174_249 ?_
  refine r_ldc2_w m_174 k_174_250 ll_19_27 ?_
  refine r_land k_174_253 ?_
  refine r_lor k_174_254 ?_
  refine r_callv3 m_174 k_174_255 cl_19_29 m_24 (by decide) rfl rfl (Nat.le_of_ble_eq_true rfl) (Nat.le_of_ble_eq_true rfl) h4 rfl ?_
  refine t_feed (e := 998) S (fun v hp1 fs2 h0 h61 hM => ?_)
  refine r_aload_n k_174_258 rfl ?_
  refine r_aload_n k_174_259 rfl ?_
  refine r_iload_n k_174_260 rfl ?_
  refine r_iconst k_174_261 ci_1 ?_
  refine r_iadd k_174_262 ?_
  refine r_ialdn (k := i + 1) k_174_263 h0 (Or.inr rfl) (nI_add i 1) (by omega) (by omega) ?_
  refine r_aload_n k_174_264 rfl ?_
  refine r_iload_n k_174_265 rfl ?_
  refine r_iconst k_174_266 ci_2 ?_
  refine r_iadd k_174_267 ?_
  refine r_ialdn (k := i + 2) k_174_268 h0 (Or.inr rfl) (nI_add i 2) (by omega) (by omega) ?_
  refine r_i2l k_174_269 ?_
  refine r_bipush k_174_270 cb_32 ?_
  refine r_lshl k_174_272 ?_
  refine r_aload_n k_174_273 rfl ?_
  refine r_iload_n k_174_274 rfl ?_
  refine r_iconst k_174_275 ci_3 ?_
  refine r_iadd k_174_276 ?_
  refine r_ialdn (k := i + 3) k_174_277 h0 (Or.inr rfl) (nI_add i 3) (by omega) (by omega) ?_
  refine r_i2l k_174_278 ?_
  refine r_ldc2_w m_174 k_174_279 ll_19_27 ?_
  refine r_land k_174_282 ?_
  refine r_lor k_174_283 ?_
  refine r_callv3 m_174 k_174_284 cl_19_33 m_128 (by decide) rfl rfl (Nat.le_of_ble_eq_true rfl) (Nat.le_of_ble_eq_true rfl) h61 rfl ?_
  refine hM.mono (fun r hp2 z => ?_)
  obtain ⟨rfl, S2⟩ := z
  refine r_icmp_eq k_174_287 rfl (fun _ => ?_) (fun z => absurd rfl z)
  exact K hp2 S2
set_option maxRecDepth 20000 in
theorem c_174_law {L i : Nat} {xs : Nat → Int32} {hp : hm_H} {Q : Option Value → hm_H → Prop} (hL : L ≤ 2560) (hi : i + 5 ≤ L) (S : hw_S L xs hp) (K : ∀ hp2, hw_S L xs hp2 → hm_T 1000 174 919 [.ref 0, .ref 4, .ref 61, .int (nI i)] [] hp2 Q) : hm_T 1000 174 292 [.ref 0, .ref 4, .ref 61, .int (nI i)] [] hp Q := by
  obtain ⟨h0, fs, h4⟩ := S.at
  refine r_aload_n k_174_292 rfl ?_
  refine r_aload_n k_174_293 rfl ?_
  refine r_iload_n k_174_294 rfl ?_
  refine r_iconst k_174_295 ci_1 ?_
  refine r_iadd k_174_296 ?_
  refine r_ialdn (k := i + 1) k_174_297 h0 (Or.inr rfl) (nI_add i 1) (by omega) (by omega) ?_
  refine r_callv2 m_174 k_174_298 cl_19_34 m_26 (by decide) rfl rfl (Nat.le_of_ble_eq_true rfl) (Nat.le_of_ble_eq_true rfl) h4 rfl ?_
  refine t_law (e := 995) S (fun v hp1 fs2 h0 h61 hM => ?_)
  refine r_aload_n k_174_301 rfl ?_
  refine r_aload_n k_174_302 rfl ?_
  refine r_iload_n k_174_303 rfl ?_
  refine r_iconst k_174_304 ci_1 ?_
  refine r_iadd k_174_305 ?_
  refine r_ialdn (k := i + 1) k_174_306 h0 (Or.inr rfl) (nI_add i 1) (by omega) (by omega) ?_
  refine r_callv2 m_174 k_174_307 cl_19_37 m_129 (by decide) rfl rfl (Nat.le_of_ble_eq_true rfl) (Nat.le_of_ble_eq_true rfl) h61 rfl ?_
  refine hM.mono (fun r hp2 z => ?_)
  obtain ⟨rfl, S2⟩ := z
  refine r_icmp_eq k_174_310 rfl (fun _ => ?_) (fun z => absurd rfl z)
  exact K hp2 S2
set_option maxRecDepth 20000 in
theorem c_174_place {L i : Nat} {xs : Nat → Int32} {hp : hm_H} {Q : Option Value → hm_H → Prop} (hL : L ≤ 2560) (hi : i + 5 ≤ L) (S : hw_S L xs hp) (K : ∀ hp2, hw_S L xs hp2 → hm_T 1000 174 919 [.ref 0, .ref 4, .ref 61, .int (nI i)] [] hp2 Q) : hm_T 1000 174 315 [.ref 0, .ref 4, .ref 61, .int (nI i)] [] hp Q := by
  obtain ⟨h0, fs, h4⟩ := S.at
  refine r_aload_n k_174_315 rfl ?_
  refine r_callv1 m_174 k_174_316 cl_19_38 m_60 (by decide) rfl rfl (Nat.le_of_ble_eq_true rfl) (Nat.le_of_ble_eq_true rfl) h4 rfl ?_
  refine t_place (e := 999) S (fun v hp1 fs2 h0 h61 hM => ?_)
  refine r_aload_n k_174_319 rfl ?_
  refine r_callv1 m_174 k_174_320 cl_19_42 m_142 (by decide) rfl rfl (Nat.le_of_ble_eq_true rfl) (Nat.le_of_ble_eq_true rfl) h61 rfl ?_
  refine hM.mono (fun r hp2 z => ?_)
  obtain ⟨rfl, S2⟩ := z
  refine r_icmp_eq k_174_323 rfl (fun _ => ?_) (fun z => absurd rfl z)
  exact K hp2 S2
set_option maxRecDepth 20000 in
theorem c_174_says {L i : Nat} {xs : Nat → Int32} {hp : hm_H} {Q : Option Value → hm_H → Prop} (hL : L ≤ 2560) (hi : i + 5 ≤ L) (S : hw_S L xs hp) (K : ∀ hp2, hw_S L xs hp2 → hm_T 1000 174 919 [.ref 0, .ref 4, .ref 61, .int (nI i)] [] hp2 Q) : hm_T 1000 174 328 [.ref 0, .ref 4, .ref 61, .int (nI i)] [] hp Q := by
  obtain ⟨h0, fs, h4⟩ := S.at
  refine r_aload_n k_174_328 rfl ?_
  refine r_aload_n k_174_329 rfl ?_
  refine r_iload_n k_174_330 rfl ?_
  refine r_iconst k_174_331 ci_1 ?_
  refine r_iadd k_174_332 ?_
  refine r_ialdn (k := i + 1) k_174_333 h0 (Or.inr rfl) (nI_add i 1) (by omega) (by omega) ?_
  refine r_aload_n k_174_334 rfl ?_
  refine r_iload_n k_174_335 rfl ?_
  refine r_iconst k_174_336 ci_2 ?_
  refine r_iadd k_174_337 ?_
  refine r_ialdn (k := i + 2) k_174_338 h0 (Or.inr rfl) (nI_add i 2) (by omega) (by omega) ?_
  refine r_aload_n k_174_339 rfl ?_
  refine r_iload_n k_174_340 rfl ?_
  refine r_iconst k_174_341 ci_3 ?_
  refine r_iadd k_174_342 ?_
  refine r_ialdn (k := i + 3) k_174_343 h0 (Or.inr rfl) (nI_add i 3) (by omega) (by omega) ?_
  refine r_callv4 m_174 k_174_344 cl_19_43 m_61 (by decide) rfl rfl (Nat.le_of_ble_eq_true rfl) (Nat.le_of_ble_eq_true rfl) h4 rfl ?_
  refine t_says (e := 997) S (fun v hp1 fs2 h0 h61 hM => ?_)
  refine r_aload_n k_174_347 rfl ?_
  refine r_aload_n k_174_348 rfl ?_
  refine r_iload_n k_174_349 rfl ?_
  refine r_iconst k_174_350 ci_1 ?_
  refine r_iadd k_174_351 ?_
  refine r_ialdn (k := i + 1) k_174_352 h0 (Or.inr rfl) (nI_add i 1) (by omega) (by omega) ?_
  refine r_aload_n k_174_353 rfl ?_
  refine r_iload_n k_174_354 rfl ?_
  refine r_iconst k_174_355 ci_2 ?_
  refine r_iadd k_174_356 ?_
  refine r_ialdn (k := i + 2) k_174_357 h0 (Or.inr rfl) (nI_add i 2) (by omega) (by omega) ?_
  refine r_aload_n k_174_358 rfl ?_
  refine r_iload_n k_174_359 rfl ?_
  refine r_iconst k_174_360 ci_3 ?_
  refine r_iadd k_174_361 ?_
  refine r_ialdn (k := i + 3) k_174_362 h0 (Or.inr rfl) (nI_add i 3) (by omega) (by omega) ?_
  refine r_callv4 m_174 k_174_363 cl_19_47 m_143 (by decide) rfl rfl (Nat.le_of_ble_eq_true rfl) (Nat.le_of_ble_eq_true rfl) h61 rfl ?_
  refine hM.mono (fun r hp2 z => ?_)
  obtain ⟨rfl, S2⟩ := z
  refine r_icmp_eq k_174_366 rfl (fun _ => ?_) (fun z => absurd rfl z)
  exact K hp2 S2
set_option maxRecDepth 20000 in
theorem c_174_casus {L i : Nat} {xs : Nat → Int32} {hp : hm_H} {Q : Option Value → hm_H → Prop} (hL : L ≤ 2560) (hi : i + 5 ≤ L) (S : hw_S L xs hp) (K : ∀ hp2, hw_S L xs hp2 → hm_T 1000 174 919 [.ref 0, .ref 4, .ref 61, .int (nI i)] [] hp2 Q) : hm_T 1000 174 371 [.ref 0, .ref 4, .ref 61, .int (nI i)] [] hp Q := by
  obtain ⟨h0, fs, h4⟩ := S.at
  refine r_aload_n k_174_371 rfl ?_
  refine r_aload_n k_174_372 rfl ?_
  refine r_iload_n k_174_373 rfl ?_
  refine r_iconst k_174_374 ci_1 ?_
  refine r_iadd k_174_375 ?_
  refine r_ialdn (k := i + 1) k_174_376 h0 (Or.inr rfl) (nI_add i 1) (by omega) (by omega) ?_
  refine r_aload_n k_174_377 rfl ?_
  refine r_iload_n k_174_378 rfl ?_
  refine r_iconst k_174_379 ci_2 ?_
  refine r_iadd k_174_380 ?_
  refine r_ialdn (k := i + 2) k_174_381 h0 (Or.inr rfl) (nI_add i 2) (by omega) (by omega) ?_
  refine r_aload_n k_174_382 rfl ?_
  refine r_iload_n k_174_383 rfl ?_
  refine r_iconst k_174_384 ci_3 ?_
  refine r_iadd k_174_385 ?_
  refine r_ialdn (k := i + 3) k_174_386 h0 (Or.inr rfl) (nI_add i 3) (by omega) (by omega) ?_
  refine r_aload_n k_174_387 rfl ?_
  refine r_iload_n k_174_388 rfl ?_
  refine r_iconst k_174_389 ci_4 ?_
  refine r_iadd k_174_390 ?_
  refine r_ialdn (k := i + 4) k_174_391 h0 (Or.inr rfl) (nI_add i 4) (by omega) (by omega) ?_
  refine r_callv5 m_174 k_174_392 cl_19_48 m_63 (by decide) rfl rfl (Nat.le_of_ble_eq_true rfl) (Nat.le_of_ble_eq_true rfl) h4 rfl ?_
  refine t_casus (e := 997) S (fun v hp1 fs2 h0 h61 hM => ?_)
  refine r_aload_n k_174_395 rfl ?_
  refine r_aload_n k_174_396 rfl ?_
  refine r_iload_n k_174_397 rfl ?_
  refine r_iconst k_174_398 ci_1 ?_
  refine r_iadd k_174_399 ?_
  refine r_ialdn (k := i + 1) k_174_400 h0 (Or.inr rfl) (nI_add i 1) (by omega) (by omega) ?_
  refine r_aload_n k_174_401 rfl ?_
  refine r_iload_n k_174_402 rfl ?_
  refine r_iconst k_174_403 ci_2 ?_
  refine r_iadd k_174_404 ?_
  refine r_ialdn (k := i + 2) k_174_405 h0 (Or.inr rfl) (nI_add i 2) (by omega) (by omega) ?_
  refine r_aload_n k_174_406 rfl ?_
  refine r_iload_n k_174_407 rfl ?_
  refine r_iconst k_174_408 ci_3 ?_
  refine r_iadd k_174_409 ?_
  refine r_ialdn (k := i + 3) k_174_410 h0 (Or.inr rfl) (nI_add i 3) (by omega) (by omega) ?_
  refine r_aload_n k_174_411 rfl ?_
  refine r_iload_n k_174_412 rfl ?_
  refine r_iconst k_174_413 ci_4 ?_
  refine r_iadd k_174_414 ?_
  refine r_ialdn (k := i + 4) k_174_415 h0 (Or.inr rfl) (nI_add i 4) (by omega) (by omega) ?_
  refine r_callv5 m_174 k_174_416 cl_19_52 m_145 (by decide) rfl rfl (Nat.le_of_ble_eq_true rfl) (Nat.le_of_ble_eq_true rfl) h61 rfl ?_
  refine hM.mono (fun r hp2 z => ?_)
  obtain ⟨rfl, S2⟩ := z
  refine r_icmp_eq k_174_419 rfl (fun _ => ?_) (fun z => absurd rfl z)
  exact K hp2 S2
set_option maxRecDepth 20000 in
theorem c_174_paper {L i : Nat} {xs : Nat → Int32} {hp : hm_H} {Q : Option Value → hm_H → Prop} (hL : L ≤ 2560) (hi : i + 5 ≤ L) (S : hw_S L xs hp) (K : ∀ hp2, hw_S L xs hp2 → hm_T 1000 174 919 [.ref 0, .ref 4, .ref 61, .int (nI i)] [] hp2 Q) : hm_T 1000 174 424 [.ref 0, .ref 4, .ref 61, .int (nI i)] [] hp Q := by
  obtain ⟨h0, fs, h4⟩ := S.at
  refine r_aload_n k_174_424 rfl ?_
  refine r_aload_n k_174_425 rfl ?_
  refine r_iload_n k_174_426 rfl ?_
  refine r_iconst k_174_427 ci_1 ?_
  refine r_iadd k_174_428 ?_
  refine r_ialdn (k := i + 1) k_174_429 h0 (Or.inr rfl) (nI_add i 1) (by omega) (by omega) ?_
  refine r_aload_n k_174_430 rfl ?_
  refine r_iload_n k_174_431 rfl ?_
  refine r_iconst k_174_432 ci_2 ?_
  refine r_iadd k_174_433 ?_
  refine r_ialdn (k := i + 2) k_174_434 h0 (Or.inr rfl) (nI_add i 2) (by omega) (by omega) ?_
  refine r_aload_n k_174_435 rfl ?_
  refine r_iload_n k_174_436 rfl ?_
  refine r_iconst k_174_437 ci_3 ?_
  refine r_iadd k_174_438 ?_
  refine r_ialdn (k := i + 3) k_174_439 h0 (Or.inr rfl) (nI_add i 3) (by omega) (by omega) ?_
  refine r_callv4 m_174 k_174_440 cl_19_53 m_74 (by decide) rfl rfl (Nat.le_of_ble_eq_true rfl) (Nat.le_of_ble_eq_true rfl) h4 rfl ?_
  refine t_paper (e := 995) S (fun v hp1 fs2 h0 h61 hM => ?_)
  refine r_aload_n k_174_443 rfl ?_
  refine r_aload_n k_174_444 rfl ?_
  refine r_iload_n k_174_445 rfl ?_
  refine r_iconst k_174_446 ci_1 ?_
  refine r_iadd k_174_447 ?_
  refine r_ialdn (k := i + 1) k_174_448 h0 (Or.inr rfl) (nI_add i 1) (by omega) (by omega) ?_
  refine r_aload_n k_174_449 rfl ?_
  refine r_iload_n k_174_450 rfl ?_
  refine r_iconst k_174_451 ci_2 ?_
  refine r_iadd k_174_452 ?_
  refine r_ialdn (k := i + 2) k_174_453 h0 (Or.inr rfl) (nI_add i 2) (by omega) (by omega) ?_
  refine r_aload_n k_174_454 rfl ?_
  refine r_iload_n k_174_455 rfl ?_
  refine r_iconst k_174_456 ci_3 ?_
  refine r_iadd k_174_457 ?_
  refine r_ialdn (k := i + 3) k_174_458 h0 (Or.inr rfl) (nI_add i 3) (by omega) (by omega) ?_
  refine r_callv4 m_174 k_174_459 cl_19_56 m_147 (by decide) rfl rfl (Nat.le_of_ble_eq_true rfl) (Nat.le_of_ble_eq_true rfl) h61 rfl ?_
  refine hM.mono (fun r hp2 z => ?_)
  obtain ⟨rfl, S2⟩ := z
  refine r_icmp_eq k_174_462 rfl (fun _ => ?_) (fun z => absurd rfl z)
  exact K hp2 S2
set_option maxRecDepth 20000 in
theorem c_174_may {L i : Nat} {xs : Nat → Int32} {hp : hm_H} {Q : Option Value → hm_H → Prop} (hL : L ≤ 2560) (hi : i + 5 ≤ L) (S : hw_S L xs hp) (K : ∀ hp2, hw_S L xs hp2 → hm_T 1000 174 919 [.ref 0, .ref 4, .ref 61, .int (nI i)] [] hp2 Q) : hm_T 1000 174 467 [.ref 0, .ref 4, .ref 61, .int (nI i)] [] hp Q := by
  obtain ⟨h0, fs, h4⟩ := S.at
  refine r_aload_n k_174_467 rfl ?_
  refine r_aload_n k_174_468 rfl ?_
  refine r_iload_n k_174_469 rfl ?_
  refine r_iconst k_174_470 ci_1 ?_
  refine r_iadd k_174_471 ?_
  refine r_ialdn (k := i + 1) k_174_472 h0 (Or.inr rfl) (nI_add i 1) (by omega) (by omega) ?_
  refine r_aload_n k_174_473 rfl ?_
  refine r_iload_n k_174_474 rfl ?_
  refine r_iconst k_174_475 ci_2 ?_
  refine r_iadd k_174_476 ?_
  refine r_ialdn (k := i + 2) k_174_477 h0 (Or.inr rfl) (nI_add i 2) (by omega) (by omega) ?_
  refine r_aload_n k_174_478 rfl ?_
  refine r_iload_n k_174_479 rfl ?_
  refine r_iconst k_174_480 ci_3 ?_
  refine r_iadd k_174_481 ?_
  refine r_ialdn (k := i + 3) k_174_482 h0 (Or.inr rfl) (nI_add i 3) (by omega) (by omega) ?_
  refine r_callv4 m_174 k_174_483 cl_19_57 m_76 (by decide) rfl rfl (Nat.le_of_ble_eq_true rfl) (Nat.le_of_ble_eq_true rfl) h4 rfl ?_
  refine t_may (e := 994) S (fun v hp1 fs2 h0 h61 hM => ?_)
  refine r_aload_n k_174_486 rfl ?_
  refine r_aload_n k_174_487 rfl ?_
  refine r_iload_n k_174_488 rfl ?_
  refine r_iconst k_174_489 ci_1 ?_
  refine r_iadd k_174_490 ?_
  refine r_ialdn (k := i + 1) k_174_491 h0 (Or.inr rfl) (nI_add i 1) (by omega) (by omega) ?_
  refine r_aload_n k_174_492 rfl ?_
  refine r_iload_n k_174_493 rfl ?_
  refine r_iconst k_174_494 ci_2 ?_
  refine r_iadd k_174_495 ?_
  refine r_ialdn (k := i + 2) k_174_496 h0 (Or.inr rfl) (nI_add i 2) (by omega) (by omega) ?_
  refine r_aload_n k_174_497 rfl ?_
  refine r_iload_n k_174_498 rfl ?_
  refine r_iconst k_174_499 ci_3 ?_
  refine r_iadd k_174_500 ?_
  refine r_ialdn (k := i + 3) k_174_501 h0 (Or.inr rfl) (nI_add i 3) (by omega) (by omega) ?_
  refine r_callv4 m_174 k_174_502 cl_19_60 m_149 (by decide) rfl rfl (Nat.le_of_ble_eq_true rfl) (Nat.le_of_ble_eq_true rfl) h61 rfl ?_
  refine hM.mono (fun r hp2 z => ?_)
  obtain ⟨rfl, S2⟩ := z
  refine r_icmp_eq k_174_505 rfl (fun _ => ?_) (fun z => absurd rfl z)
  exact K hp2 S2
set_option maxRecDepth 20000 in
theorem c_174_promise {L i : Nat} {xs : Nat → Int32} {hp : hm_H} {Q : Option Value → hm_H → Prop} (hL : L ≤ 2560) (hi : i + 5 ≤ L) (S : hw_S L xs hp) (K : ∀ hp2, hw_S L xs hp2 → hm_T 1000 174 919 [.ref 0, .ref 4, .ref 61, .int (nI i)] [] hp2 Q) : hm_T 1000 174 510 [.ref 0, .ref 4, .ref 61, .int (nI i)] [] hp Q := by
  obtain ⟨h0, fs, h4⟩ := S.at
  refine r_aload_n k_174_510 rfl ?_
  refine r_aload_n k_174_511 rfl ?_
  refine r_iload_n k_174_512 rfl ?_
  refine r_iconst k_174_513 ci_1 ?_
  refine r_iadd k_174_514 ?_
  refine r_ialdn (k := i + 1) k_174_515 h0 (Or.inr rfl) (nI_add i 1) (by omega) (by omega) ?_
  refine r_aload_n k_174_516 rfl ?_
  refine r_iload_n k_174_517 rfl ?_
  refine r_iconst k_174_518 ci_2 ?_
  refine r_iadd k_174_519 ?_
  refine r_ialdn (k := i + 2) k_174_520 h0 (Or.inr rfl) (nI_add i 2) (by omega) (by omega) ?_
  refine r_aload_n k_174_521 rfl ?_
  refine r_iload_n k_174_522 rfl ?_
  refine r_iconst k_174_523 ci_3 ?_
  refine r_iadd k_174_524 ?_
  refine r_ialdn (k := i + 3) k_174_525 h0 (Or.inr rfl) (nI_add i 3) (by omega) (by omega) ?_
  refine r_callv4 m_174 k_174_526 cl_19_61 m_94 (by decide) rfl rfl (Nat.le_of_ble_eq_true rfl) (Nat.le_of_ble_eq_true rfl) h4 rfl ?_
  refine t_promise (e := 993) S (fun v hp1 fs2 h0 h61 hM => ?_)
  refine r_aload_n k_174_529 rfl ?_
  refine r_aload_n k_174_530 rfl ?_
  refine r_iload_n k_174_531 rfl ?_
  refine r_iconst k_174_532 ci_1 ?_
  refine r_iadd k_174_533 ?_
  refine r_ialdn (k := i + 1) k_174_534 h0 (Or.inr rfl) (nI_add i 1) (by omega) (by omega) ?_
  refine r_aload_n k_174_535 rfl ?_
  refine r_iload_n k_174_536 rfl ?_
  refine r_iconst k_174_537 ci_2 ?_
  refine r_iadd k_174_538 ?_
  refine r_ialdn (k := i + 2) k_174_539 h0 (Or.inr rfl) (nI_add i 2) (by omega) (by omega) ?_
  refine r_aload_n k_174_540 rfl ?_
  refine r_iload_n k_174_541 rfl ?_
  refine r_iconst k_174_542 ci_3 ?_
  refine r_iadd k_174_543 ?_
  refine r_ialdn (k := i + 3) k_174_544 h0 (Or.inr rfl) (nI_add i 3) (by omega) (by omega) ?_
  refine r_callv4 m_174 k_174_545 cl_19_64 m_156 (by decide) rfl rfl (Nat.le_of_ble_eq_true rfl) (Nat.le_of_ble_eq_true rfl) h61 rfl ?_
  refine hM.mono (fun r hp2 z => ?_)
  obtain ⟨rfl, S2⟩ := z
  refine r_icmp_eq k_174_548 rfl (fun _ => ?_) (fun z => absurd rfl z)
  exact K hp2 S2
set_option maxRecDepth 20000 in
theorem c_174_earliest {L i : Nat} {xs : Nat → Int32} {hp : hm_H} {Q : Option Value → hm_H → Prop} (hL : L ≤ 2560) (hi : i + 5 ≤ L) (S : hw_S L xs hp) (K : ∀ hp2, hw_S L xs hp2 → hm_T 1000 174 919 [.ref 0, .ref 4, .ref 61, .int (nI i)] [] hp2 Q) : hm_T 1000 174 553 [.ref 0, .ref 4, .ref 61, .int (nI i)] [] hp Q := by
  obtain ⟨h0, fs, h4⟩ := S.at
  refine r_aload_n k_174_553 rfl ?_
  refine r_aload_n k_174_554 rfl ?_
  refine r_iload_n k_174_555 rfl ?_
  refine r_iconst k_174_556 ci_1 ?_
  refine r_iadd k_174_557 ?_
  refine r_ialdn (k := i + 1) k_174_558 h0 (Or.inr rfl) (nI_add i 1) (by omega) (by omega) ?_
  refine r_aload_n k_174_559 rfl ?_
  refine r_iload_n k_174_560 rfl ?_
  refine r_iconst k_174_561 ci_2 ?_
  refine r_iadd k_174_562 ?_
  refine r_ialdn (k := i + 2) k_174_563 h0 (Or.inr rfl) (nI_add i 2) (by omega) (by omega) ?_
  refine r_aload_n k_174_564 rfl ?_
  refine r_iload_n k_174_565 rfl ?_
  refine r_iconst k_174_566 ci_3 ?_
  refine r_iadd k_174_567 ?_
  refine r_ialdn (k := i + 3) k_174_568 h0 (Or.inr rfl) (nI_add i 3) (by omega) (by omega) ?_
  refine r_callv4 m_174 k_174_569 cl_19_65 m_96 (by decide) rfl rfl (Nat.le_of_ble_eq_true rfl) (Nat.le_of_ble_eq_true rfl) h4 rfl ?_
  refine t_earliest (e := 994) S (fun v hp1 fs2 h0 h61 hM => ?_)
  refine r_aload_n k_174_572 rfl ?_
  refine r_aload_n k_174_573 rfl ?_
  refine r_iload_n k_174_574 rfl ?_
  refine r_iconst k_174_575 ci_1 ?_
  refine r_iadd k_174_576 ?_
  refine r_ialdn (k := i + 1) k_174_577 h0 (Or.inr rfl) (nI_add i 1) (by omega) (by omega) ?_
  refine r_aload_n k_174_578 rfl ?_
  refine r_iload_n k_174_579 rfl ?_
  refine r_iconst k_174_580 ci_2 ?_
  refine r_iadd k_174_581 ?_
  refine r_ialdn (k := i + 2) k_174_582 h0 (Or.inr rfl) (nI_add i 2) (by omega) (by omega) ?_
  refine r_aload_n k_174_583 rfl ?_
  refine r_iload_n k_174_584 rfl ?_
  refine r_iconst k_174_585 ci_3 ?_
  refine r_iadd k_174_586 ?_
  refine r_ialdn (k := i + 3) k_174_587 h0 (Or.inr rfl) (nI_add i 3) (by omega) (by omega) ?_
  refine r_callv4 m_174 k_174_588 cl_19_68 m_157 (by decide) rfl rfl (Nat.le_of_ble_eq_true rfl) (Nat.le_of_ble_eq_true rfl) h61 rfl ?_
  refine hM.mono (fun r hp2 z => ?_)
  obtain ⟨rfl, S2⟩ := z
  refine r_icmp_eq k_174_591 rfl (fun _ => ?_) (fun z => absurd rfl z)
  exact K hp2 S2
set_option maxRecDepth 20000 in
theorem c_174_undo {L i : Nat} {xs : Nat → Int32} {hp : hm_H} {Q : Option Value → hm_H → Prop} (hL : L ≤ 2560) (hi : i + 5 ≤ L) (S : hw_S L xs hp) (K : ∀ hp2, hw_S L xs hp2 → hm_T 1000 174 919 [.ref 0, .ref 4, .ref 61, .int (nI i)] [] hp2 Q) : hm_T 1000 174 596 [.ref 0, .ref 4, .ref 61, .int (nI i)] [] hp Q := by
  obtain ⟨h0, fs, h4⟩ := S.at
  refine r_aload_n k_174_596 rfl ?_
  refine r_aload_n k_174_597 rfl ?_
  refine r_iload_n k_174_598 rfl ?_
  refine r_iconst k_174_599 ci_1 ?_
  refine r_iadd k_174_600 ?_
  refine r_ialdn (k := i + 1) k_174_601 h0 (Or.inr rfl) (nI_add i 1) (by omega) (by omega) ?_
  refine r_aload_n k_174_602 rfl ?_
  refine r_iload_n k_174_603 rfl ?_
  refine r_iconst k_174_604 ci_2 ?_
  refine r_iadd k_174_605 ?_
  refine r_ialdn (k := i + 2) k_174_606 h0 (Or.inr rfl) (nI_add i 2) (by omega) (by omega) ?_
  refine r_callv3 m_174 k_174_607 cl_19_69 m_97 (by decide) rfl rfl (Nat.le_of_ble_eq_true rfl) (Nat.le_of_ble_eq_true rfl) h4 rfl ?_
  refine t_undo (e := 995) S (fun v hp1 fs2 h0 h61 hM => ?_)
  refine r_aload_n k_174_610 rfl ?_
  refine r_aload_n k_174_611 rfl ?_
  refine r_iload_n k_174_612 rfl ?_
  refine r_iconst k_174_613 ci_1 ?_
  refine r_iadd k_174_614 ?_
  refine r_ialdn (k := i + 1) k_174_615 h0 (Or.inr rfl) (nI_add i 1) (by omega) (by omega) ?_
  refine r_aload_n k_174_616 rfl ?_
  refine r_iload_n k_174_617 rfl ?_
  refine r_iconst k_174_618 ci_2 ?_
  refine r_iadd k_174_619 ?_
  refine r_ialdn (k := i + 2) k_174_620 h0 (Or.inr rfl) (nI_add i 2) (by omega) (by omega) ?_
  refine r_callv3 m_174 k_174_621 cl_19_72 m_158 (by decide) rfl rfl (Nat.le_of_ble_eq_true rfl) (Nat.le_of_ble_eq_true rfl) h61 rfl ?_
  refine hM.mono (fun r hp2 z => ?_)
  obtain ⟨rfl, S2⟩ := z
  refine r_icmp_eq k_174_624 rfl (fun _ => ?_) (fun z => absurd rfl z)
  exact K hp2 S2
set_option maxRecDepth 20000 in
theorem c_174_promised {L i : Nat} {xs : Nat → Int32} {hp : hm_H} {Q : Option Value → hm_H → Prop} (hL : L ≤ 2560) (hi : i + 5 ≤ L) (S : hw_S L xs hp) (K : ∀ hp2, hw_S L xs hp2 → hm_T 1000 174 919 [.ref 0, .ref 4, .ref 61, .int (nI i)] [] hp2 Q) : hm_T 1000 174 629 [.ref 0, .ref 4, .ref 61, .int (nI i)] [] hp Q := by
  obtain ⟨h0, fs, h4⟩ := S.at
  refine r_aload_n k_174_629 rfl ?_
  refine r_aload_n k_174_630 rfl ?_
  refine r_iload_n k_174_631 rfl ?_
  refine r_iconst k_174_632 ci_1 ?_
  refine r_iadd k_174_633 ?_
  refine r_ialdn (k := i + 1) k_174_634 h0 (Or.inr rfl) (nI_add i 1) (by omega) (by omega) ?_
  refine r_aload_n k_174_635 rfl ?_
  refine r_iload_n k_174_636 rfl ?_
  refine r_iconst k_174_637 ci_2 ?_
  refine r_iadd k_174_638 ?_
  refine r_ialdn (k := i + 2) k_174_639 h0 (Or.inr rfl) (nI_add i 2) (by omega) (by omega) ?_
  refine r_aload_n k_174_640 rfl ?_
  refine r_iload_n k_174_641 rfl ?_
  refine r_iconst k_174_642 ci_3 ?_
  refine r_iadd k_174_643 ?_
  refine r_ialdn (k := i + 3) k_174_644 h0 (Or.inr rfl) (nI_add i 3) (by omega) (by omega) ?_
  refine r_callv4 m_174 k_174_645 cl_19_73 m_98 (by decide) rfl rfl (Nat.le_of_ble_eq_true rfl) (Nat.le_of_ble_eq_true rfl) h4 rfl ?_
  refine t_promised (e := 996) S (fun v hp1 fs2 h0 h61 hM => ?_)
  refine r_aload_n k_174_648 rfl ?_
  refine r_aload_n k_174_649 rfl ?_
  refine r_iload_n k_174_650 rfl ?_
  refine r_iconst k_174_651 ci_1 ?_
  refine r_iadd k_174_652 ?_
  refine r_ialdn (k := i + 1) k_174_653 h0 (Or.inr rfl) (nI_add i 1) (by omega) (by omega) ?_
  refine r_aload_n k_174_654 rfl ?_
  refine r_iload_n k_174_655 rfl ?_
  refine r_iconst k_174_656 ci_2 ?_
  refine r_iadd k_174_657 ?_
  refine r_ialdn (k := i + 2) k_174_658 h0 (Or.inr rfl) (nI_add i 2) (by omega) (by omega) ?_
  refine r_aload_n k_174_659 rfl ?_
  refine r_iload_n k_174_660 rfl ?_
  refine r_iconst k_174_661 ci_3 ?_
  refine r_iadd k_174_662 ?_
  refine r_ialdn (k := i + 3) k_174_663 h0 (Or.inr rfl) (nI_add i 3) (by omega) (by omega) ?_
  refine r_callv4 m_174 k_174_664 cl_19_76 m_159 (by decide) rfl rfl (Nat.le_of_ble_eq_true rfl) (Nat.le_of_ble_eq_true rfl) h61 rfl ?_
  refine hM.mono (fun r hp2 z => ?_)
  obtain ⟨rfl, S2⟩ := z
  refine r_icmp_eq k_174_667 rfl (fun _ => ?_) (fun z => absurd rfl z)
  exact K hp2 S2
set_option maxRecDepth 20000 in
theorem c_174_taken {L i : Nat} {xs : Nat → Int32} {hp : hm_H} {Q : Option Value → hm_H → Prop} (hL : L ≤ 2560) (hi : i + 5 ≤ L) (S : hw_S L xs hp) (K : ∀ hp2, hw_S L xs hp2 → hm_T 1000 174 919 [.ref 0, .ref 4, .ref 61, .int (nI i)] [] hp2 Q) : hm_T 1000 174 672 [.ref 0, .ref 4, .ref 61, .int (nI i)] [] hp Q := by
  obtain ⟨h0, fs, h4⟩ := S.at
  refine r_aload_n k_174_672 rfl ?_
  refine r_aload_n k_174_673 rfl ?_
  refine r_iload_n k_174_674 rfl ?_
  refine r_iconst k_174_675 ci_1 ?_
  refine r_iadd k_174_676 ?_
  refine r_ialdn (k := i + 1) k_174_677 h0 (Or.inr rfl) (nI_add i 1) (by omega) (by omega) ?_
  refine r_aload_n k_174_678 rfl ?_
  refine r_iload_n k_174_679 rfl ?_
  refine r_iconst k_174_680 ci_2 ?_
  refine r_iadd k_174_681 ?_
  refine r_ialdn (k := i + 2) k_174_682 h0 (Or.inr rfl) (nI_add i 2) (by omega) (by omega) ?_
  refine r_callv3 m_174 k_174_683 cl_19_77 m_102 (by decide) rfl rfl (Nat.le_of_ble_eq_true rfl) (Nat.le_of_ble_eq_true rfl) h4 rfl ?_
  refine t_taken (e := 996) S (fun v hp1 fs2 h0 h61 hM => ?_)
  refine r_aload_n k_174_686 rfl ?_
  refine r_aload_n k_174_687 rfl ?_
  refine r_iload_n k_174_688 rfl ?_
  refine r_iconst k_174_689 ci_1 ?_
  refine r_iadd k_174_690 ?_
  refine r_ialdn (k := i + 1) k_174_691 h0 (Or.inr rfl) (nI_add i 1) (by omega) (by omega) ?_
  refine r_aload_n k_174_692 rfl ?_
  refine r_iload_n k_174_693 rfl ?_
  refine r_iconst k_174_694 ci_2 ?_
  refine r_iadd k_174_695 ?_
  refine r_ialdn (k := i + 2) k_174_696 h0 (Or.inr rfl) (nI_add i 2) (by omega) (by omega) ?_
  refine r_callv3 m_174 k_174_697 cl_19_80 m_162 (by decide) rfl rfl (Nat.le_of_ble_eq_true rfl) (Nat.le_of_ble_eq_true rfl) h61 rfl ?_
  refine hM.mono (fun r hp2 z => ?_)
  obtain ⟨rfl, S2⟩ := z
  refine r_icmp_eq k_174_700 rfl (fun _ => ?_) (fun z => absurd rfl z)
  exact K hp2 S2
set_option maxRecDepth 20000 in
theorem c_174_count {L i : Nat} {xs : Nat → Int32} {hp : hm_H} {Q : Option Value → hm_H → Prop} (hL : L ≤ 2560) (hi : i + 5 ≤ L) (S : hw_S L xs hp) (K : ∀ hp2, hw_S L xs hp2 → hm_T 1000 174 919 [.ref 0, .ref 4, .ref 61, .int (nI i)] [] hp2 Q) : hm_T 1000 174 705 [.ref 0, .ref 4, .ref 61, .int (nI i)] [] hp Q := by
  obtain ⟨h0, fs, h4⟩ := S.at
  refine r_aload_n k_174_705 rfl ?_
  refine r_aload_n k_174_706 rfl ?_
  refine r_iload_n k_174_707 rfl ?_
  refine r_iconst k_174_708 ci_1 ?_
  refine r_iadd k_174_709 ?_
  refine r_ialdn (k := i + 1) k_174_710 h0 (Or.inr rfl) (nI_add i 1) (by omega) (by omega) ?_
  refine r_callv2 m_174 k_174_711 cl_19_81 m_103 (by decide) rfl rfl (Nat.le_of_ble_eq_true rfl) (Nat.le_of_ble_eq_true rfl) h4 rfl ?_
  refine t_count (e := 998) S (fun v hp1 fs2 h0 h61 hM => ?_)
  refine r_aload_n k_174_714 rfl ?_
  refine r_aload_n k_174_715 rfl ?_
  refine r_iload_n k_174_716 rfl ?_
  refine r_iconst k_174_717 ci_1 ?_
  refine r_iadd k_174_718 ?_
  refine r_ialdn (k := i + 1) k_174_719 h0 (Or.inr rfl) (nI_add i 1) (by omega) (by omega) ?_
  refine r_callv2 m_174 k_174_720 cl_19_84 m_163 (by decide) rfl rfl (Nat.le_of_ble_eq_true rfl) (Nat.le_of_ble_eq_true rfl) h61 rfl ?_
  refine hM.mono (fun r hp2 z => ?_)
  obtain ⟨rfl, S2⟩ := z
  refine r_icmp_eq k_174_723 rfl (fun _ => ?_) (fun z => absurd rfl z)
  exact K hp2 S2
set_option maxRecDepth 20000 in
theorem c_174_plan {L i : Nat} {xs : Nat → Int32} {hp : hm_H} {Q : Option Value → hm_H → Prop} (hL : L ≤ 2560) (hi : i + 5 ≤ L) (S : hw_S L xs hp) (K : ∀ hp2, hw_S L xs hp2 → hm_T 1000 174 919 [.ref 0, .ref 4, .ref 61, .int (nI i)] [] hp2 Q) : hm_T 1000 174 728 [.ref 0, .ref 4, .ref 61, .int (nI i)] [] hp Q := by
  obtain ⟨h0, fs, h4⟩ := S.at
  refine r_aload_n k_174_728 rfl ?_
  refine r_aload_n k_174_729 rfl ?_
  refine r_iload_n k_174_730 rfl ?_
  refine r_iconst k_174_731 ci_1 ?_
  refine r_iadd k_174_732 ?_
  refine r_ialdn (k := i + 1) k_174_733 h0 (Or.inr rfl) (nI_add i 1) (by omega) (by omega) ?_
  refine r_callv2 m_174 k_174_734 cl_19_85 m_105 (by decide) rfl rfl (Nat.le_of_ble_eq_true rfl) (Nat.le_of_ble_eq_true rfl) h4 rfl ?_
  refine t_plan (e := 998) S (fun v hp1 fs2 h0 h61 hM => ?_)
  refine r_aload_n k_174_737 rfl ?_
  refine r_aload_n k_174_738 rfl ?_
  refine r_iload_n k_174_739 rfl ?_
  refine r_iconst k_174_740 ci_1 ?_
  refine r_iadd k_174_741 ?_
  refine r_ialdn (k := i + 1) k_174_742 h0 (Or.inr rfl) (nI_add i 1) (by omega) (by omega) ?_
  refine r_callv2 m_174 k_174_743 cl_19_88 m_165 (by decide) rfl rfl (Nat.le_of_ble_eq_true rfl) (Nat.le_of_ble_eq_true rfl) h61 rfl ?_
  refine hM.mono (fun r hp2 z => ?_)
  obtain ⟨rfl, S2⟩ := z
  refine r_icmp_eq k_174_746 rfl (fun _ => ?_) (fun z => absurd rfl z)
  exact K hp2 S2
set_option maxRecDepth 20000 in
theorem c_174_pay {L i : Nat} {xs : Nat → Int32} {hp : hm_H} {Q : Option Value → hm_H → Prop} (hL : L ≤ 2560) (hi : i + 5 ≤ L) (S : hw_S L xs hp) (K : ∀ hp2, hw_S L xs hp2 → hm_T 1000 174 919 [.ref 0, .ref 4, .ref 61, .int (nI i)] [] hp2 Q) : hm_T 1000 174 751 [.ref 0, .ref 4, .ref 61, .int (nI i)] [] hp Q := by
  obtain ⟨h0, fs, h4⟩ := S.at
  refine r_aload_n k_174_751 rfl ?_
  refine r_aload_n k_174_752 rfl ?_
  refine r_iload_n k_174_753 rfl ?_
  refine r_iconst k_174_754 ci_1 ?_
  refine r_iadd k_174_755 ?_
  refine r_ialdn (k := i + 1) k_174_756 h0 (Or.inr rfl) (nI_add i 1) (by omega) (by omega) ?_
  refine r_aload_n k_174_757 rfl ?_
  refine r_iload_n k_174_758 rfl ?_
  refine r_iconst k_174_759 ci_2 ?_
  refine r_iadd k_174_760 ?_
  refine r_ialdn (k := i + 2) k_174_761 h0 (Or.inr rfl) (nI_add i 2) (by omega) (by omega) ?_
  refine r_callv3 m_174 k_174_762 cl_19_89 m_107 (by decide) rfl rfl (Nat.le_of_ble_eq_true rfl) (Nat.le_of_ble_eq_true rfl) h4 rfl ?_
  refine t_pay (e := 997) S (fun v hp1 fs2 h0 h61 hM => ?_)
  refine r_aload_n k_174_765 rfl ?_
  refine r_aload_n k_174_766 rfl ?_
  refine r_iload_n k_174_767 rfl ?_
  refine r_iconst k_174_768 ci_1 ?_
  refine r_iadd k_174_769 ?_
  refine r_ialdn (k := i + 1) k_174_770 h0 (Or.inr rfl) (nI_add i 1) (by omega) (by omega) ?_
  refine r_aload_n k_174_771 rfl ?_
  refine r_iload_n k_174_772 rfl ?_
  refine r_iconst k_174_773 ci_2 ?_
  refine r_iadd k_174_774 ?_
  refine r_ialdn (k := i + 2) k_174_775 h0 (Or.inr rfl) (nI_add i 2) (by omega) (by omega) ?_
  refine r_callv3 m_174 k_174_776 cl_19_92 m_166 (by decide) rfl rfl (Nat.le_of_ble_eq_true rfl) (Nat.le_of_ble_eq_true rfl) h61 rfl ?_
  refine hM.mono (fun r hp2 z => ?_)
  obtain ⟨rfl, S2⟩ := z
  refine r_icmp_eq k_174_779 rfl (fun _ => ?_) (fun z => absurd rfl z)
  exact K hp2 S2
set_option maxRecDepth 20000 in
theorem c_174_rate {L i : Nat} {xs : Nat → Int32} {hp : hm_H} {Q : Option Value → hm_H → Prop} (hL : L ≤ 2560) (hi : i + 5 ≤ L) (S : hw_S L xs hp) (K : ∀ hp2, hw_S L xs hp2 → hm_T 1000 174 919 [.ref 0, .ref 4, .ref 61, .int (nI i)] [] hp2 Q) : hm_T 1000 174 784 [.ref 0, .ref 4, .ref 61, .int (nI i)] [] hp Q := by
  obtain ⟨h0, fs, h4⟩ := S.at
  refine r_aload_n k_174_784 rfl ?_
  refine r_aload_n k_174_785 rfl ?_
  refine r_iload_n k_174_786 rfl ?_
  refine r_iconst k_174_787 ci_1 ?_
  refine r_iadd k_174_788 ?_
  refine r_ialdn (k := i + 1) k_174_789 h0 (Or.inr rfl) (nI_add i 1) (by omega) (by omega) ?_
  refine r_callv2 m_174 k_174_790 cl_19_93 m_109 (by decide) rfl rfl (Nat.le_of_ble_eq_true rfl) (Nat.le_of_ble_eq_true rfl) h4 rfl ?_
  refine t_rate (e := 998) S (fun v hp1 fs2 h0 h61 hM => ?_)
  refine r_aload_n k_174_793 rfl ?_
  refine r_aload_n k_174_794 rfl ?_
  refine r_iload_n k_174_795 rfl ?_
  refine r_iconst k_174_796 ci_1 ?_
  refine r_iadd k_174_797 ?_
  refine r_ialdn (k := i + 1) k_174_798 h0 (Or.inr rfl) (nI_add i 1) (by omega) (by omega) ?_
  refine r_callv2 m_174 k_174_799 cl_19_96 m_168 (by decide) rfl rfl (Nat.le_of_ble_eq_true rfl) (Nat.le_of_ble_eq_true rfl) h61 rfl ?_
  refine hM.mono (fun r hp2 z => ?_)
  obtain ⟨rfl, S2⟩ := z
  refine r_icmp_eq k_174_802 rfl (fun _ => ?_) (fun z => absurd rfl z)
  exact K hp2 S2
set_option maxRecDepth 20000 in
theorem c_174_days {L i : Nat} {xs : Nat → Int32} {hp : hm_H} {Q : Option Value → hm_H → Prop} (hL : L ≤ 2560) (hi : i + 5 ≤ L) (S : hw_S L xs hp) (K : ∀ hp2, hw_S L xs hp2 → hm_T 1000 174 919 [.ref 0, .ref 4, .ref 61, .int (nI i)] [] hp2 Q) : hm_T 1000 174 807 [.ref 0, .ref 4, .ref 61, .int (nI i)] [] hp Q := by
  obtain ⟨h0, fs, h4⟩ := S.at
  refine r_aload_n k_174_807 rfl ?_
  refine r_aload_n k_174_808 rfl ?_
  refine r_iload_n k_174_809 rfl ?_
  refine r_iconst k_174_810 ci_1 ?_
  refine r_iadd k_174_811 ?_
  refine r_ialdn (k := i + 1) k_174_812 h0 (Or.inr rfl) (nI_add i 1) (by omega) (by omega) ?_
  refine r_callv2 m_174 k_174_813 cl_19_97 m_110 (by decide) rfl rfl (Nat.le_of_ble_eq_true rfl) (Nat.le_of_ble_eq_true rfl) h4 rfl ?_
  refine t_days (e := 998) S (fun v hp1 fs2 h0 h61 hM => ?_)
  refine r_aload_n k_174_816 rfl ?_
  refine r_aload_n k_174_817 rfl ?_
  refine r_iload_n k_174_818 rfl ?_
  refine r_iconst k_174_819 ci_1 ?_
  refine r_iadd k_174_820 ?_
  refine r_ialdn (k := i + 1) k_174_821 h0 (Or.inr rfl) (nI_add i 1) (by omega) (by omega) ?_
  refine r_callv2 m_174 k_174_822 cl_19_100 m_169 (by decide) rfl rfl (Nat.le_of_ble_eq_true rfl) (Nat.le_of_ble_eq_true rfl) h61 rfl ?_
  refine hM.mono (fun r hp2 z => ?_)
  obtain ⟨rfl, S2⟩ := z
  refine r_icmp_eq k_174_825 rfl (fun _ => ?_) (fun z => absurd rfl z)
  exact K hp2 S2
set_option maxRecDepth 20000 in
theorem c_174_tie {L i : Nat} {xs : Nat → Int32} {hp : hm_H} {Q : Option Value → hm_H → Prop} (hL : L ≤ 2560) (hi : i + 5 ≤ L) (S : hw_S L xs hp) (K : ∀ hp2, hw_S L xs hp2 → hm_T 1000 174 919 [.ref 0, .ref 4, .ref 61, .int (nI i)] [] hp2 Q) : hm_T 1000 174 830 [.ref 0, .ref 4, .ref 61, .int (nI i)] [] hp Q := by
  obtain ⟨h0, fs, h4⟩ := S.at
  refine r_aload_n k_174_830 rfl ?_
  refine r_aload_n k_174_831 rfl ?_
  refine r_iload_n k_174_832 rfl ?_
  refine r_iconst k_174_833 ci_1 ?_
  refine r_iadd k_174_834 ?_
  refine r_ialdn (k := i + 1) k_174_835 h0 (Or.inr rfl) (nI_add i 1) (by omega) (by omega) ?_
  refine r_aload_n k_174_836 rfl ?_
  refine r_iload_n k_174_837 rfl ?_
  refine r_iconst k_174_838 ci_2 ?_
  refine r_iadd k_174_839 ?_
  refine r_ialdn (k := i + 2) k_174_840 h0 (Or.inr rfl) (nI_add i 2) (by omega) (by omega) ?_
  refine r_callv3 m_174 k_174_841 cl_19_101 m_113 (by decide) rfl rfl (Nat.le_of_ble_eq_true rfl) (Nat.le_of_ble_eq_true rfl) h4 rfl ?_
  refine t_tie (e := 997) S (fun v hp1 fs2 h0 h61 hM => ?_)
  refine r_aload_n k_174_844 rfl ?_
  refine r_aload_n k_174_845 rfl ?_
  refine r_iload_n k_174_846 rfl ?_
  refine r_iconst k_174_847 ci_1 ?_
  refine r_iadd k_174_848 ?_
  refine r_ialdn (k := i + 1) k_174_849 h0 (Or.inr rfl) (nI_add i 1) (by omega) (by omega) ?_
  refine r_aload_n k_174_850 rfl ?_
  refine r_iload_n k_174_851 rfl ?_
  refine r_iconst k_174_852 ci_2 ?_
  refine r_iadd k_174_853 ?_
  refine r_ialdn (k := i + 2) k_174_854 h0 (Or.inr rfl) (nI_add i 2) (by omega) (by omega) ?_
  refine r_callv3 m_174 k_174_855 cl_19_104 m_170 (by decide) rfl rfl (Nat.le_of_ble_eq_true rfl) (Nat.le_of_ble_eq_true rfl) h61 rfl ?_
  refine hM.mono (fun r hp2 z => ?_)
  obtain ⟨rfl, S2⟩ := z
  refine r_icmp_eq k_174_858 rfl (fun _ => ?_) (fun z => absurd rfl z)
  exact K hp2 S2
set_option maxRecDepth 20000 in
theorem c_174_settle {L i : Nat} {xs : Nat → Int32} {hp : hm_H} {Q : Option Value → hm_H → Prop} (hL : L ≤ 2560) (hi : i + 5 ≤ L) (S : hw_S L xs hp) (K : ∀ hp2, hw_S L xs hp2 → hm_T 1000 174 919 [.ref 0, .ref 4, .ref 61, .int (nI i)] [] hp2 Q) : hm_T 1000 174 863 [.ref 0, .ref 4, .ref 61, .int (nI i)] [] hp Q := by
  obtain ⟨h0, fs, h4⟩ := S.at
  refine r_aload_n k_174_863 rfl ?_
  refine r_aload_n k_174_864 rfl ?_
  refine r_iload_n k_174_865 rfl ?_
  refine r_iconst k_174_866 ci_1 ?_
  refine r_iadd k_174_867 ?_
  refine r_ialdn (k := i + 1) k_174_868 h0 (Or.inr rfl) (nI_add i 1) (by omega) (by omega) ?_
  refine r_callv2 m_174 k_174_869 cl_19_105 m_114 (by decide) rfl rfl (Nat.le_of_ble_eq_true rfl) (Nat.le_of_ble_eq_true rfl) h4 rfl ?_
  refine t_settle (e := 997) S (fun v hp1 fs2 h0 h61 hM => ?_)
  refine r_aload_n k_174_872 rfl ?_
  refine r_aload_n k_174_873 rfl ?_
  refine r_iload_n k_174_874 rfl ?_
  refine r_iconst k_174_875 ci_1 ?_
  refine r_iadd k_174_876 ?_
  refine r_ialdn (k := i + 1) k_174_877 h0 (Or.inr rfl) (nI_add i 1) (by omega) (by omega) ?_
  refine r_callv2 m_174 k_174_878 cl_19_108 m_172 (by decide) rfl rfl (Nat.le_of_ble_eq_true rfl) (Nat.le_of_ble_eq_true rfl) h61 rfl ?_
  refine hM.mono (fun r hp2 z => ?_)
  obtain ⟨rfl, S2⟩ := z
  refine r_icmp_eq k_174_881 rfl (fun _ => ?_) (fun z => absurd rfl z)
  exact K hp2 S2
set_option maxRecDepth 20000 in
theorem c_174_planned {L i : Nat} {xs : Nat → Int32} {hp : hm_H} {Q : Option Value → hm_H → Prop} (hL : L ≤ 2560) (hi : i + 5 ≤ L) (S : hw_S L xs hp) (K : ∀ hp2, hw_S L xs hp2 → hm_T 1000 174 919 [.ref 0, .ref 4, .ref 61, .int (nI i)] [] hp2 Q) : hm_T 1000 174 886 [.ref 0, .ref 4, .ref 61, .int (nI i)] [] hp Q := by
  obtain ⟨h0, fs, h4⟩ := S.at
  refine r_aload_n k_174_886 rfl ?_
  refine r_aload_n k_174_887 rfl ?_
  refine r_iload_n k_174_888 rfl ?_
  refine r_iconst k_174_889 ci_1 ?_
  refine r_iadd k_174_890 ?_
  refine r_ialdn (k := i + 1) k_174_891 h0 (Or.inr rfl) (nI_add i 1) (by omega) (by omega) ?_
  refine r_aload_n k_174_892 rfl ?_
  refine r_iload_n k_174_893 rfl ?_
  refine r_iconst k_174_894 ci_2 ?_
  refine r_iadd k_174_895 ?_
  refine r_ialdn (k := i + 2) k_174_896 h0 (Or.inr rfl) (nI_add i 2) (by omega) (by omega) ?_
  refine r_callv3 m_174 k_174_897 cl_19_109 m_116 (by decide) rfl rfl (Nat.le_of_ble_eq_true rfl) (Nat.le_of_ble_eq_true rfl) h4 rfl ?_
  refine t_planned (e := 997) S (fun v hp1 fs2 h0 h61 hM => ?_)
  refine r_aload_n k_174_900 rfl ?_
  refine r_aload_n k_174_901 rfl ?_
  refine r_iload_n k_174_902 rfl ?_
  refine r_iconst k_174_903 ci_1 ?_
  refine r_iadd k_174_904 ?_
  refine r_ialdn (k := i + 1) k_174_905 h0 (Or.inr rfl) (nI_add i 1) (by omega) (by omega) ?_
  refine r_aload_n k_174_906 rfl ?_
  refine r_iload_n k_174_907 rfl ?_
  refine r_iconst k_174_908 ci_2 ?_
  refine r_iadd k_174_909 ?_
  refine r_ialdn (k := i + 2) k_174_910 h0 (Or.inr rfl) (nI_add i 2) (by omega) (by omega) ?_
  refine r_callv3 m_174 k_174_911 cl_19_112 m_173 (by decide) rfl rfl (Nat.le_of_ble_eq_true rfl) (Nat.le_of_ble_eq_true rfl) h61 rfl ?_
  refine hM.mono (fun r hp2 z => ?_)
  obtain ⟨rfl, S2⟩ := z
  refine r_icmp_eq k_174_914 rfl (fun _ => ?_) (fun z => absurd rfl z)
  exact K hp2 S2
