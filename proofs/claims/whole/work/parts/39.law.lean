/-! the law: a call after the other -/
theorem e_sald {xs : Nat → Int32} {L : Nat} {M : xM} {pc : Nat} {lv st : List Value} {G G' : xG} {σ : xS} {Q : Option Value → xS → Prop} {i : Nat} (hd : decode M.2.1 pc = .ok (.iaload, 1)) (hi : i < L) (hL : L < 2147483648) (kk : Ev xs L M (pc + 1) lv (.int (xs i) :: st) G σ G' Q) : Ev xs L M pc lv (.int (nI i) :: .float 0 :: st) G σ G' Q := xe_sald hd (vp_in_nI hi hL) (by rw [nI_clamp (by omega)]; exact kk)
theorem IM.fc {σ t : xS} {A : yA} (h : IM σ A) (f : FC σ t) : IM t A := by
  obtain ⟨a1, a2, a3, a4, a5, a6⟩ := h
  have e : ∀ c, 110 ≤ c → t.1 c = σ.1 c := f.1
  exact ⟨a1.to (by rw [e 110 (by decide)]) (e 114 (by decide)), a2.to (by rw [e 110 (by decide)]) (e 111 (by decide)) (fun k _ => by rw [e 112 (by decide)]) (by rw [e 110 (by decide)]; exact a2.2.2.2), a3.to rfl rfl (by rw [e 110 (by decide)]) (by rw [e 110 (by decide)]) (e 116 (by decide)), a4.to rfl rfl (e 121 (by decide)) (e 122 (by decide)), a5.to (by rw [e 110 (by decide)]) (e 118 (by decide)) (e 119 (by decide)) (e 120 (by decide)), by rw [f.2 110 (by decide)]; exact a6⟩
theorem IC.fm {σ t : xS} {A : yA} (h : IC σ A) (f : FMo σ t) : IC t A := h.q (by rw [f.1 2 (by decide)]) (fun c _ _ c3 => f.1 c (by omega)) (by rw [f.2 1 (by decide)])
theorem cmp_self (x : Int64) : lg_cmp x x = 0 := by
  unfold lg_cmp
  simp
abbrev QL : Option Value → xS → Prop := fun v _ => v = some (.int 1)
/-- behind a call -/
def NX (xs : Nat → Int32) (L i : Nat) : Prop := ∀ (u : xS) (A : yA), IC u A → IM u A → Ev xs L mL_law 994 [.float 0, .ref 1, .ref 110, .int (nI i)] [] GS u GS QL
section LW
variable {xs : Nat → Int32} {L i : Nat} {σ : xS} {A : yA}
theorem LW_write (hi : i + 5 ≤ L) (hL : L < 2147483648) (hc : IC σ A) (hm : IM σ A) (nx : NX xs L i) : Ev xs L mL_law 164 [.float 0, .ref 1, .ref 110, .int (nI i)] [] GS σ GS QL := by
  refine xe_aload_n dL_law_164 rfl ?_
  refine xe_aload_nT dL_law_165 rfl ?_
  refine xe_iload_n dL_law_166 rfl ?_
  refine xe_iconst (v := nI 1) dL_law_167 (by decide) ?_
  first | refine xn_iadd dL_law_168 ?_ | refine xe_iadd dL_law_168 ?_
  refine e_sald dL_law_169 (by omega) (by omega) ?_
  refine e_callV (G := GS) (r := 1) (C_write hc) dL_law_170 kvL_13 gk_1 rfl ?_
  rintro v t ⟨rfl, t1, t2⟩
  refine xe_aload_n dL_law_173 rfl ?_
  refine xe_aload_nT dL_law_174 rfl ?_
  refine xe_iload_n dL_law_175 rfl ?_
  refine xe_iconst (v := nI 1) dL_law_176 (by decide) ?_
  first | refine xn_iadd dL_law_177 ?_ | refine xe_iadd dL_law_177 ?_
  refine e_sald dL_law_178 (by omega) (by omega) ?_
  refine e_callV (G := GS) (r := 110) (M_write (hm.fc t2)) dL_law_179 kvL_17 gk_110 rfl ?_
  rintro v u ⟨rfl, u1, u2⟩
  refine xe_icmp_eq 994 dL_law_182 (by decide) (fun _ => ?_) (fun c => absurd rfl c)
  exact nx u _ (t1.fm u2) u1
theorem LW_wipe (hi : i + 5 ≤ L) (hL : L < 2147483648) (hc : IC σ A) (hm : IM σ A) (nx : NX xs L i) : Ev xs L mL_law 187 [.float 0, .ref 1, .ref 110, .int (nI i)] [] GS σ GS QL := by
  refine xe_aload_n dL_law_187 rfl ?_
  refine e_callV (G := GS) (r := 1) (C_wipe hc) dL_law_188 kvL_18 gk_1 rfl ?_
  rintro v t ⟨rfl, t1, t2⟩
  refine xe_aload_n dL_law_191 rfl ?_
  refine e_callV (G := GS) (r := 110) (M_wipe (hm.fc t2)) dL_law_192 kvL_22 gk_110 rfl ?_
  rintro v u ⟨rfl, u1, u2⟩
  refine xe_icmp_eq 994 dL_law_195 (by decide) (fun _ => ?_) (fun c => absurd rfl c)
  exact nx u _ (t1.fm u2) u1
theorem LW_fault (hi : i + 5 ≤ L) (hL : L < 2147483648) (hc : IC σ A) (hm : IM σ A) (nx : NX xs L i) : Ev xs L mL_law 200 [.float 0, .ref 1, .ref 110, .int (nI i)] [] GS σ GS QL := by
  refine xe_aload_n dL_law_200 rfl ?_
  refine e_callV (G := GS) (r := 1) (C_fault hc) dL_law_201 kvL_23 gk_1 rfl ?_
  rintro v t ⟨rfl, t1, t2⟩
  refine xe_aload_n dL_law_204 rfl ?_
  refine e_callV (G := GS) (r := 110) (M_fault (hm.fc t2)) dL_law_205 kvL_26 gk_110 rfl ?_
  rintro v u ⟨rfl, u1, u2⟩
  refine xe_icmp_eq 994 dL_law_208 (by decide) (fun _ => ?_) (fun c => absurd rfl c)
  exact nx u _ (t1.fm u2) u1
theorem LW_board (hi : i + 5 ≤ L) (hL : L < 2147483648) (hc : IC σ A) (hm : IM σ A) (nx : NX xs L i) : Ev xs L mL_law 213 [.float 0, .ref 1, .ref 110, .int (nI i)] [] GS σ GS QL := by
  refine xe_aload_n dL_law_213 rfl ?_
  refine e_callV (G := GS) (r := 1) (C_board hc) dL_law_214 kvL_27 gk_1 rfl ?_
  rintro v t ⟨rfl, t1, t2⟩
  refine xe_aload_n dL_law_217 rfl ?_
  refine e_callV (G := GS) (r := 110) (M_board (hm.fc t2)) dL_law_218 kvL_30 gk_110 rfl ?_
  rintro v u ⟨rfl, u1, u2⟩
  refine xe_icmp_eq 994 dL_law_221 (by decide) (fun _ => ?_) (fun c => absurd rfl c)
  exact nx u _ (t1.fm u2) u1
theorem LW_thread (hi : i + 5 ≤ L) (hL : L < 2147483648) (hc : IC σ A) (hm : IM σ A) (nx : NX xs L i) : Ev xs L mL_law 226 [.float 0, .ref 1, .ref 110, .int (nI i)] [] GS σ GS QL := by
  refine xe_aload_n dL_law_226 rfl ?_
  refine xe_aload_nT dL_law_227 rfl ?_
  refine xe_iload_n dL_law_228 rfl ?_
  refine xe_iconst (v := nI 1) dL_law_229 (by decide) ?_
  first | refine xn_iadd dL_law_230 ?_ | refine xe_iadd dL_law_230 ?_
  refine e_sald dL_law_231 (by omega) (by omega) ?_
  refine xe_aload_nT dL_law_232 rfl ?_
  refine xe_iload_n dL_law_233 rfl ?_
  refine xe_iconst (v := nI 2) dL_law_234 (by decide) ?_
  first | refine xn_iadd dL_law_235 ?_ | refine xe_iadd dL_law_235 ?_
  refine e_sald dL_law_236 (by omega) (by omega) ?_
  refine e_callV (G := GS) (r := 1) (C_thread hc) dL_law_237 kvL_31 gk_1 rfl ?_
  rintro v t ⟨rfl, t1, t2⟩
  refine xe_aload_n dL_law_240 rfl ?_
  refine xe_aload_nT dL_law_241 rfl ?_
  refine xe_iload_n dL_law_242 rfl ?_
  refine xe_iconst (v := nI 1) dL_law_243 (by decide) ?_
  first | refine xn_iadd dL_law_244 ?_ | refine xe_iadd dL_law_244 ?_
  refine e_sald dL_law_245 (by omega) (by omega) ?_
  refine xe_aload_nT dL_law_246 rfl ?_
  refine xe_iload_n dL_law_247 rfl ?_
  refine xe_iconst (v := nI 2) dL_law_248 (by decide) ?_
  first | refine xn_iadd dL_law_249 ?_ | refine xe_iadd dL_law_249 ?_
  refine e_sald dL_law_250 (by omega) (by omega) ?_
  refine e_callV (G := GS) (r := 110) (M_thread (hm.fc t2)) dL_law_251 kvL_35 gk_110 rfl ?_
  rintro v u ⟨rfl, u1, u2⟩
  refine xe_icmp_eq 994 dL_law_254 (by decide) (fun _ => ?_) (fun c => absurd rfl c)
  exact nx u _ (t1.fm u2) u1
theorem LW_stretch (hi : i + 5 ≤ L) (hL : L < 2147483648) (hc : IC σ A) (hm : IM σ A) (nx : NX xs L i) : Ev xs L mL_law 259 [.float 0, .ref 1, .ref 110, .int (nI i)] [] GS σ GS QL := by
  refine xe_aload_n dL_law_259 rfl ?_
  refine xe_aload_nT dL_law_260 rfl ?_
  refine xe_iload_n dL_law_261 rfl ?_
  refine xe_iconst (v := nI 1) dL_law_262 (by decide) ?_
  first | refine xn_iadd dL_law_263 ?_ | refine xe_iadd dL_law_263 ?_
  refine e_sald dL_law_264 (by omega) (by omega) ?_
  refine xe_aload_nT dL_law_265 rfl ?_
  refine xe_iload_n dL_law_266 rfl ?_
  refine xe_iconst (v := nI 2) dL_law_267 (by decide) ?_
  first | refine xn_iadd dL_law_268 ?_ | refine xe_iadd dL_law_268 ?_
  refine e_sald dL_law_269 (by omega) (by omega) ?_
  refine e_callV (G := GS) (r := 1) (C_stretch hc) dL_law_270 kvL_36 gk_1 rfl ?_
  rintro v t ⟨rfl, t1, t2⟩
  refine xe_aload_n dL_law_273 rfl ?_
  refine xe_aload_nT dL_law_274 rfl ?_
  refine xe_iload_n dL_law_275 rfl ?_
  refine xe_iconst (v := nI 1) dL_law_276 (by decide) ?_
  first | refine xn_iadd dL_law_277 ?_ | refine xe_iadd dL_law_277 ?_
  refine e_sald dL_law_278 (by omega) (by omega) ?_
  refine xe_aload_nT dL_law_279 rfl ?_
  refine xe_iload_n dL_law_280 rfl ?_
  refine xe_iconst (v := nI 2) dL_law_281 (by decide) ?_
  first | refine xn_iadd dL_law_282 ?_ | refine xe_iadd dL_law_282 ?_
  refine e_sald dL_law_283 (by omega) (by omega) ?_
  refine e_callV (G := GS) (r := 110) (M_stretch (hm.fc t2)) dL_law_284 kvL_39 gk_110 rfl ?_
  rintro v u ⟨rfl, u1, u2⟩
  refine xe_icmp_eq 994 dL_law_287 (by decide) (fun _ => ?_) (fun c => absurd rfl c)
  exact nx u _ (t1.fm u2) u1
theorem LW_wind (hi : i + 5 ≤ L) (hL : L < 2147483648) (hc : IC σ A) (hm : IM σ A) (nx : NX xs L i) : Ev xs L mL_law 292 [.float 0, .ref 1, .ref 110, .int (nI i)] [] GS σ GS QL := by
  refine xe_aload_n dL_law_292 rfl ?_
  refine xe_aload_nT dL_law_293 rfl ?_
  refine xe_iload_n dL_law_294 rfl ?_
  refine xe_iconst (v := nI 1) dL_law_295 (by decide) ?_
  first | refine xn_iadd dL_law_296 ?_ | refine xe_iadd dL_law_296 ?_
  refine e_sald dL_law_297 (by omega) (by omega) ?_
  refine xe_aload_nT dL_law_298 rfl ?_
  refine xe_iload_n dL_law_299 rfl ?_
  refine xe_iconst (v := nI 2) dL_law_300 (by decide) ?_
  first | refine xn_iadd dL_law_301 ?_ | refine xe_iadd dL_law_301 ?_
  refine e_sald dL_law_302 (by omega) (by omega) ?_
  refine e_callV (G := GS) (r := 1) (C_wind hc) dL_law_303 kvL_40 gk_1 rfl ?_
  rintro v t ⟨rfl, t1, t2⟩
  refine xe_aload_n dL_law_306 rfl ?_
  refine xe_aload_nT dL_law_307 rfl ?_
  refine xe_iload_n dL_law_308 rfl ?_
  refine xe_iconst (v := nI 1) dL_law_309 (by decide) ?_
  first | refine xn_iadd dL_law_310 ?_ | refine xe_iadd dL_law_310 ?_
  refine e_sald dL_law_311 (by omega) (by omega) ?_
  refine xe_aload_nT dL_law_312 rfl ?_
  refine xe_iload_n dL_law_313 rfl ?_
  refine xe_iconst (v := nI 2) dL_law_314 (by decide) ?_
  first | refine xn_iadd dL_law_315 ?_ | refine xe_iadd dL_law_315 ?_
  refine e_sald dL_law_316 (by omega) (by omega) ?_
  refine e_callV (G := GS) (r := 110) (M_wind (hm.fc t2)) dL_law_317 kvL_43 gk_110 rfl ?_
  rintro v u ⟨rfl, u1, u2⟩
  refine xe_icmp_eq 994 dL_law_320 (by decide) (fun _ => ?_) (fun c => absurd rfl c)
  exact nx u _ (t1.fm u2) u1
theorem LW_unwind (hi : i + 5 ≤ L) (hL : L < 2147483648) (hc : IC σ A) (hm : IM σ A) (nx : NX xs L i) : Ev xs L mL_law 325 [.float 0, .ref 1, .ref 110, .int (nI i)] [] GS σ GS QL := by
  refine xe_aload_n dL_law_325 rfl ?_
  refine xe_aload_nT dL_law_326 rfl ?_
  refine xe_iload_n dL_law_327 rfl ?_
  refine xe_iconst (v := nI 1) dL_law_328 (by decide) ?_
  first | refine xn_iadd dL_law_329 ?_ | refine xe_iadd dL_law_329 ?_
  refine e_sald dL_law_330 (by omega) (by omega) ?_
  refine e_callV (G := GS) (r := 1) (C_unwind hc) dL_law_331 kvL_44 gk_1 rfl ?_
  rintro v t ⟨rfl, t1, t2⟩
  refine xe_aload_n dL_law_334 rfl ?_
  refine xe_aload_nT dL_law_335 rfl ?_
  refine xe_iload_n dL_law_336 rfl ?_
  refine xe_iconst (v := nI 1) dL_law_337 (by decide) ?_
  first | refine xn_iadd dL_law_338 ?_ | refine xe_iadd dL_law_338 ?_
  refine e_sald dL_law_339 (by omega) (by omega) ?_
  refine e_callV (G := GS) (r := 110) (M_unwind (hm.fc t2)) dL_law_340 kvL_47 gk_110 rfl ?_
  rintro v u ⟨rfl, u1, u2⟩
  refine xe_icmp_eq 994 dL_law_343 (by decide) (fun _ => ?_) (fun c => absurd rfl c)
  exact nx u _ (t1.fm u2) u1
theorem LW_cut (hi : i + 5 ≤ L) (hL : L < 2147483648) (hc : IC σ A) (hm : IM σ A) (nx : NX xs L i) : Ev xs L mL_law 348 [.float 0, .ref 1, .ref 110, .int (nI i)] [] GS σ GS QL := by
  refine xe_aload_n dL_law_348 rfl ?_
  refine xe_aload_nT dL_law_349 rfl ?_
  refine xe_iload_n dL_law_350 rfl ?_
  refine xe_iconst (v := nI 1) dL_law_351 (by decide) ?_
  first | refine xn_iadd dL_law_352 ?_ | refine xe_iadd dL_law_352 ?_
  refine e_sald dL_law_353 (by omega) (by omega) ?_
  refine e_callV (G := GS) (r := 1) (C_cut hc) dL_law_354 kvL_48 gk_1 rfl ?_
  rintro v t ⟨rfl, t1, t2⟩
  refine xe_aload_n dL_law_357 rfl ?_
  refine xe_aload_nT dL_law_358 rfl ?_
  refine xe_iload_n dL_law_359 rfl ?_
  refine xe_iconst (v := nI 1) dL_law_360 (by decide) ?_
  first | refine xn_iadd dL_law_361 ?_ | refine xe_iadd dL_law_361 ?_
  refine e_sald dL_law_362 (by omega) (by omega) ?_
  refine e_callV (G := GS) (r := 110) (M_cut (hm.fc t2)) dL_law_363 kvL_51 gk_110 rfl ?_
  rintro v u ⟨rfl, u1, u2⟩
  refine xe_icmp_eq 994 dL_law_366 (by decide) (fun _ => ?_) (fun c => absurd rfl c)
  exact nx u _ (t1.fm u2) u1
theorem LW_turn (hi : i + 5 ≤ L) (hL : L < 2147483648) (hc : IC σ A) (hm : IM σ A) (nx : NX xs L i) : Ev xs L mL_law 371 [.float 0, .ref 1, .ref 110, .int (nI i)] [] GS σ GS QL := by
  refine xe_aload_n dL_law_371 rfl ?_
  refine e_callV (G := GS) (r := 1) (C_turn hc) dL_law_372 kvL_52 gk_1 rfl ?_
  rintro v t ⟨rfl, t1, t2⟩
  refine xe_aload_n dL_law_375 rfl ?_
  refine e_callV (G := GS) (r := 110) (M_turn (hm.fc t2)) dL_law_376 kvL_55 gk_110 rfl ?_
  rintro v u ⟨rfl, u1, u2⟩
  refine xe_icmp_eq 994 dL_law_379 (by decide) (fun _ => ?_) (fun c => absurd rfl c)
  exact nx u _ (t1.fm u2) u1
theorem LW_behind (hi : i + 5 ≤ L) (hL : L < 2147483648) (hc : IC σ A) (hm : IM σ A) (nx : NX xs L i) : Ev xs L mL_law 384 [.float 0, .ref 1, .ref 110, .int (nI i)] [] GS σ GS QL := by
  refine xe_aload_n dL_law_384 rfl ?_
  refine e_callV (G := GS) (r := 1) (C_behind hc) dL_law_385 kvL_56 gk_1 rfl ?_
  rintro v t ⟨rfl, t1, t2⟩
  refine xe_aload_n dL_law_388 rfl ?_
  refine e_callV (G := GS) (r := 110) (M_behind (hm.fc t2)) dL_law_389 kvL_59 gk_110 rfl ?_
  rintro v u ⟨rfl, u1, u2⟩
  refine xe_icmp_eq 994 dL_law_392 (by decide) (fun _ => ?_) (fun c => absurd rfl c)
  exact nx u _ (t1.fm u2) u1
theorem LW_undo (hi : i + 5 ≤ L) (hL : L < 2147483648) (hc : IC σ A) (hm : IM σ A) (nx : NX xs L i) : Ev xs L mL_law 397 [.float 0, .ref 1, .ref 110, .int (nI i)] [] GS σ GS QL := by
  refine xe_aload_n dL_law_397 rfl ?_
  refine e_callV (G := GS) (r := 1) (C_undo hc) dL_law_398 kvL_60 gk_1 rfl ?_
  rintro v t ⟨rfl, t1, t2⟩
  refine xe_aload_n dL_law_401 rfl ?_
  refine e_callV (G := GS) (r := 110) (M_undo (hm.fc t2)) dL_law_402 kvL_63 gk_110 rfl ?_
  rintro v u ⟨rfl, u1, u2⟩
  refine xe_icmp_eq 994 dL_law_405 (by decide) (fun _ => ?_) (fun c => absurd rfl c)
  exact nx u _ (t1.fm u2) u1
theorem LW_crossings (hi : i + 5 ≤ L) (hL : L < 2147483648) (hc : IC σ A) (hm : IM σ A) (nx : NX xs L i) : Ev xs L mL_law 410 [.float 0, .ref 1, .ref 110, .int (nI i)] [] GS σ GS QL := by
  refine xe_aload_n dL_law_410 rfl ?_
  refine xe_aload_nT dL_law_411 rfl ?_
  refine xe_iload_n dL_law_412 rfl ?_
  refine xe_iconst (v := nI 1) dL_law_413 (by decide) ?_
  first | refine xn_iadd dL_law_414 ?_ | refine xe_iadd dL_law_414 ?_
  refine e_sald dL_law_415 (by omega) (by omega) ?_
  refine xe_aload_nT dL_law_416 rfl ?_
  refine xe_iload_n dL_law_417 rfl ?_
  refine xe_iconst (v := nI 2) dL_law_418 (by decide) ?_
  first | refine xn_iadd dL_law_419 ?_ | refine xe_iadd dL_law_419 ?_
  refine e_sald dL_law_420 (by omega) (by omega) ?_
  refine e_callV (G := GS) (r := 1) (C_crossings hc) dL_law_421 kvL_64 gk_1 rfl ?_
  rintro v t ⟨rfl, t1, t2⟩
  refine xe_aload_n dL_law_424 rfl ?_
  refine xe_aload_nT dL_law_425 rfl ?_
  refine xe_iload_n dL_law_426 rfl ?_
  refine xe_iconst (v := nI 1) dL_law_427 (by decide) ?_
  first | refine xn_iadd dL_law_428 ?_ | refine xe_iadd dL_law_428 ?_
  refine e_sald dL_law_429 (by omega) (by omega) ?_
  refine xe_aload_nT dL_law_430 rfl ?_
  refine xe_iload_n dL_law_431 rfl ?_
  refine xe_iconst (v := nI 2) dL_law_432 (by decide) ?_
  first | refine xn_iadd dL_law_433 ?_ | refine xe_iadd dL_law_433 ?_
  refine e_sald dL_law_434 (by omega) (by omega) ?_
  refine e_callV (G := GS) (r := 110) (M_crossings (hm.fc t2)) dL_law_435 kvL_67 gk_110 rfl ?_
  rintro v u ⟨rfl, u1, u2⟩
  refine xe_icmp_eq 994 dL_law_438 (by decide) (fun _ => ?_) (fun c => absurd rfl c)
  exact nx u _ (t1.fm u2) u1
theorem LW_parts (hi : i + 5 ≤ L) (hL : L < 2147483648) (hc : IC σ A) (hm : IM σ A) (nx : NX xs L i) : Ev xs L mL_law 443 [.float 0, .ref 1, .ref 110, .int (nI i)] [] GS σ GS QL := by
  refine xe_aload_n dL_law_443 rfl ?_
  refine e_callV (G := GS) (r := 1) (C_parts hc) dL_law_444 kvL_68 gk_1 rfl ?_
  rintro v t ⟨rfl, t1, t2⟩
  refine xe_aload_n dL_law_447 rfl ?_
  refine e_callV (G := GS) (r := 110) (M_parts (hm.fc t2)) dL_law_448 kvL_71 gk_110 rfl ?_
  rintro v u ⟨rfl, u1, u2⟩
  refine xe_icmp_eq 994 dL_law_451 (by decide) (fun _ => ?_) (fun c => absurd rfl c)
  exact nx u _ (t1.fm u2) u1
theorem LW_strokes (hi : i + 5 ≤ L) (hL : L < 2147483648) (hc : IC σ A) (hm : IM σ A) (nx : NX xs L i) : Ev xs L mL_law 456 [.float 0, .ref 1, .ref 110, .int (nI i)] [] GS σ GS QL := by
  refine xe_aload_n dL_law_456 rfl ?_
  refine e_callV (G := GS) (r := 1) (C_strokes hc) dL_law_457 kvL_72 gk_1 rfl ?_
  rintro v t ⟨rfl, t1, t2⟩
  refine xe_aload_n dL_law_460 rfl ?_
  refine e_callV (G := GS) (r := 110) (M_strokes (hm.fc t2)) dL_law_461 kvL_75 gk_110 rfl ?_
  rintro v u ⟨rfl, u1, u2⟩
  refine xe_icmp_eq 994 dL_law_464 (by decide) (fun _ => ?_) (fun c => absurd rfl c)
  exact nx u _ (t1.fm u2) u1
theorem LW_next (hi : i + 5 ≤ L) (hL : L < 2147483648) (hc : IC σ A) (hm : IM σ A) (nx : NX xs L i) : Ev xs L mL_law 469 [.float 0, .ref 1, .ref 110, .int (nI i)] [] GS σ GS QL := by
  refine xe_aload_n dL_law_469 rfl ?_
  refine xe_aload_nT dL_law_470 rfl ?_
  refine xe_iload_n dL_law_471 rfl ?_
  refine xe_iconst (v := nI 1) dL_law_472 (by decide) ?_
  first | refine xn_iadd dL_law_473 ?_ | refine xe_iadd dL_law_473 ?_
  refine e_sald dL_law_474 (by omega) (by omega) ?_
  refine xe_aload_nT dL_law_475 rfl ?_
  refine xe_iload_n dL_law_476 rfl ?_
  refine xe_iconst (v := nI 2) dL_law_477 (by decide) ?_
  first | refine xn_iadd dL_law_478 ?_ | refine xe_iadd dL_law_478 ?_
  refine e_sald dL_law_479 (by omega) (by omega) ?_
  refine e_callV (G := GS) (r := 1) (C_next hc) dL_law_480 kvL_76 gk_1 rfl ?_
  rintro v t ⟨rfl, t1, t2⟩
  refine xe_aload_n dL_law_483 rfl ?_
  refine xe_aload_nT dL_law_484 rfl ?_
  refine xe_iload_n dL_law_485 rfl ?_
  refine xe_iconst (v := nI 1) dL_law_486 (by decide) ?_
  first | refine xn_iadd dL_law_487 ?_ | refine xe_iadd dL_law_487 ?_
  refine e_sald dL_law_488 (by omega) (by omega) ?_
  refine xe_aload_nT dL_law_489 rfl ?_
  refine xe_iload_n dL_law_490 rfl ?_
  refine xe_iconst (v := nI 2) dL_law_491 (by decide) ?_
  first | refine xn_iadd dL_law_492 ?_ | refine xe_iadd dL_law_492 ?_
  refine e_sald dL_law_493 (by omega) (by omega) ?_
  refine e_callV (G := GS) (r := 110) (M_next (hm.fc t2)) dL_law_494 kvL_79 gk_110 rfl ?_
  rintro v u ⟨rfl, u1, u2⟩
  refine xe_icmp_eq 994 dL_law_497 (by decide) (fun _ => ?_) (fun c => absurd rfl c)
  exact nx u _ (t1.fm u2) u1
theorem LW_star (hi : i + 5 ≤ L) (hL : L < 2147483648) (hc : IC σ A) (hm : IM σ A) (nx : NX xs L i) : Ev xs L mL_law 502 [.float 0, .ref 1, .ref 110, .int (nI i)] [] GS σ GS QL := by
  refine xe_aload_n dL_law_502 rfl ?_
  refine xe_aload_nT dL_law_503 rfl ?_
  refine xe_iload_n dL_law_504 rfl ?_
  refine xe_iconst (v := nI 1) dL_law_505 (by decide) ?_
  first | refine xn_iadd dL_law_506 ?_ | refine xe_iadd dL_law_506 ?_
  refine e_sald dL_law_507 (by omega) (by omega) ?_
  refine xe_aload_nT dL_law_508 rfl ?_
  refine xe_iload_n dL_law_509 rfl ?_
  refine xe_iconst (v := nI 2) dL_law_510 (by decide) ?_
  first | refine xn_iadd dL_law_511 ?_ | refine xe_iadd dL_law_511 ?_
  refine e_sald dL_law_512 (by omega) (by omega) ?_
  refine xe_aload_nT dL_law_513 rfl ?_
  refine xe_iload_n dL_law_514 rfl ?_
  refine xe_iconst (v := nI 3) dL_law_515 (by decide) ?_
  first | refine xn_iadd dL_law_516 ?_ | refine xe_iadd dL_law_516 ?_
  refine e_sald dL_law_517 (by omega) (by omega) ?_
  refine xe_aload_nT dL_law_518 rfl ?_
  refine xe_iload_n dL_law_519 rfl ?_
  refine xe_iconst (v := nI 4) dL_law_520 (by decide) ?_
  first | refine xn_iadd dL_law_521 ?_ | refine xe_iadd dL_law_521 ?_
  refine e_sald dL_law_522 (by omega) (by omega) ?_
  refine e_callV (G := GS) (r := 1) (C_star hc) dL_law_523 kvL_80 gk_1 rfl ?_
  rintro v t ⟨rfl, t1, t2⟩
  refine xe_aload_n dL_law_526 rfl ?_
  refine xe_aload_nT dL_law_527 rfl ?_
  refine xe_iload_n dL_law_528 rfl ?_
  refine xe_iconst (v := nI 1) dL_law_529 (by decide) ?_
  first | refine xn_iadd dL_law_530 ?_ | refine xe_iadd dL_law_530 ?_
  refine e_sald dL_law_531 (by omega) (by omega) ?_
  refine xe_aload_nT dL_law_532 rfl ?_
  refine xe_iload_n dL_law_533 rfl ?_
  refine xe_iconst (v := nI 2) dL_law_534 (by decide) ?_
  first | refine xn_iadd dL_law_535 ?_ | refine xe_iadd dL_law_535 ?_
  refine e_sald dL_law_536 (by omega) (by omega) ?_
  refine xe_aload_nT dL_law_537 rfl ?_
  refine xe_iload_n dL_law_538 rfl ?_
  refine xe_iconst (v := nI 3) dL_law_539 (by decide) ?_
  first | refine xn_iadd dL_law_540 ?_ | refine xe_iadd dL_law_540 ?_
  refine e_sald dL_law_541 (by omega) (by omega) ?_
  refine xe_aload_nT dL_law_542 rfl ?_
  refine xe_iload_n dL_law_543 rfl ?_
  refine xe_iconst (v := nI 4) dL_law_544 (by decide) ?_
  first | refine xn_iadd dL_law_545 ?_ | refine xe_iadd dL_law_545 ?_
  refine e_sald dL_law_546 (by omega) (by omega) ?_
  refine e_callV (G := GS) (r := 110) (M_star (hm.fc t2)) dL_law_547 kvL_84 gk_110 rfl ?_
  rintro v u ⟨rfl, u1, u2⟩
  refine xe_icmp_eq 994 dL_law_550 (by decide) (fun _ => ?_) (fun c => absurd rfl c)
  exact nx u _ (t1.fm u2) u1
theorem LW_judge (hi : i + 5 ≤ L) (hL : L < 2147483648) (hc : IC σ A) (hm : IM σ A) (nx : NX xs L i) : Ev xs L mL_law 555 [.float 0, .ref 1, .ref 110, .int (nI i)] [] GS σ GS QL := by
  refine xe_aload_n dL_law_555 rfl ?_
  refine xe_aload_nT dL_law_556 rfl ?_
  refine xe_iload_n dL_law_557 rfl ?_
  refine xe_iconst (v := nI 1) dL_law_558 (by decide) ?_
  first | refine xn_iadd dL_law_559 ?_ | refine xe_iadd dL_law_559 ?_
  refine e_sald dL_law_560 (by omega) (by omega) ?_
  refine xe_aload_nT dL_law_561 rfl ?_
  refine xe_iload_n dL_law_562 rfl ?_
  refine xe_iconst (v := nI 2) dL_law_563 (by decide) ?_
  first | refine xn_iadd dL_law_564 ?_ | refine xe_iadd dL_law_564 ?_
  refine e_sald dL_law_565 (by omega) (by omega) ?_
  refine xe_i2l dL_law_566 ?_
  refine xe_bipush (v := nI 32) dL_law_567 (by decide) ?_
  refine xe_lshl dL_law_569 ?_
  refine xe_aload_nT dL_law_570 rfl ?_
  refine xe_iload_n dL_law_571 rfl ?_
  refine xe_iconst (v := nI 3) dL_law_572 (by decide) ?_
  first | refine xn_iadd dL_law_573 ?_ | refine xe_iadd dL_law_573 ?_
  refine e_sald dL_law_574 (by omega) (by omega) ?_
  refine xe_i2l dL_law_575 ?_
  refine xe_ldc2 dL_law_576 gw1194 ?_
  refine xe_land dL_law_579 ?_
  refine xe_lor dL_law_580 ?_
  refine e_callV (G := GS) (r := 1) (C_judge hc) dL_law_581 kvL_87 gk_1 rfl ?_
  rintro v t ⟨rfl, t1, t2⟩
  refine xe_aload_n dL_law_584 rfl ?_
  refine xe_aload_nT dL_law_585 rfl ?_
  refine xe_iload_n dL_law_586 rfl ?_
  refine xe_iconst (v := nI 1) dL_law_587 (by decide) ?_
  first | refine xn_iadd dL_law_588 ?_ | refine xe_iadd dL_law_588 ?_
  refine e_sald dL_law_589 (by omega) (by omega) ?_
  refine xe_aload_nT dL_law_590 rfl ?_
  refine xe_iload_n dL_law_591 rfl ?_
  refine xe_iconst (v := nI 2) dL_law_592 (by decide) ?_
  first | refine xn_iadd dL_law_593 ?_ | refine xe_iadd dL_law_593 ?_
  refine e_sald dL_law_594 (by omega) (by omega) ?_
  refine xe_i2l dL_law_595 ?_
  refine xe_bipush (v := nI 32) dL_law_596 (by decide) ?_
  refine xe_lshl dL_law_598 ?_
  refine xe_aload_nT dL_law_599 rfl ?_
  refine xe_iload_n dL_law_600 rfl ?_
  refine xe_iconst (v := nI 3) dL_law_601 (by decide) ?_
  first | refine xn_iadd dL_law_602 ?_ | refine xe_iadd dL_law_602 ?_
  refine e_sald dL_law_603 (by omega) (by omega) ?_
  refine xe_i2l dL_law_604 ?_
  refine xe_ldc2 dL_law_605 gw1194 ?_
  refine xe_land dL_law_608 ?_
  refine xe_lor dL_law_609 ?_
  refine e_callV (G := GS) (r := 110) (M_judge (hm.fc t2)) dL_law_610 kvL_91 gk_110 rfl ?_
  rintro v u ⟨rfl, u1, u2⟩
  refine xe_icmp_eq 994 dL_law_613 (by decide) (fun _ => ?_) (fun c => absurd rfl c)
  exact nx u _ (t1.fm u2) u1
theorem LW_see (hi : i + 5 ≤ L) (hL : L < 2147483648) (hc : IC σ A) (hm : IM σ A) (nx : NX xs L i) : Ev xs L mL_law 618 [.float 0, .ref 1, .ref 110, .int (nI i)] [] GS σ GS QL := by
  refine xe_aload_n dL_law_618 rfl ?_
  refine xe_aload_nT dL_law_619 rfl ?_
  refine xe_iload_n dL_law_620 rfl ?_
  refine xe_iconst (v := nI 1) dL_law_621 (by decide) ?_
  first | refine xn_iadd dL_law_622 ?_ | refine xe_iadd dL_law_622 ?_
  refine e_sald dL_law_623 (by omega) (by omega) ?_
  refine xe_aload_nT dL_law_624 rfl ?_
  refine xe_iload_n dL_law_625 rfl ?_
  refine xe_iconst (v := nI 2) dL_law_626 (by decide) ?_
  first | refine xn_iadd dL_law_627 ?_ | refine xe_iadd dL_law_627 ?_
  refine e_sald dL_law_628 (by omega) (by omega) ?_
  refine xe_aload_nT dL_law_629 rfl ?_
  refine xe_iload_n dL_law_630 rfl ?_
  refine xe_iconst (v := nI 3) dL_law_631 (by decide) ?_
  first | refine xn_iadd dL_law_632 ?_ | refine xe_iadd dL_law_632 ?_
  refine e_sald dL_law_633 (by omega) (by omega) ?_
  refine e_callV (G := GS) (r := 1) (C_see hc) dL_law_634 kvL_92 gk_1 rfl ?_
  rintro v t ⟨rfl, t1, t2⟩
  refine xe_aload_n dL_law_637 rfl ?_
  refine xe_aload_nT dL_law_638 rfl ?_
  refine xe_iload_n dL_law_639 rfl ?_
  refine xe_iconst (v := nI 1) dL_law_640 (by decide) ?_
  first | refine xn_iadd dL_law_641 ?_ | refine xe_iadd dL_law_641 ?_
  refine e_sald dL_law_642 (by omega) (by omega) ?_
  refine xe_aload_nT dL_law_643 rfl ?_
  refine xe_iload_n dL_law_644 rfl ?_
  refine xe_iconst (v := nI 2) dL_law_645 (by decide) ?_
  first | refine xn_iadd dL_law_646 ?_ | refine xe_iadd dL_law_646 ?_
  refine e_sald dL_law_647 (by omega) (by omega) ?_
  refine xe_aload_nT dL_law_648 rfl ?_
  refine xe_iload_n dL_law_649 rfl ?_
  refine xe_iconst (v := nI 3) dL_law_650 (by decide) ?_
  first | refine xn_iadd dL_law_651 ?_ | refine xe_iadd dL_law_651 ?_
  refine e_sald dL_law_652 (by omega) (by omega) ?_
  refine e_callV (G := GS) (r := 110) (M_see (hm.fc t2)) dL_law_653 kvL_96 gk_110 rfl ?_
  rintro v u ⟨rfl, u1, u2⟩
  refine xe_icmp_eq 994 dL_law_656 (by decide) (fun _ => ?_) (fun c => absurd rfl c)
  exact nx u _ (t1.fm u2) u1
theorem LW_unsee (hi : i + 5 ≤ L) (hL : L < 2147483648) (hc : IC σ A) (hm : IM σ A) (nx : NX xs L i) : Ev xs L mL_law 661 [.float 0, .ref 1, .ref 110, .int (nI i)] [] GS σ GS QL := by
  refine xe_aload_n dL_law_661 rfl ?_
  refine e_callV (G := GS) (r := 1) (C_unsee hc) dL_law_662 kvL_97 gk_1 rfl ?_
  rintro v t ⟨rfl, t1, t2⟩
  refine xe_aload_n dL_law_665 rfl ?_
  refine e_callV (G := GS) (r := 110) (M_unsee (hm.fc t2)) dL_law_666 kvL_100 gk_110 rfl ?_
  rintro v u ⟨rfl, u1, u2⟩
  refine xe_icmp_eq 994 dL_law_669 (by decide) (fun _ => ?_) (fun c => absurd rfl c)
  exact nx u _ (t1.fm u2) u1
theorem LW_stars (hi : i + 5 ≤ L) (hL : L < 2147483648) (hc : IC σ A) (hm : IM σ A) (nx : NX xs L i) : Ev xs L mL_law 674 [.float 0, .ref 1, .ref 110, .int (nI i)] [] GS σ GS QL := by
  refine xe_aload_n dL_law_674 rfl ?_
  refine xe_aload_nT dL_law_675 rfl ?_
  refine xe_iload_n dL_law_676 rfl ?_
  refine xe_iconst (v := nI 1) dL_law_677 (by decide) ?_
  first | refine xn_iadd dL_law_678 ?_ | refine xe_iadd dL_law_678 ?_
  refine e_sald dL_law_679 (by omega) (by omega) ?_
  refine e_callV (G := GS) (r := 1) (C_stars hc) dL_law_680 kvL_101 gk_1 rfl ?_
  rintro v t ⟨rfl, t1, t2⟩
  refine xe_aload_n dL_law_683 rfl ?_
  refine xe_aload_nT dL_law_684 rfl ?_
  refine xe_iload_n dL_law_685 rfl ?_
  refine xe_iconst (v := nI 1) dL_law_686 (by decide) ?_
  first | refine xn_iadd dL_law_687 ?_ | refine xe_iadd dL_law_687 ?_
  refine e_sald dL_law_688 (by omega) (by omega) ?_
  refine e_callV (G := GS) (r := 110) (M_stars (hm.fc t2)) dL_law_689 kvL_104 gk_110 rfl ?_
  rintro v u ⟨rfl, u1, u2⟩
  refine xe_icmp_eq 994 dL_law_692 (by decide) (fun _ => ?_) (fun c => absurd rfl c)
  exact nx u _ (t1.fm u2) u1
theorem LW_share (hi : i + 5 ≤ L) (hL : L < 2147483648) (hc : IC σ A) (hm : IM σ A) (nx : NX xs L i) : Ev xs L mL_law 697 [.float 0, .ref 1, .ref 110, .int (nI i)] [] GS σ GS QL := by
  refine xe_aload_n dL_law_697 rfl ?_
  refine xe_aload_nT dL_law_698 rfl ?_
  refine xe_iload_n dL_law_699 rfl ?_
  refine xe_iconst (v := nI 1) dL_law_700 (by decide) ?_
  first | refine xn_iadd dL_law_701 ?_ | refine xe_iadd dL_law_701 ?_
  refine e_sald dL_law_702 (by omega) (by omega) ?_
  refine xe_aload_nT dL_law_703 rfl ?_
  refine xe_iload_n dL_law_704 rfl ?_
  refine xe_iconst (v := nI 2) dL_law_705 (by decide) ?_
  first | refine xn_iadd dL_law_706 ?_ | refine xe_iadd dL_law_706 ?_
  refine e_sald dL_law_707 (by omega) (by omega) ?_
  refine xe_if_eq 715 dL_law_708 (by decide) (fun cb => ?_) (fun cb => ?_)
  · refine xe_iconst (v := nI 0) dL_law_715 (by decide) ?_
    refine e_callV (G := GS) (r := 1) (C_share (u := false) hc) dL_law_716 kvL_105 gk_1 rfl ?_
    rintro v t ⟨rfl, t1, t2⟩
    refine xe_aload_n dL_law_719 rfl ?_
    refine xe_aload_nT dL_law_720 rfl ?_
    refine xe_iload_n dL_law_721 rfl ?_
    refine xe_iconst (v := nI 1) dL_law_722 (by decide) ?_
    first | refine xn_iadd dL_law_723 ?_ | refine xe_iadd dL_law_723 ?_
    refine e_sald dL_law_724 (by omega) (by omega) ?_
    refine xe_aload_nT dL_law_725 rfl ?_
    refine xe_iload_n dL_law_726 rfl ?_
    refine xe_iconst (v := nI 2) dL_law_727 (by decide) ?_
    first | refine xn_iadd dL_law_728 ?_ | refine xe_iadd dL_law_728 ?_
    refine e_sald dL_law_729 (by omega) (by omega) ?_
    refine xe_if_eq 737 dL_law_730 (by decide) (fun _ => ?_) (fun c => absurd cb c)
    refine xe_iconst (v := nI 0) dL_law_737 (by decide) ?_
    refine e_callV (G := GS) (r := 110) (M_share (u := false) (hm.fc t2)) dL_law_738 kvL_109 gk_110 rfl ?_
    rintro v u ⟨rfl, u1, u2⟩
    refine xe_icmp_eq 994 dL_law_741 (by decide) (fun _ => ?_) (fun c => absurd rfl c)
    exact nx u _ (t1.fm u2) u1
  · refine xe_iconst (v := nI 1) dL_law_711 (by decide) ?_
    refine xe_goto 716 dL_law_712 (by decide) ?_
    refine e_callV (G := GS) (r := 1) (C_share (u := true) hc) dL_law_716 kvL_105 gk_1 rfl ?_
    rintro v t ⟨rfl, t1, t2⟩
    refine xe_aload_n dL_law_719 rfl ?_
    refine xe_aload_nT dL_law_720 rfl ?_
    refine xe_iload_n dL_law_721 rfl ?_
    refine xe_iconst (v := nI 1) dL_law_722 (by decide) ?_
    first | refine xn_iadd dL_law_723 ?_ | refine xe_iadd dL_law_723 ?_
    refine e_sald dL_law_724 (by omega) (by omega) ?_
    refine xe_aload_nT dL_law_725 rfl ?_
    refine xe_iload_n dL_law_726 rfl ?_
    refine xe_iconst (v := nI 2) dL_law_727 (by decide) ?_
    first | refine xn_iadd dL_law_728 ?_ | refine xe_iadd dL_law_728 ?_
    refine e_sald dL_law_729 (by omega) (by omega) ?_
    refine xe_if_eq 737 dL_law_730 (by decide) (fun c => absurd c cb) (fun _ => ?_)
    refine xe_iconst (v := nI 1) dL_law_733 (by decide) ?_
    refine xe_goto 738 dL_law_734 (by decide) ?_
    refine e_callV (G := GS) (r := 110) (M_share (u := true) (hm.fc t2)) dL_law_738 kvL_109 gk_110 rfl ?_
    rintro v u ⟨rfl, u1, u2⟩
    refine xe_icmp_eq 994 dL_law_741 (by decide) (fun _ => ?_) (fun c => absurd rfl c)
    exact nx u _ (t1.fm u2) u1
theorem LW_rests (hi : i + 5 ≤ L) (hL : L < 2147483648) (hc : IC σ A) (hm : IM σ A) (nx : NX xs L i) : Ev xs L mL_law 746 [.float 0, .ref 1, .ref 110, .int (nI i)] [] GS σ GS QL := by
  refine xe_aload_n dL_law_746 rfl ?_
  refine xe_aload_nT dL_law_747 rfl ?_
  refine xe_iload_n dL_law_748 rfl ?_
  refine xe_iconst (v := nI 1) dL_law_749 (by decide) ?_
  first | refine xn_iadd dL_law_750 ?_ | refine xe_iadd dL_law_750 ?_
  refine e_sald dL_law_751 (by omega) (by omega) ?_
  refine xe_aload_nT dL_law_752 rfl ?_
  refine xe_iload_n dL_law_753 rfl ?_
  refine xe_iconst (v := nI 2) dL_law_754 (by decide) ?_
  first | refine xn_iadd dL_law_755 ?_ | refine xe_iadd dL_law_755 ?_
  refine e_sald dL_law_756 (by omega) (by omega) ?_
  refine xe_aload_nT dL_law_757 rfl ?_
  refine xe_iload_n dL_law_758 rfl ?_
  refine xe_iconst (v := nI 3) dL_law_759 (by decide) ?_
  first | refine xn_iadd dL_law_760 ?_ | refine xe_iadd dL_law_760 ?_
  refine e_sald dL_law_761 (by omega) (by omega) ?_
  refine e_callV (G := GS) (r := 1) (C_rests hc) dL_law_762 kvL_110 gk_1 rfl ?_
  rintro v t ⟨rfl, t1, t2⟩
  refine xe_aload_n dL_law_765 rfl ?_
  refine xe_aload_nT dL_law_766 rfl ?_
  refine xe_iload_n dL_law_767 rfl ?_
  refine xe_iconst (v := nI 1) dL_law_768 (by decide) ?_
  first | refine xn_iadd dL_law_769 ?_ | refine xe_iadd dL_law_769 ?_
  refine e_sald dL_law_770 (by omega) (by omega) ?_
  refine xe_aload_nT dL_law_771 rfl ?_
  refine xe_iload_n dL_law_772 rfl ?_
  refine xe_iconst (v := nI 2) dL_law_773 (by decide) ?_
  first | refine xn_iadd dL_law_774 ?_ | refine xe_iadd dL_law_774 ?_
  refine e_sald dL_law_775 (by omega) (by omega) ?_
  refine xe_aload_nT dL_law_776 rfl ?_
  refine xe_iload_n dL_law_777 rfl ?_
  refine xe_iconst (v := nI 3) dL_law_778 (by decide) ?_
  first | refine xn_iadd dL_law_779 ?_ | refine xe_iadd dL_law_779 ?_
  refine e_sald dL_law_780 (by omega) (by omega) ?_
  refine e_callV (G := GS) (r := 110) (M_rests (hm.fc t2)) dL_law_781 kvL_113 gk_110 rfl ?_
  rintro v u ⟨rfl, u1, u2⟩
  refine xe_icmp_eq 994 dL_law_784 (by decide) (fun _ => ?_) (fun c => absurd rfl c)
  exact nx u _ (t1.fm u2) u1
theorem LW_snaps (hi : i + 5 ≤ L) (hL : L < 2147483648) (hc : IC σ A) (hm : IM σ A) (nx : NX xs L i) : Ev xs L mL_law 789 [.float 0, .ref 1, .ref 110, .int (nI i)] [] GS σ GS QL := by
  refine xe_aload_n dL_law_789 rfl ?_
  refine xe_aload_nT dL_law_790 rfl ?_
  refine xe_iload_n dL_law_791 rfl ?_
  refine xe_iconst (v := nI 1) dL_law_792 (by decide) ?_
  first | refine xn_iadd dL_law_793 ?_ | refine xe_iadd dL_law_793 ?_
  refine e_sald dL_law_794 (by omega) (by omega) ?_
  refine xe_aload_nT dL_law_795 rfl ?_
  refine xe_iload_n dL_law_796 rfl ?_
  refine xe_iconst (v := nI 2) dL_law_797 (by decide) ?_
  first | refine xn_iadd dL_law_798 ?_ | refine xe_iadd dL_law_798 ?_
  refine e_sald dL_law_799 (by omega) (by omega) ?_
  refine xe_aload_nT dL_law_800 rfl ?_
  refine xe_iload_n dL_law_801 rfl ?_
  refine xe_iconst (v := nI 3) dL_law_802 (by decide) ?_
  first | refine xn_iadd dL_law_803 ?_ | refine xe_iadd dL_law_803 ?_
  refine e_sald dL_law_804 (by omega) (by omega) ?_
  refine xe_if_eq 812 dL_law_805 (by decide) (fun cb => ?_) (fun cb => ?_)
  · refine xe_iconst (v := nI 0) dL_law_812 (by decide) ?_
    refine e_callV (G := GS) (r := 1) (C_snaps (u := false) hc) dL_law_813 kvL_114 gk_1 rfl ?_
    rintro v t ⟨rfl, t1, t2⟩
    refine xe_aload_n dL_law_816 rfl ?_
    refine xe_aload_nT dL_law_817 rfl ?_
    refine xe_iload_n dL_law_818 rfl ?_
    refine xe_iconst (v := nI 1) dL_law_819 (by decide) ?_
    first | refine xn_iadd dL_law_820 ?_ | refine xe_iadd dL_law_820 ?_
    refine e_sald dL_law_821 (by omega) (by omega) ?_
    refine xe_aload_nT dL_law_822 rfl ?_
    refine xe_iload_n dL_law_823 rfl ?_
    refine xe_iconst (v := nI 2) dL_law_824 (by decide) ?_
    first | refine xn_iadd dL_law_825 ?_ | refine xe_iadd dL_law_825 ?_
    refine e_sald dL_law_826 (by omega) (by omega) ?_
    refine xe_aload_nT dL_law_827 rfl ?_
    refine xe_iload_n dL_law_828 rfl ?_
    refine xe_iconst (v := nI 3) dL_law_829 (by decide) ?_
    first | refine xn_iadd dL_law_830 ?_ | refine xe_iadd dL_law_830 ?_
    refine e_sald dL_law_831 (by omega) (by omega) ?_
    refine xe_if_eq 839 dL_law_832 (by decide) (fun _ => ?_) (fun c => absurd cb c)
    refine xe_iconst (v := nI 0) dL_law_839 (by decide) ?_
    refine e_callV (G := GS) (r := 110) (M_snaps (u := false) (hm.fc t2)) dL_law_840 kvL_118 gk_110 rfl ?_
    rintro v u ⟨rfl, u1, u2⟩
    refine xe_icmp_eq 994 dL_law_843 (by decide) (fun _ => ?_) (fun c => absurd rfl c)
    exact nx u _ (t1.fm u2) u1
  · refine xe_iconst (v := nI 1) dL_law_808 (by decide) ?_
    refine xe_goto 813 dL_law_809 (by decide) ?_
    refine e_callV (G := GS) (r := 1) (C_snaps (u := true) hc) dL_law_813 kvL_114 gk_1 rfl ?_
    rintro v t ⟨rfl, t1, t2⟩
    refine xe_aload_n dL_law_816 rfl ?_
    refine xe_aload_nT dL_law_817 rfl ?_
    refine xe_iload_n dL_law_818 rfl ?_
    refine xe_iconst (v := nI 1) dL_law_819 (by decide) ?_
    first | refine xn_iadd dL_law_820 ?_ | refine xe_iadd dL_law_820 ?_
    refine e_sald dL_law_821 (by omega) (by omega) ?_
    refine xe_aload_nT dL_law_822 rfl ?_
    refine xe_iload_n dL_law_823 rfl ?_
    refine xe_iconst (v := nI 2) dL_law_824 (by decide) ?_
    first | refine xn_iadd dL_law_825 ?_ | refine xe_iadd dL_law_825 ?_
    refine e_sald dL_law_826 (by omega) (by omega) ?_
    refine xe_aload_nT dL_law_827 rfl ?_
    refine xe_iload_n dL_law_828 rfl ?_
    refine xe_iconst (v := nI 3) dL_law_829 (by decide) ?_
    first | refine xn_iadd dL_law_830 ?_ | refine xe_iadd dL_law_830 ?_
    refine e_sald dL_law_831 (by omega) (by omega) ?_
    refine xe_if_eq 839 dL_law_832 (by decide) (fun c => absurd c cb) (fun _ => ?_)
    refine xe_iconst (v := nI 1) dL_law_835 (by decide) ?_
    refine xe_goto 840 dL_law_836 (by decide) ?_
    refine e_callV (G := GS) (r := 110) (M_snaps (u := true) (hm.fc t2)) dL_law_840 kvL_118 gk_110 rfl ?_
    rintro v u ⟨rfl, u1, u2⟩
    refine xe_icmp_eq 994 dL_law_843 (by decide) (fun _ => ?_) (fun c => absurd rfl c)
    exact nx u _ (t1.fm u2) u1
theorem LW_seed (hi : i + 5 ≤ L) (hL : L < 2147483648) (hc : IC σ A) (hm : IM σ A) (nx : NX xs L i) : Ev xs L mL_law 848 [.float 0, .ref 1, .ref 110, .int (nI i)] [] GS σ GS QL := by
  refine xe_aload_n dL_law_848 rfl ?_
  refine xe_aload_nT dL_law_849 rfl ?_
  refine xe_iload_n dL_law_850 rfl ?_
  refine xe_iconst (v := nI 1) dL_law_851 (by decide) ?_
  first | refine xn_iadd dL_law_852 ?_ | refine xe_iadd dL_law_852 ?_
  refine e_sald dL_law_853 (by omega) (by omega) ?_
  refine xe_i2l dL_law_854 ?_
  refine xe_bipush (v := nI 32) dL_law_855 (by decide) ?_
  refine xe_lshl dL_law_857 ?_
  refine xe_aload_nT dL_law_858 rfl ?_
  refine xe_iload_n dL_law_859 rfl ?_
  refine xe_iconst (v := nI 2) dL_law_860 (by decide) ?_
  first | refine xn_iadd dL_law_861 ?_ | refine xe_iadd dL_law_861 ?_
  refine e_sald dL_law_862 (by omega) (by omega) ?_
  refine xe_i2l dL_law_863 ?_
  refine xe_ldc2 dL_law_864 gw1194 ?_
  refine xe_land dL_law_867 ?_
  refine xe_lor dL_law_868 ?_
  refine e_callV (G := GS) (r := 1) (C_seed hc) dL_law_869 kvL_119 gk_1 rfl ?_
  rintro v t ⟨rfl, t1, t2⟩
  refine xe_aload_n dL_law_872 rfl ?_
  refine xe_aload_nT dL_law_873 rfl ?_
  refine xe_iload_n dL_law_874 rfl ?_
  refine xe_iconst (v := nI 1) dL_law_875 (by decide) ?_
  first | refine xn_iadd dL_law_876 ?_ | refine xe_iadd dL_law_876 ?_
  refine e_sald dL_law_877 (by omega) (by omega) ?_
  refine xe_i2l dL_law_878 ?_
  refine xe_bipush (v := nI 32) dL_law_879 (by decide) ?_
  refine xe_lshl dL_law_881 ?_
  refine xe_aload_nT dL_law_882 rfl ?_
  refine xe_iload_n dL_law_883 rfl ?_
  refine xe_iconst (v := nI 2) dL_law_884 (by decide) ?_
  first | refine xn_iadd dL_law_885 ?_ | refine xe_iadd dL_law_885 ?_
  refine e_sald dL_law_886 (by omega) (by omega) ?_
  refine xe_i2l dL_law_887 ?_
  refine xe_ldc2 dL_law_888 gw1194 ?_
  refine xe_land dL_law_891 ?_
  refine xe_lor dL_law_892 ?_
  refine e_callV (G := GS) (r := 110) (M_seed (hm.fc t2)) dL_law_893 kvL_123 gk_110 rfl ?_
  rintro v u ⟨rfl, u1, u2⟩
  refine xe_lcmp dL_law_896 ?_
  rw [cmp_self]
  refine xe_if_eq 994 dL_law_897 (by decide) (fun _ => ?_) (fun c => absurd rfl c)
  exact nx u _ (t1.fm u2) u1
theorem LW_years (hi : i + 5 ≤ L) (hL : L < 2147483648) (hc : IC σ A) (hm : IM σ A) (nx : NX xs L i) : Ev xs L mL_law 902 [.float 0, .ref 1, .ref 110, .int (nI i)] [] GS σ GS QL := by
  refine xe_aload_n dL_law_902 rfl ?_
  refine xe_aload_nT dL_law_903 rfl ?_
  refine xe_iload_n dL_law_904 rfl ?_
  refine xe_iconst (v := nI 1) dL_law_905 (by decide) ?_
  first | refine xn_iadd dL_law_906 ?_ | refine xe_iadd dL_law_906 ?_
  refine e_sald dL_law_907 (by omega) (by omega) ?_
  refine e_callV (G := GS) (r := 1) (C_years hc) dL_law_908 kvL_124 gk_1 rfl ?_
  rintro v t ⟨rfl, t1, t2⟩
  refine xe_aload_n dL_law_911 rfl ?_
  refine xe_aload_nT dL_law_912 rfl ?_
  refine xe_iload_n dL_law_913 rfl ?_
  refine xe_iconst (v := nI 1) dL_law_914 (by decide) ?_
  first | refine xn_iadd dL_law_915 ?_ | refine xe_iadd dL_law_915 ?_
  refine e_sald dL_law_916 (by omega) (by omega) ?_
  refine e_callV (G := GS) (r := 110) (M_years (hm.fc t2)) dL_law_917 kvL_127 gk_110 rfl ?_
  rintro v u ⟨rfl, u1, u2⟩
  refine xe_icmp_eq 994 dL_law_920 (by decide) (fun _ => ?_) (fun c => absurd rfl c)
  exact nx u _ (t1.fm u2) u1
theorem LW_keep (hi : i + 5 ≤ L) (hL : L < 2147483648) (hc : IC σ A) (hm : IM σ A) (nx : NX xs L i) : Ev xs L mL_law 925 [.float 0, .ref 1, .ref 110, .int (nI i)] [] GS σ GS QL := by
  refine xe_aload_n dL_law_925 rfl ?_
  refine xe_aload_nT dL_law_926 rfl ?_
  refine xe_iload_n dL_law_927 rfl ?_
  refine xe_iconst (v := nI 1) dL_law_928 (by decide) ?_
  first | refine xn_iadd dL_law_929 ?_ | refine xe_iadd dL_law_929 ?_
  refine e_sald dL_law_930 (by omega) (by omega) ?_
  refine e_callV (G := GS) (r := 1) (C_keep hc) dL_law_931 kvL_128 gk_1 rfl ?_
  rintro v t ⟨rfl, t1, t2⟩
  refine xe_aload_n dL_law_934 rfl ?_
  refine xe_aload_nT dL_law_935 rfl ?_
  refine xe_iload_n dL_law_936 rfl ?_
  refine xe_iconst (v := nI 1) dL_law_937 (by decide) ?_
  first | refine xn_iadd dL_law_938 ?_ | refine xe_iadd dL_law_938 ?_
  refine e_sald dL_law_939 (by omega) (by omega) ?_
  refine e_callV (G := GS) (r := 110) (M_keep (hm.fc t2)) dL_law_940 kvL_131 gk_110 rfl ?_
  rintro v u ⟨rfl, u1, u2⟩
  refine xe_icmp_eq 994 dL_law_943 (by decide) (fun _ => ?_) (fun c => absurd rfl c)
  exact nx u _ (t1.fm u2) u1
theorem LW_again (hi : i + 5 ≤ L) (hL : L < 2147483648) (hc : IC σ A) (hm : IM σ A) (nx : NX xs L i) : Ev xs L mL_law 948 [.float 0, .ref 1, .ref 110, .int (nI i)] [] GS σ GS QL := by
  refine xe_aload_n dL_law_948 rfl ?_
  refine xe_aload_nT dL_law_949 rfl ?_
  refine xe_iload_n dL_law_950 rfl ?_
  refine xe_iconst (v := nI 1) dL_law_951 (by decide) ?_
  first | refine xn_iadd dL_law_952 ?_ | refine xe_iadd dL_law_952 ?_
  refine e_sald dL_law_953 (by omega) (by omega) ?_
  refine e_callV (G := GS) (r := 1) (C_again hc) dL_law_954 kvL_132 gk_1 rfl ?_
  rintro v t ⟨rfl, t1, t2⟩
  refine xe_aload_n dL_law_957 rfl ?_
  refine xe_aload_nT dL_law_958 rfl ?_
  refine xe_iload_n dL_law_959 rfl ?_
  refine xe_iconst (v := nI 1) dL_law_960 (by decide) ?_
  first | refine xn_iadd dL_law_961 ?_ | refine xe_iadd dL_law_961 ?_
  refine e_sald dL_law_962 (by omega) (by omega) ?_
  refine e_callV (G := GS) (r := 110) (M_again (hm.fc t2)) dL_law_963 kvL_135 gk_110 rfl ?_
  rintro v u ⟨rfl, u1, u2⟩
  refine xe_icmp_eq 994 dL_law_966 (by decide) (fun _ => ?_) (fun c => absurd rfl c)
  exact nx u _ (t1.fm u2) u1
theorem LW_count (hi : i + 5 ≤ L) (hL : L < 2147483648) (hc : IC σ A) (hm : IM σ A) (nx : NX xs L i) : Ev xs L mL_law 971 [.float 0, .ref 1, .ref 110, .int (nI i)] [] GS σ GS QL := by
  refine xe_aload_n dL_law_971 rfl ?_
  refine xe_aload_nT dL_law_972 rfl ?_
  refine xe_iload_n dL_law_973 rfl ?_
  refine xe_iconst (v := nI 1) dL_law_974 (by decide) ?_
  first | refine xn_iadd dL_law_975 ?_ | refine xe_iadd dL_law_975 ?_
  refine e_sald dL_law_976 (by omega) (by omega) ?_
  refine e_callV (G := GS) (r := 1) (C_count hc) dL_law_977 kvL_136 gk_1 rfl ?_
  rintro v t ⟨rfl, t1, t2⟩
  refine xe_aload_n dL_law_980 rfl ?_
  refine xe_aload_nT dL_law_981 rfl ?_
  refine xe_iload_n dL_law_982 rfl ?_
  refine xe_iconst (v := nI 1) dL_law_983 (by decide) ?_
  first | refine xn_iadd dL_law_984 ?_ | refine xe_iadd dL_law_984 ?_
  refine e_sald dL_law_985 (by omega) (by omega) ?_
  refine e_callV (G := GS) (r := 110) (M_count (hm.fc t2)) dL_law_986 kvL_139 gk_110 rfl ?_
  rintro v u ⟨rfl, u1, u2⟩
  refine xe_icmp_eq 994 dL_law_989 (by decide) (fun _ => ?_) (fun c => absurd rfl c)
  exact nx u _ (t1.fm u2) u1
end LW
theorem and31 (x : Int32) : ∃ k : Nat, k < 32 ∧ x &&& nI 31 = nI k := by
  refine ⟨(x &&& nI 31).toBitVec.toNat, ?_, ?_⟩
  · have : (x &&& nI 31).toBitVec = x.toBitVec &&& BitVec.ofNat 32 31 := rfl
    rw [this, BitVec.toNat_and]
    exact Nat.lt_of_le_of_lt Nat.and_le_right (by decide)
  · exact Int32.toBitVec_inj.mp (by show _ = BitVec.ofNat 32 _; simp)
theorem l5_small : ∀ L, L < 5 → (nI L - nI 5).toInt = (L : Int) - 5 := by decide
theorem l5 {L : Nat} (h : L < 2147483648) : (nI L - nI 5).toInt = (L : Int) - 5 := by
  by_cases c : 5 ≤ L
  · rw [pk_sub c, nI_toInt (by omega)]
    omega
  · exact l5_small L (by omega)
theorem l5_lt {L i : Nat} (h : L < 2147483648) (hi : i < 2147483648) : nI L - nI 5 < nI i ↔ L < i + 5 := by
  rw [Int32.lt_iff_toInt_lt, l5 h, nI_toInt (by omega)]
  omega
section LL
variable {xs : Nat → Int32} {L : Nat}
theorem law_loop (hL : L ≤ 2560) : ∀ (d i : Nat) (σ : xS) (A : yA), L ≤ i + 5 * d → i ≤ L → IC σ A → IM σ A → Ev xs L mL_law 18 [.float 0, .ref 1, .ref 110, .int (nI i)] [] GS σ GS QL := by
  intro d
  induction d with
  | zero =>
    intro i σ A h1 h2 hc hm
    refine xe_iload_n dL_law_18 rfl ?_
    refine xe_aload_nT dL_law_19 rfl ?_
    refine xe_slen dL_law_20 ?_
    refine xe_iconst (v := nI 5) dL_law_21 (by decide) ?_
    refine xe_isub dL_law_22 ?_
    refine xe_icmp_gt 1000 dL_law_23 (by decide) (fun _ => ?_) (fun c => absurd ((l5_lt (by omega) (by omega)).mpr (by omega)) c)
    refine xe_iconst (v := nI 1) dL_law_1000 (by decide) ?_
    exact xe_zret dL_law_1001 rfl (by decide) (show some (Value.int (nI 1)) = some (Value.int 1) by rw [nI_one])
  | succ d ih =>
    intro i σ A h1 h2 hc hm
    refine xe_iload_n dL_law_18 rfl ?_
    refine xe_aload_nT dL_law_19 rfl ?_
    refine xe_slen dL_law_20 ?_
    refine xe_iconst (v := nI 5) dL_law_21 (by decide) ?_
    refine xe_isub dL_law_22 ?_
    refine xe_icmp_gt 1000 dL_law_23 (by decide) (fun c => ?_) (fun c => ?_)
    · refine xe_iconst (v := nI 1) dL_law_1000 (by decide) ?_
      exact xe_zret dL_law_1001 rfl (by decide) (show some (Value.int (nI 1)) = some (Value.int 1) by rw [nI_one])
    have hi : i + 5 ≤ L := by
      have c : ¬ nI L - nI 5 < nI i := c
      rw [l5_lt (by omega) (by omega)] at c
      omega
    have hL2 : L < 2147483648 := by omega
    have nx : NX xs L i := by
      intro u A hc hm
      refine xe_iinc (v := nI (i + 5)) dL_law_994 rfl (by rw [show Int32.ofInt 5 = nI 5 by decide, nI_add]) (by decide) ?_
      refine xe_goto 18 dL_law_997 (by decide) ?_
      exact ih (i + 5) u A (by omega) (by omega) hc hm
    refine xe_aload_nT dL_law_26 rfl ?_
    refine xe_iload_n dL_law_27 rfl ?_
    refine e_sald dL_law_28 (by omega) (by omega) ?_
    refine xe_bipush (v := nI 31) dL_law_29 (by decide) ?_
    refine xe_iand dL_law_31 ?_
    obtain ⟨k, hk, e⟩ := and31 (xs i)
    rw [e]
    clear e
    match k, hk with
    | 0, _ =>
      refine xe_tableIn 164 dL_law_32 (by decide) (by decide) rfl (by decide) ?_
      exact LW_write hi hL2 hc hm nx
    | 1, _ =>
      refine xe_tableIn 187 dL_law_32 (by decide) (by decide) rfl (by decide) ?_
      exact LW_wipe hi hL2 hc hm nx
    | 2, _ =>
      refine xe_tableIn 200 dL_law_32 (by decide) (by decide) rfl (by decide) ?_
      exact LW_fault hi hL2 hc hm nx
    | 3, _ =>
      refine xe_tableIn 213 dL_law_32 (by decide) (by decide) rfl (by decide) ?_
      exact LW_board hi hL2 hc hm nx
    | 4, _ =>
      refine xe_tableIn 226 dL_law_32 (by decide) (by decide) rfl (by decide) ?_
      exact LW_thread hi hL2 hc hm nx
    | 5, _ =>
      refine xe_tableIn 259 dL_law_32 (by decide) (by decide) rfl (by decide) ?_
      exact LW_stretch hi hL2 hc hm nx
    | 6, _ =>
      refine xe_tableIn 292 dL_law_32 (by decide) (by decide) rfl (by decide) ?_
      exact LW_wind hi hL2 hc hm nx
    | 7, _ =>
      refine xe_tableIn 325 dL_law_32 (by decide) (by decide) rfl (by decide) ?_
      exact LW_unwind hi hL2 hc hm nx
    | 8, _ =>
      refine xe_tableIn 348 dL_law_32 (by decide) (by decide) rfl (by decide) ?_
      exact LW_cut hi hL2 hc hm nx
    | 9, _ =>
      refine xe_tableIn 371 dL_law_32 (by decide) (by decide) rfl (by decide) ?_
      exact LW_turn hi hL2 hc hm nx
    | 10, _ =>
      refine xe_tableIn 384 dL_law_32 (by decide) (by decide) rfl (by decide) ?_
      exact LW_behind hi hL2 hc hm nx
    | 11, _ =>
      refine xe_tableIn 397 dL_law_32 (by decide) (by decide) rfl (by decide) ?_
      exact LW_undo hi hL2 hc hm nx
    | 12, _ =>
      refine xe_tableIn 410 dL_law_32 (by decide) (by decide) rfl (by decide) ?_
      exact LW_crossings hi hL2 hc hm nx
    | 13, _ =>
      refine xe_tableIn 443 dL_law_32 (by decide) (by decide) rfl (by decide) ?_
      exact LW_parts hi hL2 hc hm nx
    | 14, _ =>
      refine xe_tableIn 456 dL_law_32 (by decide) (by decide) rfl (by decide) ?_
      exact LW_strokes hi hL2 hc hm nx
    | 15, _ =>
      refine xe_tableIn 469 dL_law_32 (by decide) (by decide) rfl (by decide) ?_
      exact LW_next hi hL2 hc hm nx
    | 16, _ =>
      refine xe_tableIn 502 dL_law_32 (by decide) (by decide) rfl (by decide) ?_
      exact LW_star hi hL2 hc hm nx
    | 17, _ =>
      refine xe_tableIn 555 dL_law_32 (by decide) (by decide) rfl (by decide) ?_
      exact LW_judge hi hL2 hc hm nx
    | 18, _ =>
      refine xe_tableIn 618 dL_law_32 (by decide) (by decide) rfl (by decide) ?_
      exact LW_see hi hL2 hc hm nx
    | 19, _ =>
      refine xe_tableIn 661 dL_law_32 (by decide) (by decide) rfl (by decide) ?_
      exact LW_unsee hi hL2 hc hm nx
    | 20, _ =>
      refine xe_tableIn 674 dL_law_32 (by decide) (by decide) rfl (by decide) ?_
      exact LW_stars hi hL2 hc hm nx
    | 21, _ =>
      refine xe_tableIn 697 dL_law_32 (by decide) (by decide) rfl (by decide) ?_
      exact LW_share hi hL2 hc hm nx
    | 22, _ =>
      refine xe_tableIn 746 dL_law_32 (by decide) (by decide) rfl (by decide) ?_
      exact LW_rests hi hL2 hc hm nx
    | 23, _ =>
      refine xe_tableIn 789 dL_law_32 (by decide) (by decide) rfl (by decide) ?_
      exact LW_snaps hi hL2 hc hm nx
    | 24, _ =>
      refine xe_tableIn 848 dL_law_32 (by decide) (by decide) rfl (by decide) ?_
      exact LW_seed hi hL2 hc hm nx
    | 25, _ =>
      refine xe_tableIn 902 dL_law_32 (by decide) (by decide) rfl (by decide) ?_
      exact LW_years hi hL2 hc hm nx
    | 26, _ =>
      refine xe_tableIn 925 dL_law_32 (by decide) (by decide) rfl (by decide) ?_
      exact LW_keep hi hL2 hc hm nx
    | 27, _ =>
      refine xe_tableIn 948 dL_law_32 (by decide) (by decide) rfl (by decide) ?_
      exact LW_again hi hL2 hc hm nx
    | 28, _ =>
      refine xe_tableIn 971 dL_law_32 (by decide) (by decide) rfl (by decide) ?_
      exact LW_count hi hL2 hc hm nx
    | 29, _ =>
      refine xe_tableOut 994 dL_law_32 (Or.inr (by decide)) (by decide) ?_
      exact nx σ A hc hm
    | 30, _ =>
      refine xe_tableOut 994 dL_law_32 (Or.inr (by decide)) (by decide) ?_
      exact nx σ A hc hm
    | 31, _ =>
      refine xe_tableOut 994 dL_law_32 (Or.inr (by decide)) (by decide) ?_
      exact nx σ A hc hm
    | k + 32, hk => omega
/-- what is there at first -/
def yA0 : yA := ([], nilP, [], fun _ => none, [], 0)
theorem IC_0 {σ : xS} (h : AllZ σ) : IC σ yA0 := by
  have z : ∀ i k, σ.1 i k = nI 0 := fun i k => (h.1 i k).trans (by decide)
  exact ⟨⟨z 2 1, Nat.zero_le _, fun i c hc => (by cases hc), fun c hc => absurd hc List.not_mem_nil⟩, ⟨nil_ok, ⟨z 4 4, Nat.zero_le _, fun t ht => absurd ht (Nat.not_lt_zero _)⟩, ⟨z 4 5, Nat.zero_le _, fun i s hs => (by cases hs), fun s hs => absurd hs List.not_mem_nil⟩, z 4 6⟩, ⟨0, by decide, z 14 1, z 14 2, Nat.zero_le _, fun i P hP => (by cases hP)⟩, fun s _ => ⟨(z 88 s).trans (show nI 0 = bI false by decide), fun P hP => (by cases hP)⟩, ⟨z 99 3, Nat.zero_le _, fun i q hq => (by cases hq)⟩, h.2 1 9⟩
theorem IM_0 {σ : xS} (h : AllZ σ) : IM σ yA0 := by
  have z : ∀ i k, σ.1 i k = nI 0 := fun i k => (h.1 i k).trans (by decide)
  exact ⟨⟨z 110 6, Nat.zero_le _, fun i c hc => (by cases hc), fun c hc => absurd hc List.not_mem_nil⟩, ⟨z 110 0, fun t ht => absurd ht (Nat.not_lt_zero _), ⟨by decide, nil_ok, fun t ht => absurd ht (Nat.not_lt_zero _), z 112 4, fun i s hs => (by cases hs)⟩, (z 110 7).trans (by decide)⟩, ⟨0, by decide, z 110 10, z 110 9, Nat.zero_le _, fun i P hP => (by cases hP)⟩, fun s _ => ⟨(z 121 s).trans (show nI 0 = bI false by decide), fun P hP => (by cases hP)⟩, ⟨z 110 13, Nat.zero_le _, fun i q hq => (by cases hq)⟩, h.2 110 17⟩
theorem eNS : xN GS = 122 := by decide +kernel
theorem eZS : xZ GS = 2595 := by decide +kernel
theorem law_all (hL : L ≤ 2560) : Ev xs L mL_law 0 [.float 0, .null, .null, .null] [] xG0 xS0 GS QL := by
  have eN := eNS
  have eZ := eZS
  have eN1 : xN (gNT (xgk xG0 9 0 10) (xN xG0 + 1)) = 109 := by decide +kernel
  have eZ1 : xZ (gNT (xgk xG0 9 0 10) (xN xG0 + 1)) = 1353 := by decide +kernel
  have eN0 : xN xG0 = 0 := rfl
  have eZ0 : xZ xG0 = 0 := rfl
  refine xe_new dL_law_0 cfX10 gw68 (by (try simp only [xnf, xN_A, xZ_A, xN_Bd, xZ_Bd, xN_gk, xZ_gk, xN_gr, xZ_gr, xN_Text, xZ_Text, xN_Seen, xZ_Seen, xN_Web, xZ_Web, xN_Rests, xZ_Rests, xN_Ch, xZ_Ch, xN_Hist, xZ_Hist, xN_Shelf, xZ_Shelf, xN_Mod, xZ_Mod, xN_Hl, xZ_Hl, xN_Put, xZ_Put]); omega) (by (try simp only [xnf, xN_A, xZ_A, xN_Bd, xZ_Bd, xN_gk, xZ_gk, xN_gr, xZ_gr, xnf, xN_Text, xZ_Text, xN_Seen, xZ_Seen, xN_Web, xZ_Web, xN_Rests, xZ_Rests, xN_Ch, xZ_Ch, xN_Hist, xZ_Hist, xN_Shelf, xZ_Shelf, xN_Mod, xZ_Mod, xN_Hl, xZ_Hl, xN_Put, xZ_Put]); omega) ?_
  refine xe_dup dL_law_3 rfl ?_
  refine xe_callI' (I_Nail (by omega) (xgk_k _ _ _ _) (by rw [xN_gk]; omega)) dL_law_4 kiL_9 rfl (by omega) rfl (Nat.le_of_ble_eq_true rfl) (Nat.le_of_ble_eq_true rfl) ⟨Nat.le_of_ble_eq_true rfl, Nat.le_of_ble_eq_true rfl⟩ (by (try simp only [xnf, xN_A, xZ_A, xN_Bd, xZ_Bd, xN_gk, xZ_gk, xN_gr, xZ_gr, xN_Text, xZ_Text, xN_Seen, xZ_Seen, xN_Web, xZ_Web, xN_Rests, xZ_Rests, xN_Ch, xZ_Ch, xN_Hist, xZ_Hist, xN_Shelf, xZ_Shelf, xN_Mod, xZ_Mod, xN_Hl, xZ_Hl, xN_Put, xZ_Put]); omega) (by (try simp only [xnf, xN_A, xZ_A, xN_Bd, xZ_Bd, xN_gk, xZ_gk, xN_gr, xZ_gr, xN_Text, xZ_Text, xN_Seen, xZ_Seen, xN_Web, xZ_Web, xN_Rests, xZ_Rests, xN_Ch, xZ_Ch, xN_Hist, xZ_Hist, xN_Shelf, xZ_Shelf, xN_Mod, xZ_Mod, xN_Hl, xZ_Hl, xN_Put, xZ_Put]); omega) (by (try simp only [xnf, xN_A, xZ_A, xN_Bd, xZ_Bd, xN_gk, xZ_gk, xN_gr, xZ_gr, xN_Text, xZ_Text, xN_Seen, xZ_Seen, xN_Web, xZ_Web, xN_Rests, xZ_Rests, xN_Ch, xZ_Ch, xN_Hist, xZ_Hist, xN_Shelf, xZ_Shelf, xN_Mod, xZ_Mod, xN_Hl, xZ_Hl, xN_Put, xZ_Put]); omega) (by (try simp only [xnf, xN_A, xZ_A, xN_Bd, xZ_Bd, xN_gk, xZ_gk, xN_gr, xZ_gr, xN_Text, xZ_Text, xN_Seen, xZ_Seen, xN_Web, xZ_Web, xN_Rests, xZ_Rests, xN_Ch, xZ_Ch, xN_Hist, xZ_Hist, xN_Shelf, xZ_Shelf, xN_Mod, xZ_Mod, xN_Hl, xZ_Hl, xN_Put, xZ_Put]); omega) ?_
  rintro v t ⟨rfl, ht⟩
  refine xe_astore_n dL_law_7 (by decide) ?_
  refine xe_new dL_law_8 cfX11 gw801 (by (try simp only [xnf, xN_A, xZ_A, xN_Bd, xZ_Bd, xN_gk, xZ_gk, xN_gr, xZ_gr, xN_Text, xZ_Text, xN_Seen, xZ_Seen, xN_Web, xZ_Web, xN_Rests, xZ_Rests, xN_Ch, xZ_Ch, xN_Hist, xZ_Hist, xN_Shelf, xZ_Shelf, xN_Mod, xZ_Mod, xN_Hl, xZ_Hl, xN_Put, xZ_Put]); omega) (by (try simp only [xnf, xN_A, xZ_A, xN_Bd, xZ_Bd, xN_gk, xZ_gk, xN_gr, xZ_gr, xnf, xN_Text, xZ_Text, xN_Seen, xZ_Seen, xN_Web, xZ_Web, xN_Rests, xZ_Rests, xN_Ch, xZ_Ch, xN_Hist, xZ_Hist, xN_Shelf, xZ_Shelf, xN_Mod, xZ_Mod, xN_Hl, xZ_Hl, xN_Put, xZ_Put]); omega) ?_
  refine xe_dup dL_law_11 rfl ?_
  refine xe_callI' (I_Model (by omega) (xgk_k _ _ _ _) (by rw [xN_gk]; omega)) dL_law_12 kiL_12 rfl (by omega) rfl (Nat.le_of_ble_eq_true rfl) (Nat.le_of_ble_eq_true rfl) ⟨Nat.le_of_ble_eq_true rfl, Nat.le_of_ble_eq_true rfl⟩ (by (try simp only [xnf, xN_A, xZ_A, xN_Bd, xZ_Bd, xN_gk, xZ_gk, xN_gr, xZ_gr, xN_Text, xZ_Text, xN_Seen, xZ_Seen, xN_Web, xZ_Web, xN_Rests, xZ_Rests, xN_Ch, xZ_Ch, xN_Hist, xZ_Hist, xN_Shelf, xZ_Shelf, xN_Mod, xZ_Mod, xN_Hl, xZ_Hl, xN_Put, xZ_Put]); omega) (by (try simp only [xnf, xN_A, xZ_A, xN_Bd, xZ_Bd, xN_gk, xZ_gk, xN_gr, xZ_gr, xN_Text, xZ_Text, xN_Seen, xZ_Seen, xN_Web, xZ_Web, xN_Rests, xZ_Rests, xN_Ch, xZ_Ch, xN_Hist, xZ_Hist, xN_Shelf, xZ_Shelf, xN_Mod, xZ_Mod, xN_Hl, xZ_Hl, xN_Put, xZ_Put]); omega) (by (try simp only [xnf, xN_A, xZ_A, xN_Bd, xZ_Bd, xN_gk, xZ_gk, xN_gr, xZ_gr, xN_Text, xZ_Text, xN_Seen, xZ_Seen, xN_Web, xZ_Web, xN_Rests, xZ_Rests, xN_Ch, xZ_Ch, xN_Hist, xZ_Hist, xN_Shelf, xZ_Shelf, xN_Mod, xZ_Mod, xN_Hl, xZ_Hl, xN_Put, xZ_Put]); omega) (by (try simp only [xnf, xN_A, xZ_A, xN_Bd, xZ_Bd, xN_gk, xZ_gk, xN_gr, xZ_gr, xN_Text, xZ_Text, xN_Seen, xZ_Seen, xN_Web, xZ_Web, xN_Rests, xZ_Rests, xN_Ch, xZ_Ch, xN_Hist, xZ_Hist, xN_Shelf, xZ_Shelf, xN_Mod, xZ_Mod, xN_Hl, xZ_Hl, xN_Put, xZ_Put]); omega) ?_
  rintro v u ⟨rfl, hu⟩
  refine xe_astore_n dL_law_15 (by decide) ?_
  refine xe_iconst (v := nI 0) dL_law_16 (by decide) ?_
  refine xe_istore_n dL_law_17 (by decide) ?_
  have z0 : AllZ xS0 := ⟨fun _ _ => rfl, fun _ _ => rfl⟩
  have zz : AllZ u := hu (ht z0.s0).s0
  exact law_loop hL L 0 u yA0 (by omega) (by omega) (IC_0 zz) (IM_0 zz)
end LL
theorem whole_start {p : Program} {e : Env} {s : State} {m : MethodId} {below : List Frame} {meth : Method} {c : Code} (l : Launch) (hflags : l.flags = flags0) {b L : Nat} {xs : Nat → Int32} (hL : L ≤ 2560) (C0 : lw_At p s m meth c b L xs) : W p l e room_1 s m #[Value.ref b] below meth c s.heap [] 0 0 (lw_Z below #[Value.ref b] s) (entryFrame m ([Value.ref b] : List Value).toArray 4) :=
  whole_ev l (law_all hL) (by rw [eNS]; decide) (by rw [eZS]; decide) C0
