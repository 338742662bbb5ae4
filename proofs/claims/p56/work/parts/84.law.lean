theorem AW.heq {M : aM} {R : Room} {F : aF} {pc : Nat} {lv : List (Option Value)} {st : List Value} {h h' : List aE} {nc ns : Nat} (e : h = h') (k : AW M R F pc lv st h' nc ns) : AW M R F pc lv st h nc ns := e ▸ k
abbrev lvC (c : Nat) : List (Option Value) := [some (.ref 0), some (.ref 8), some (.ref 67), some (.int (nI (6 * c)))]
theorem nIadd (a b : Nat) : nI a + nI b = nI (a + b) := (Int32.ofNat_add a b).symm
section AWp
variable {M : aM} {R : Room} {F : aF} {pc pc' : Nat} {lv : List (Option Value)} {st : List Value} {h : List aE} {nc ns : Nat}
theorem aw_pop2l {x : Int64} (hd : decode M.2.1 pc = .ok (.pop2, 1)) (hp : pc + 1 = pc') (k : AW M R F pc' lv st h nc ns) : AW M R F pc lv (.long x :: st) h nc ns := by
  subst hp
  exact fun p l e s m args below meth c G H locs ls C hR hS hl => lv_pop2_2 C.1 C.2.1 hd rfl (k p l e s m args below meth c G H locs ls C hR hS hl)
end AWp
theorem rokL {M : aM} {d nc ns mc ms : Nat} (h1 : d + 1 ≤ 2000) (h2 : M.2.2.1 ≤ 22) (h3 : nc + mc ≤ 600000) (h4 : ns + ms ≤ 7302250) : RoomOk room_1 M d nc ns mc ms := by
  refine ⟨by show d + 1 ≤ 2048; omega, ?_, h3, h4⟩
  show 19 + M.2.2.1 + 41 * d ≤ 84000
  omega
/-- what is behind a call: the next round -/
def Nx (L : Nat) (xs : Nat → Int32) (c : Nat) : Prop := ∀ (s : SS) (h : List aE), HH s h → GW (c + 1) s → AW mLaw room_1 (sF L xs lawF) 2113 (lvC c) [] h (130 + 4 * c) (60200 + 200 * c)
set_option maxRecDepth 4000 in
theorem lc_0 {L : Nat} {xs : Nat → Int32} {c : Nat} (hL : L ≤ 3072) (hc : 6 * c + 6 ≤ L) (kk : Nx L xs c) {s : SS} {h : List aE} (H : HH s h) (G : GW c s) : AW mLaw room_1 (sF L xs lawF) 268 (lvC c) [] h (126 + 4 * c) (60000 + 200 * c) := by
  obtain ⟨rx, s1, rm, s2, ex, em, G2, eq⟩ := s4_hard G (by omega) (xs (6 * c + 1)) (xs (6 * c + 2))
  refine aw_aload_n (pc' := 269) dL_law_268 rfl rfl rfl ?_
  refine aw_aload_n (pc' := 270) dL_law_269 rfl rfl rfl ?_
  refine aw_iload_n (pc' := 271) dL_law_270 rfl rfl ?_
  refine aw_iconst (v := 1) (pc' := 272) dL_law_271 rfl (by decide) ?_
  refine aw_iadd (pc' := 273) dL_law_272 rfl ?_
  refine aw_topi (v := nI (6 * c + 1)) (nIadd _ 1) ?_
  refine aw_sld (v := xs (6 * c + 1)) (pc' := 274) dL_law_273 rfl (nI_in (by omega) (by omega)) (by rw [nI_clamp (by omega)]) ?_
  refine aw_aload_n (pc' := 275) dL_law_274 rfl rfl rfl ?_
  refine aw_iload_n (pc' := 276) dL_law_275 rfl rfl ?_
  refine aw_iconst (v := 2) (pc' := 277) dL_law_276 rfl (by decide) ?_
  refine aw_iadd (pc' := 278) dL_law_277 rfl ?_
  refine aw_topi (v := nI (6 * c + 2)) (nIadd _ 2) ?_
  refine aw_sld (v := xs (6 * c + 2)) (pc' := 279) dL_law_278 rfl (nI_in (by omega) (by omega)) (by rw [nI_clamp (by omega)]) ?_
  refine aw_callVi (M' := mX11_hard) (nc' := 126 + 4 * c + 0) (ns' := 60000 + 200 * c + 0) (pc' := 282) dL_law_279 rfl ml_RL_13 kX11_hard (t_X11_hard H ex) (H.ob (H.fo (q := 0) rfl rfl) (by decide)) rfl rfl rfl (Nat.le_of_ble_eq_true rfl) (rokL (by decide) (Nat.le_of_ble_eq_true rfl) (by omega) (by omega)) rfl rfl (fun _ h1 q1 => ?_)
  obtain ⟨rfl, H1, -⟩ := q1
  refine aw_pop (pc' := 283) dL_law_282 rfl rfl ?_
  refine aw_aload_n (pc' := 284) dL_law_283 rfl rfl rfl ?_
  refine aw_aload_n (pc' := 285) dL_law_284 rfl rfl rfl ?_
  refine aw_iload_n (pc' := 286) dL_law_285 rfl rfl ?_
  refine aw_iconst (v := 1) (pc' := 287) dL_law_286 rfl (by decide) ?_
  refine aw_iadd (pc' := 288) dL_law_287 rfl ?_
  refine aw_topi (v := nI (6 * c + 1)) (nIadd _ 1) ?_
  refine aw_sld (v := xs (6 * c + 1)) (pc' := 289) dL_law_288 rfl (nI_in (by omega) (by omega)) (by rw [nI_clamp (by omega)]) ?_
  refine aw_aload_n (pc' := 290) dL_law_289 rfl rfl rfl ?_
  refine aw_iload_n (pc' := 291) dL_law_290 rfl rfl ?_
  refine aw_iconst (v := 2) (pc' := 292) dL_law_291 rfl (by decide) ?_
  refine aw_iadd (pc' := 293) dL_law_292 rfl ?_
  refine aw_topi (v := nI (6 * c + 2)) (nIadd _ 2) ?_
  refine aw_sld (v := xs (6 * c + 2)) (pc' := 294) dL_law_293 rfl (nI_in (by omega) (by omega)) (by rw [nI_clamp (by omega)]) ?_
  refine aw_callVi (M' := mX12_hard) (nc' := 126 + 4 * c + 0) (ns' := 60000 + 200 * c + 0) (pc' := 297) dL_law_294 rfl ml_RL_17 kX12_hard (t_X12_hard H1 em) (H1.ob (H1.fo (q := 59) rfl rfl) (by decide)) rfl rfl rfl (Nat.le_of_ble_eq_true rfl) (rokL (by decide) (Nat.le_of_ble_eq_true rfl) (by omega) (by omega)) rfl rfl (fun _ h2 q2 => ?_)
  obtain ⟨rfl, H2, -⟩ := q2
  refine aw_pop (pc' := 298) dL_law_297 rfl rfl ?_
  refine aw_goto (tgt := 2113) dL_law_298 (by decide) ?_
  refine AW.widen (nc' := 130 + 4 * c) (ns' := 60200 + 200 * c) (by omega) (by omega) ?_
  exact kk _ _ H2 G2
set_option maxRecDepth 4000 in
theorem lc_1 {L : Nat} {xs : Nat → Int32} {c : Nat} (hL : L ≤ 3072) (hc : 6 * c + 6 ≤ L) (kk : Nx L xs c) {s : SS} {h : List aE} (H : HH s h) (G : GW c s) : AW mLaw room_1 (sF L xs lawF) 301 (lvC c) [] h (126 + 4 * c) (60000 + 200 * c) := by
  obtain ⟨rx, s1, rm, s2, ex, em, G2, eq⟩ := s4_open G (by omega) (xs (6 * c + 1)) (xs (6 * c + 2))
  refine aw_aload_n (pc' := 302) dL_law_301 rfl rfl rfl ?_
  refine aw_aload_n (pc' := 303) dL_law_302 rfl rfl rfl ?_
  refine aw_iload_n (pc' := 304) dL_law_303 rfl rfl ?_
  refine aw_iconst (v := 1) (pc' := 305) dL_law_304 rfl (by decide) ?_
  refine aw_iadd (pc' := 306) dL_law_305 rfl ?_
  refine aw_topi (v := nI (6 * c + 1)) (nIadd _ 1) ?_
  refine aw_sld (v := xs (6 * c + 1)) (pc' := 307) dL_law_306 rfl (nI_in (by omega) (by omega)) (by rw [nI_clamp (by omega)]) ?_
  refine aw_aload_n (pc' := 308) dL_law_307 rfl rfl rfl ?_
  refine aw_iload_n (pc' := 309) dL_law_308 rfl rfl ?_
  refine aw_iconst (v := 2) (pc' := 310) dL_law_309 rfl (by decide) ?_
  refine aw_iadd (pc' := 311) dL_law_310 rfl ?_
  refine aw_topi (v := nI (6 * c + 2)) (nIadd _ 2) ?_
  refine aw_sld (v := xs (6 * c + 2)) (pc' := 312) dL_law_311 rfl (nI_in (by omega) (by omega)) (by rw [nI_clamp (by omega)]) ?_
  refine aw_callVi (M' := mX11_open) (nc' := 126 + 4 * c + 0) (ns' := 60000 + 200 * c + 0) (pc' := 315) dL_law_312 rfl ml_RL_18 kX11_open (t_X11_open H ex) (H.ob (H.fo (q := 0) rfl rfl) (by decide)) rfl rfl rfl (Nat.le_of_ble_eq_true rfl) (rokL (by decide) (Nat.le_of_ble_eq_true rfl) (by omega) (by omega)) rfl rfl (fun _ h1 q1 => ?_)
  obtain ⟨rfl, H1, -⟩ := q1
  refine aw_pop (pc' := 316) dL_law_315 rfl rfl ?_
  refine aw_aload_n (pc' := 317) dL_law_316 rfl rfl rfl ?_
  refine aw_aload_n (pc' := 318) dL_law_317 rfl rfl rfl ?_
  refine aw_iload_n (pc' := 319) dL_law_318 rfl rfl ?_
  refine aw_iconst (v := 1) (pc' := 320) dL_law_319 rfl (by decide) ?_
  refine aw_iadd (pc' := 321) dL_law_320 rfl ?_
  refine aw_topi (v := nI (6 * c + 1)) (nIadd _ 1) ?_
  refine aw_sld (v := xs (6 * c + 1)) (pc' := 322) dL_law_321 rfl (nI_in (by omega) (by omega)) (by rw [nI_clamp (by omega)]) ?_
  refine aw_aload_n (pc' := 323) dL_law_322 rfl rfl rfl ?_
  refine aw_iload_n (pc' := 324) dL_law_323 rfl rfl ?_
  refine aw_iconst (v := 2) (pc' := 325) dL_law_324 rfl (by decide) ?_
  refine aw_iadd (pc' := 326) dL_law_325 rfl ?_
  refine aw_topi (v := nI (6 * c + 2)) (nIadd _ 2) ?_
  refine aw_sld (v := xs (6 * c + 2)) (pc' := 327) dL_law_326 rfl (nI_in (by omega) (by omega)) (by rw [nI_clamp (by omega)]) ?_
  refine aw_callVi (M' := mX12_open) (nc' := 126 + 4 * c + 0) (ns' := 60000 + 200 * c + 0) (pc' := 330) dL_law_327 rfl ml_RL_21 kX12_open (t_X12_open H1 em) (H1.ob (H1.fo (q := 59) rfl rfl) (by decide)) rfl rfl rfl (Nat.le_of_ble_eq_true rfl) (rokL (by decide) (Nat.le_of_ble_eq_true rfl) (by omega) (by omega)) rfl rfl (fun _ h2 q2 => ?_)
  obtain ⟨rfl, H2, -⟩ := q2
  refine aw_pop (pc' := 331) dL_law_330 rfl rfl ?_
  refine aw_goto (tgt := 2113) dL_law_331 (by decide) ?_
  refine AW.widen (nc' := 130 + 4 * c) (ns' := 60200 + 200 * c) (by omega) (by omega) ?_
  exact kk _ _ H2 G2
set_option maxRecDepth 4000 in
theorem lc_2 {L : Nat} {xs : Nat → Int32} {c : Nat} (hL : L ≤ 3072) (hc : 6 * c + 6 ≤ L) (kk : Nx L xs c) {s : SS} {h : List aE} (H : HH s h) (G : GW c s) : AW mLaw room_1 (sF L xs lawF) 334 (lvC c) [] h (126 + 4 * c) (60000 + 200 * c) := by
  obtain ⟨rx, s1, rm, s2, ex, em, G2, eq⟩ := s4_ofCell G (by omega) (xs (6 * c + 1)) (xs (6 * c + 2))
  refine aw_aload_n (pc' := 335) dL_law_334 rfl rfl rfl ?_
  refine aw_aload_n (pc' := 336) dL_law_335 rfl rfl rfl ?_
  refine aw_iload_n (pc' := 337) dL_law_336 rfl rfl ?_
  refine aw_iconst (v := 1) (pc' := 338) dL_law_337 rfl (by decide) ?_
  refine aw_iadd (pc' := 339) dL_law_338 rfl ?_
  refine aw_topi (v := nI (6 * c + 1)) (nIadd _ 1) ?_
  refine aw_sld (v := xs (6 * c + 1)) (pc' := 340) dL_law_339 rfl (nI_in (by omega) (by omega)) (by rw [nI_clamp (by omega)]) ?_
  refine aw_aload_n (pc' := 341) dL_law_340 rfl rfl rfl ?_
  refine aw_iload_n (pc' := 342) dL_law_341 rfl rfl ?_
  refine aw_iconst (v := 2) (pc' := 343) dL_law_342 rfl (by decide) ?_
  refine aw_iadd (pc' := 344) dL_law_343 rfl ?_
  refine aw_topi (v := nI (6 * c + 2)) (nIadd _ 2) ?_
  refine aw_sld (v := xs (6 * c + 2)) (pc' := 345) dL_law_344 rfl (nI_in (by omega) (by omega)) (by rw [nI_clamp (by omega)]) ?_
  refine aw_callVi (M' := mX11_ofCell) (nc' := 126 + 4 * c + 0) (ns' := 60000 + 200 * c + 0) (pc' := 348) dL_law_345 rfl ml_RL_22 kX11_ofCell (t_X11_ofCell H ex) (H.ob (H.fo (q := 0) rfl rfl) (by decide)) rfl rfl rfl (Nat.le_of_ble_eq_true rfl) (rokL (by decide) (Nat.le_of_ble_eq_true rfl) (by omega) (by omega)) rfl rfl (fun _ h1 q1 => ?_)
  obtain ⟨rfl, rfl⟩ := q1
  refine aw_pop (pc' := 349) dL_law_348 rfl rfl ?_
  refine aw_aload_n (pc' := 350) dL_law_349 rfl rfl rfl ?_
  refine aw_aload_n (pc' := 351) dL_law_350 rfl rfl rfl ?_
  refine aw_iload_n (pc' := 352) dL_law_351 rfl rfl ?_
  refine aw_iconst (v := 1) (pc' := 353) dL_law_352 rfl (by decide) ?_
  refine aw_iadd (pc' := 354) dL_law_353 rfl ?_
  refine aw_topi (v := nI (6 * c + 1)) (nIadd _ 1) ?_
  refine aw_sld (v := xs (6 * c + 1)) (pc' := 355) dL_law_354 rfl (nI_in (by omega) (by omega)) (by rw [nI_clamp (by omega)]) ?_
  refine aw_aload_n (pc' := 356) dL_law_355 rfl rfl rfl ?_
  refine aw_iload_n (pc' := 357) dL_law_356 rfl rfl ?_
  refine aw_iconst (v := 2) (pc' := 358) dL_law_357 rfl (by decide) ?_
  refine aw_iadd (pc' := 359) dL_law_358 rfl ?_
  refine aw_topi (v := nI (6 * c + 2)) (nIadd _ 2) ?_
  refine aw_sld (v := xs (6 * c + 2)) (pc' := 360) dL_law_359 rfl (nI_in (by omega) (by omega)) (by rw [nI_clamp (by omega)]) ?_
  refine aw_callVi (M' := mX12_ofCell) (nc' := 126 + 4 * c + 0) (ns' := 60000 + 200 * c + 0) (pc' := 363) dL_law_360 rfl ml_RL_25 kX12_ofCell (t_X12_ofCell H em) (H.ob (H.fo (q := 59) rfl rfl) (by decide)) rfl rfl rfl (Nat.le_of_ble_eq_true rfl) (rokL (by decide) (Nat.le_of_ble_eq_true rfl) (by omega) (by omega)) rfl rfl (fun _ h2 q2 => ?_)
  obtain ⟨rfl, rfl⟩ := q2
  refine aw_pop (pc' := 364) dL_law_363 rfl rfl ?_
  refine aw_goto (tgt := 2113) dL_law_364 (by decide) ?_
  refine AW.widen (nc' := 130 + 4 * c) (ns' := 60200 + 200 * c) (by omega) (by omega) ?_
  exact kk _ _ H G2
set_option maxRecDepth 4000 in
theorem lc_3 {L : Nat} {xs : Nat → Int32} {c : Nat} (hL : L ≤ 3072) (hc : 6 * c + 6 ≤ L) (kk : Nx L xs c) {s : SS} {h : List aE} (H : HH s h) (G : GW c s) : AW mLaw room_1 (sF L xs lawF) 367 (lvC c) [] h (126 + 4 * c) (60000 + 200 * c) := by
  obtain ⟨rx, s1, rm, s2, ex, em, G2, eq⟩ := s4_body G (by omega) (xs (6 * c + 1))
  refine aw_aload_n (pc' := 368) dL_law_367 rfl rfl rfl ?_
  refine aw_aload_n (pc' := 369) dL_law_368 rfl rfl rfl ?_
  refine aw_iload_n (pc' := 370) dL_law_369 rfl rfl ?_
  refine aw_iconst (v := 1) (pc' := 371) dL_law_370 rfl (by decide) ?_
  refine aw_iadd (pc' := 372) dL_law_371 rfl ?_
  refine aw_topi (v := nI (6 * c + 1)) (nIadd _ 1) ?_
  refine aw_sld (v := xs (6 * c + 1)) (pc' := 373) dL_law_372 rfl (nI_in (by omega) (by omega)) (by rw [nI_clamp (by omega)]) ?_
  refine aw_callVi (M' := mX11_body) (nc' := 126 + 4 * c + 0) (ns' := 60000 + 200 * c + 0) (pc' := 376) dL_law_373 rfl ml_RL_26 kX11_body (t_X11_body H ex) (H.ob (H.fo (q := 0) rfl rfl) (by decide)) rfl rfl rfl (Nat.le_of_ble_eq_true rfl) (rokL (by decide) (Nat.le_of_ble_eq_true rfl) (by omega) (by omega)) rfl rfl (fun _ h1 q1 => ?_)
  obtain ⟨rfl, H1, -⟩ := q1
  refine aw_pop (pc' := 377) dL_law_376 rfl rfl ?_
  refine aw_aload_n (pc' := 378) dL_law_377 rfl rfl rfl ?_
  refine aw_aload_n (pc' := 379) dL_law_378 rfl rfl rfl ?_
  refine aw_iload_n (pc' := 380) dL_law_379 rfl rfl ?_
  refine aw_iconst (v := 1) (pc' := 381) dL_law_380 rfl (by decide) ?_
  refine aw_iadd (pc' := 382) dL_law_381 rfl ?_
  refine aw_topi (v := nI (6 * c + 1)) (nIadd _ 1) ?_
  refine aw_sld (v := xs (6 * c + 1)) (pc' := 383) dL_law_382 rfl (nI_in (by omega) (by omega)) (by rw [nI_clamp (by omega)]) ?_
  refine aw_callVi (M' := mX12_body) (nc' := 126 + 4 * c + 0) (ns' := 60000 + 200 * c + 0) (pc' := 386) dL_law_383 rfl ml_RL_30 kX12_body (t_X12_body H1 em) (H1.ob (H1.fo (q := 59) rfl rfl) (by decide)) rfl rfl rfl (Nat.le_of_ble_eq_true rfl) (rokL (by decide) (Nat.le_of_ble_eq_true rfl) (by omega) (by omega)) rfl rfl (fun _ h2 q2 => ?_)
  obtain ⟨rfl, H2, -⟩ := q2
  refine aw_pop (pc' := 387) dL_law_386 rfl rfl ?_
  refine aw_goto (tgt := 2113) dL_law_387 (by decide) ?_
  refine AW.widen (nc' := 130 + 4 * c) (ns' := 60200 + 200 * c) (by omega) (by omega) ?_
  exact kk _ _ H2 G2
set_option maxRecDepth 4000 in
theorem lc_4 {L : Nat} {xs : Nat → Int32} {c : Nat} (hL : L ≤ 3072) (hc : 6 * c + 6 ≤ L) (kk : Nx L xs c) {s : SS} {h : List aE} (H : HH s h) (G : GW c s) : AW mLaw room_1 (sF L xs lawF) 390 (lvC c) [] h (126 + 4 * c) (60000 + 200 * c) := by
  obtain ⟨rx, s1, rm, s2, ex, em, G2, eq⟩ := s4_hole G (by omega) (xs (6 * c + 1)) (xs (6 * c + 2))
  refine aw_aload_n (pc' := 391) dL_law_390 rfl rfl rfl ?_
  refine aw_aload_n (pc' := 392) dL_law_391 rfl rfl rfl ?_
  refine aw_iload_n (pc' := 393) dL_law_392 rfl rfl ?_
  refine aw_iconst (v := 1) (pc' := 394) dL_law_393 rfl (by decide) ?_
  refine aw_iadd (pc' := 395) dL_law_394 rfl ?_
  refine aw_topi (v := nI (6 * c + 1)) (nIadd _ 1) ?_
  refine aw_sld (v := xs (6 * c + 1)) (pc' := 396) dL_law_395 rfl (nI_in (by omega) (by omega)) (by rw [nI_clamp (by omega)]) ?_
  refine aw_aload_n (pc' := 397) dL_law_396 rfl rfl rfl ?_
  refine aw_iload_n (pc' := 398) dL_law_397 rfl rfl ?_
  refine aw_iconst (v := 2) (pc' := 399) dL_law_398 rfl (by decide) ?_
  refine aw_iadd (pc' := 400) dL_law_399 rfl ?_
  refine aw_topi (v := nI (6 * c + 2)) (nIadd _ 2) ?_
  refine aw_sld (v := xs (6 * c + 2)) (pc' := 401) dL_law_400 rfl (nI_in (by omega) (by omega)) (by rw [nI_clamp (by omega)]) ?_
  refine aw_callVi (M' := mX11_hole) (nc' := 126 + 4 * c + 4) (ns' := 60000 + 200 * c + 194) (pc' := 404) dL_law_401 rfl ml_RL_31 kX11_hole (t_X11_hole H ex) (H.ob (H.fo (q := 0) rfl rfl) (by decide)) rfl rfl rfl (Nat.le_of_ble_eq_true rfl) (rokL (by decide) (Nat.le_of_ble_eq_true rfl) (by omega) (by omega)) (by omega) (by omega) (fun _ h1 q1 => ?_)
  obtain ⟨rfl, H1, -⟩ := q1
  refine aw_pop (pc' := 405) dL_law_404 rfl rfl ?_
  refine aw_aload_n (pc' := 406) dL_law_405 rfl rfl rfl ?_
  refine aw_aload_n (pc' := 407) dL_law_406 rfl rfl rfl ?_
  refine aw_iload_n (pc' := 408) dL_law_407 rfl rfl ?_
  refine aw_iconst (v := 1) (pc' := 409) dL_law_408 rfl (by decide) ?_
  refine aw_iadd (pc' := 410) dL_law_409 rfl ?_
  refine aw_topi (v := nI (6 * c + 1)) (nIadd _ 1) ?_
  refine aw_sld (v := xs (6 * c + 1)) (pc' := 411) dL_law_410 rfl (nI_in (by omega) (by omega)) (by rw [nI_clamp (by omega)]) ?_
  refine aw_aload_n (pc' := 412) dL_law_411 rfl rfl rfl ?_
  refine aw_iload_n (pc' := 413) dL_law_412 rfl rfl ?_
  refine aw_iconst (v := 2) (pc' := 414) dL_law_413 rfl (by decide) ?_
  refine aw_iadd (pc' := 415) dL_law_414 rfl ?_
  refine aw_topi (v := nI (6 * c + 2)) (nIadd _ 2) ?_
  refine aw_sld (v := xs (6 * c + 2)) (pc' := 416) dL_law_415 rfl (nI_in (by omega) (by omega)) (by rw [nI_clamp (by omega)]) ?_
  refine aw_callVi (M' := mX12_hole) (nc' := 126 + 4 * c + 4) (ns' := 60000 + 200 * c + 194) (pc' := 419) dL_law_416 rfl ml_RL_34 kX12_hole (t_X12_hole H1 em) (H1.ob (H1.fo (q := 59) rfl rfl) (by decide)) rfl rfl rfl (Nat.le_of_ble_eq_true rfl) (rokL (by decide) (Nat.le_of_ble_eq_true rfl) (by omega) (by omega)) (by omega) (by omega) (fun _ h2 q2 => ?_)
  obtain ⟨rfl, H2, -⟩ := q2
  refine aw_pop (pc' := 420) dL_law_419 rfl rfl ?_
  refine aw_goto (tgt := 2113) dL_law_420 (by decide) ?_
  refine AW.widen (nc' := 130 + 4 * c) (ns' := 60200 + 200 * c) (by omega) (by omega) ?_
  exact kk _ _ H2 G2
set_option maxRecDepth 4000 in
theorem lc_5 {L : Nat} {xs : Nat → Int32} {c : Nat} (hL : L ≤ 3072) (hc : 6 * c + 6 ≤ L) (kk : Nx L xs c) {s : SS} {h : List aE} (H : HH s h) (G : GW c s) : AW mLaw room_1 (sF L xs lawF) 423 (lvC c) [] h (126 + 4 * c) (60000 + 200 * c) := by
  obtain ⟨rx, s1, rm, s2, ex, em, G2, eq⟩ := s4_shelter G (by omega) (xs (6 * c + 1)) (xs (6 * c + 2))
  refine aw_aload_n (pc' := 424) dL_law_423 rfl rfl rfl ?_
  refine aw_aload_n (pc' := 425) dL_law_424 rfl rfl rfl ?_
  refine aw_iload_n (pc' := 426) dL_law_425 rfl rfl ?_
  refine aw_iconst (v := 1) (pc' := 427) dL_law_426 rfl (by decide) ?_
  refine aw_iadd (pc' := 428) dL_law_427 rfl ?_
  refine aw_topi (v := nI (6 * c + 1)) (nIadd _ 1) ?_
  refine aw_sld (v := xs (6 * c + 1)) (pc' := 429) dL_law_428 rfl (nI_in (by omega) (by omega)) (by rw [nI_clamp (by omega)]) ?_
  refine aw_aload_n (pc' := 430) dL_law_429 rfl rfl rfl ?_
  refine aw_iload_n (pc' := 431) dL_law_430 rfl rfl ?_
  refine aw_iconst (v := 2) (pc' := 432) dL_law_431 rfl (by decide) ?_
  refine aw_iadd (pc' := 433) dL_law_432 rfl ?_
  refine aw_topi (v := nI (6 * c + 2)) (nIadd _ 2) ?_
  refine aw_sld (v := xs (6 * c + 2)) (pc' := 434) dL_law_433 rfl (nI_in (by omega) (by omega)) (by rw [nI_clamp (by omega)]) ?_
  refine aw_callVi (M' := mX11_shelter) (nc' := 126 + 4 * c + 0) (ns' := 60000 + 200 * c + 0) (pc' := 437) dL_law_434 rfl ml_RL_35 kX11_shelter (t_X11_shelter H ex) (H.ob (H.fo (q := 0) rfl rfl) (by decide)) rfl rfl rfl (Nat.le_of_ble_eq_true rfl) (rokL (by decide) (Nat.le_of_ble_eq_true rfl) (by omega) (by omega)) rfl rfl (fun _ h1 q1 => ?_)
  obtain ⟨rfl, H1, -⟩ := q1
  refine aw_pop (pc' := 438) dL_law_437 rfl rfl ?_
  refine aw_aload_n (pc' := 439) dL_law_438 rfl rfl rfl ?_
  refine aw_aload_n (pc' := 440) dL_law_439 rfl rfl rfl ?_
  refine aw_iload_n (pc' := 441) dL_law_440 rfl rfl ?_
  refine aw_iconst (v := 1) (pc' := 442) dL_law_441 rfl (by decide) ?_
  refine aw_iadd (pc' := 443) dL_law_442 rfl ?_
  refine aw_topi (v := nI (6 * c + 1)) (nIadd _ 1) ?_
  refine aw_sld (v := xs (6 * c + 1)) (pc' := 444) dL_law_443 rfl (nI_in (by omega) (by omega)) (by rw [nI_clamp (by omega)]) ?_
  refine aw_aload_n (pc' := 445) dL_law_444 rfl rfl rfl ?_
  refine aw_iload_n (pc' := 446) dL_law_445 rfl rfl ?_
  refine aw_iconst (v := 2) (pc' := 447) dL_law_446 rfl (by decide) ?_
  refine aw_iadd (pc' := 448) dL_law_447 rfl ?_
  refine aw_topi (v := nI (6 * c + 2)) (nIadd _ 2) ?_
  refine aw_sld (v := xs (6 * c + 2)) (pc' := 449) dL_law_448 rfl (nI_in (by omega) (by omega)) (by rw [nI_clamp (by omega)]) ?_
  refine aw_callVi (M' := mX12_shelter) (nc' := 126 + 4 * c + 0) (ns' := 60000 + 200 * c + 0) (pc' := 452) dL_law_449 rfl ml_RL_38 kX12_shelter (t_X12_shelter H1 em) (H1.ob (H1.fo (q := 59) rfl rfl) (by decide)) rfl rfl rfl (Nat.le_of_ble_eq_true rfl) (rokL (by decide) (Nat.le_of_ble_eq_true rfl) (by omega) (by omega)) rfl rfl (fun _ h2 q2 => ?_)
  obtain ⟨rfl, H2, -⟩ := q2
  refine aw_pop (pc' := 453) dL_law_452 rfl rfl ?_
  refine aw_goto (tgt := 2113) dL_law_453 (by decide) ?_
  refine AW.widen (nc' := 130 + 4 * c) (ns' := 60200 + 200 * c) (by omega) (by omega) ?_
  exact kk _ _ H2 G2
set_option maxRecDepth 4000 in
theorem lc_6 {L : Nat} {xs : Nat → Int32} {c : Nat} (hL : L ≤ 3072) (hc : 6 * c + 6 ≤ L) (kk : Nx L xs c) {s : SS} {h : List aE} (H : HH s h) (G : GW c s) : AW mLaw room_1 (sF L xs lawF) 456 (lvC c) [] h (126 + 4 * c) (60000 + 200 * c) := by
  obtain ⟨rx, s1, rm, s2, ex, em, G2, eq⟩ := s4_man G (by omega) (xs (6 * c + 1)) (xs (6 * c + 2))
  refine aw_aload_n (pc' := 457) dL_law_456 rfl rfl rfl ?_
  refine aw_aload_n (pc' := 458) dL_law_457 rfl rfl rfl ?_
  refine aw_iload_n (pc' := 459) dL_law_458 rfl rfl ?_
  refine aw_iconst (v := 1) (pc' := 460) dL_law_459 rfl (by decide) ?_
  refine aw_iadd (pc' := 461) dL_law_460 rfl ?_
  refine aw_topi (v := nI (6 * c + 1)) (nIadd _ 1) ?_
  refine aw_sld (v := xs (6 * c + 1)) (pc' := 462) dL_law_461 rfl (nI_in (by omega) (by omega)) (by rw [nI_clamp (by omega)]) ?_
  refine aw_aload_n (pc' := 463) dL_law_462 rfl rfl rfl ?_
  refine aw_iload_n (pc' := 464) dL_law_463 rfl rfl ?_
  refine aw_iconst (v := 2) (pc' := 465) dL_law_464 rfl (by decide) ?_
  refine aw_iadd (pc' := 466) dL_law_465 rfl ?_
  refine aw_topi (v := nI (6 * c + 2)) (nIadd _ 2) ?_
  refine aw_sld (v := xs (6 * c + 2)) (pc' := 467) dL_law_466 rfl (nI_in (by omega) (by omega)) (by rw [nI_clamp (by omega)]) ?_
  refine aw_callVi (M' := mX11_man) (nc' := 126 + 4 * c + 0) (ns' := 60000 + 200 * c + 0) (pc' := 470) dL_law_467 rfl ml_RL_39 kX11_man (t_X11_man H ex) (H.ob (H.fo (q := 0) rfl rfl) (by decide)) rfl rfl rfl (Nat.le_of_ble_eq_true rfl) (rokL (by decide) (Nat.le_of_ble_eq_true rfl) (by omega) (by omega)) rfl rfl (fun _ h1 q1 => ?_)
  obtain ⟨rfl, H1, -⟩ := q1
  refine aw_pop (pc' := 471) dL_law_470 rfl rfl ?_
  refine aw_aload_n (pc' := 472) dL_law_471 rfl rfl rfl ?_
  refine aw_aload_n (pc' := 473) dL_law_472 rfl rfl rfl ?_
  refine aw_iload_n (pc' := 474) dL_law_473 rfl rfl ?_
  refine aw_iconst (v := 1) (pc' := 475) dL_law_474 rfl (by decide) ?_
  refine aw_iadd (pc' := 476) dL_law_475 rfl ?_
  refine aw_topi (v := nI (6 * c + 1)) (nIadd _ 1) ?_
  refine aw_sld (v := xs (6 * c + 1)) (pc' := 477) dL_law_476 rfl (nI_in (by omega) (by omega)) (by rw [nI_clamp (by omega)]) ?_
  refine aw_aload_n (pc' := 478) dL_law_477 rfl rfl rfl ?_
  refine aw_iload_n (pc' := 479) dL_law_478 rfl rfl ?_
  refine aw_iconst (v := 2) (pc' := 480) dL_law_479 rfl (by decide) ?_
  refine aw_iadd (pc' := 481) dL_law_480 rfl ?_
  refine aw_topi (v := nI (6 * c + 2)) (nIadd _ 2) ?_
  refine aw_sld (v := xs (6 * c + 2)) (pc' := 482) dL_law_481 rfl (nI_in (by omega) (by omega)) (by rw [nI_clamp (by omega)]) ?_
  refine aw_callVi (M' := mX12_man) (nc' := 126 + 4 * c + 0) (ns' := 60000 + 200 * c + 0) (pc' := 485) dL_law_482 rfl ml_RL_42 kX12_man (t_X12_man H1 em) (H1.ob (H1.fo (q := 59) rfl rfl) (by decide)) rfl rfl rfl (Nat.le_of_ble_eq_true rfl) (rokL (by decide) (Nat.le_of_ble_eq_true rfl) (by omega) (by omega)) rfl rfl (fun _ h2 q2 => ?_)
  obtain ⟨rfl, H2, -⟩ := q2
  refine aw_pop (pc' := 486) dL_law_485 rfl rfl ?_
  refine aw_goto (tgt := 2113) dL_law_486 (by decide) ?_
  refine AW.widen (nc' := 130 + 4 * c) (ns' := 60200 + 200 * c) (by omega) (by omega) ?_
  exact kk _ _ H2 G2
set_option maxRecDepth 4000 in
theorem lc_7 {L : Nat} {xs : Nat → Int32} {c : Nat} (hL : L ≤ 3072) (hc : 6 * c + 6 ≤ L) (kk : Nx L xs c) {s : SS} {h : List aE} (H : HH s h) (G : GW c s) : AW mLaw room_1 (sF L xs lawF) 489 (lvC c) [] h (126 + 4 * c) (60000 + 200 * c) := by
  obtain ⟨rx, s1, rm, s2, ex, em, G2, eq⟩ := s4_ofBody G (by omega) (xs (6 * c + 1)) (xs (6 * c + 2))
  refine aw_aload_n (pc' := 490) dL_law_489 rfl rfl rfl ?_
  refine aw_aload_n (pc' := 491) dL_law_490 rfl rfl rfl ?_
  refine aw_iload_n (pc' := 492) dL_law_491 rfl rfl ?_
  refine aw_iconst (v := 1) (pc' := 493) dL_law_492 rfl (by decide) ?_
  refine aw_iadd (pc' := 494) dL_law_493 rfl ?_
  refine aw_topi (v := nI (6 * c + 1)) (nIadd _ 1) ?_
  refine aw_sld (v := xs (6 * c + 1)) (pc' := 495) dL_law_494 rfl (nI_in (by omega) (by omega)) (by rw [nI_clamp (by omega)]) ?_
  refine aw_aload_n (pc' := 496) dL_law_495 rfl rfl rfl ?_
  refine aw_iload_n (pc' := 497) dL_law_496 rfl rfl ?_
  refine aw_iconst (v := 2) (pc' := 498) dL_law_497 rfl (by decide) ?_
  refine aw_iadd (pc' := 499) dL_law_498 rfl ?_
  refine aw_topi (v := nI (6 * c + 2)) (nIadd _ 2) ?_
  refine aw_sld (v := xs (6 * c + 2)) (pc' := 500) dL_law_499 rfl (nI_in (by omega) (by omega)) (by rw [nI_clamp (by omega)]) ?_
  refine aw_callVi (M' := mX11_ofBody) (nc' := 126 + 4 * c + 0) (ns' := 60000 + 200 * c + 0) (pc' := 503) dL_law_500 rfl ml_RL_43 kX11_ofBody (t_X11_ofBody H ex) (H.ob (H.fo (q := 0) rfl rfl) (by decide)) rfl rfl rfl (Nat.le_of_ble_eq_true rfl) (rokL (by decide) (Nat.le_of_ble_eq_true rfl) (by omega) (by omega)) rfl rfl (fun _ h1 q1 => ?_)
  obtain ⟨rfl, rfl⟩ := q1
  refine aw_pop (pc' := 504) dL_law_503 rfl rfl ?_
  refine aw_aload_n (pc' := 505) dL_law_504 rfl rfl rfl ?_
  refine aw_aload_n (pc' := 506) dL_law_505 rfl rfl rfl ?_
  refine aw_iload_n (pc' := 507) dL_law_506 rfl rfl ?_
  refine aw_iconst (v := 1) (pc' := 508) dL_law_507 rfl (by decide) ?_
  refine aw_iadd (pc' := 509) dL_law_508 rfl ?_
  refine aw_topi (v := nI (6 * c + 1)) (nIadd _ 1) ?_
  refine aw_sld (v := xs (6 * c + 1)) (pc' := 510) dL_law_509 rfl (nI_in (by omega) (by omega)) (by rw [nI_clamp (by omega)]) ?_
  refine aw_aload_n (pc' := 511) dL_law_510 rfl rfl rfl ?_
  refine aw_iload_n (pc' := 512) dL_law_511 rfl rfl ?_
  refine aw_iconst (v := 2) (pc' := 513) dL_law_512 rfl (by decide) ?_
  refine aw_iadd (pc' := 514) dL_law_513 rfl ?_
  refine aw_topi (v := nI (6 * c + 2)) (nIadd _ 2) ?_
  refine aw_sld (v := xs (6 * c + 2)) (pc' := 515) dL_law_514 rfl (nI_in (by omega) (by omega)) (by rw [nI_clamp (by omega)]) ?_
  refine aw_callVi (M' := mX12_ofBody) (nc' := 126 + 4 * c + 0) (ns' := 60000 + 200 * c + 0) (pc' := 518) dL_law_515 rfl ml_RL_46 kX12_ofBody (t_X12_ofBody H em) (H.ob (H.fo (q := 59) rfl rfl) (by decide)) rfl rfl rfl (Nat.le_of_ble_eq_true rfl) (rokL (by decide) (Nat.le_of_ble_eq_true rfl) (by omega) (by omega)) rfl rfl (fun _ h2 q2 => ?_)
  obtain ⟨rfl, rfl⟩ := q2
  refine aw_pop (pc' := 519) dL_law_518 rfl rfl ?_
  refine aw_goto (tgt := 2113) dL_law_519 (by decide) ?_
  refine AW.widen (nc' := 130 + 4 * c) (ns' := 60200 + 200 * c) (by omega) (by omega) ?_
  exact kk _ _ H G2
set_option maxRecDepth 4000 in
theorem lc_8 {L : Nat} {xs : Nat → Int32} {c : Nat} (hL : L ≤ 3072) (hc : 6 * c + 6 ≤ L) (kk : Nx L xs c) {s : SS} {h : List aE} (H : HH s h) (G : GW c s) : AW mLaw room_1 (sF L xs lawF) 522 (lvC c) [] h (126 + 4 * c) (60000 + 200 * c) := by
  obtain ⟨rx, s1, rm, s2, ex, em, G2, eq⟩ := s4_ill G (by omega) (xs (6 * c + 1)) (xs (6 * c + 2))
  refine aw_aload_n (pc' := 523) dL_law_522 rfl rfl rfl ?_
  refine aw_aload_n (pc' := 524) dL_law_523 rfl rfl rfl ?_
  refine aw_iload_n (pc' := 525) dL_law_524 rfl rfl ?_
  refine aw_iconst (v := 1) (pc' := 526) dL_law_525 rfl (by decide) ?_
  refine aw_iadd (pc' := 527) dL_law_526 rfl ?_
  refine aw_topi (v := nI (6 * c + 1)) (nIadd _ 1) ?_
  refine aw_sld (v := xs (6 * c + 1)) (pc' := 528) dL_law_527 rfl (nI_in (by omega) (by omega)) (by rw [nI_clamp (by omega)]) ?_
  refine aw_aload_n (pc' := 529) dL_law_528 rfl rfl rfl ?_
  refine aw_iload_n (pc' := 530) dL_law_529 rfl rfl ?_
  refine aw_iconst (v := 2) (pc' := 531) dL_law_530 rfl (by decide) ?_
  refine aw_iadd (pc' := 532) dL_law_531 rfl ?_
  refine aw_topi (v := nI (6 * c + 2)) (nIadd _ 2) ?_
  refine aw_sld (v := xs (6 * c + 2)) (pc' := 533) dL_law_532 rfl (nI_in (by omega) (by omega)) (by rw [nI_clamp (by omega)]) ?_
  refine aw_callVi (M' := mX11_ill) (nc' := 126 + 4 * c + 0) (ns' := 60000 + 200 * c + 0) (pc' := 536) dL_law_533 rfl ml_RL_47 kX11_ill (t_X11_ill H ex) (H.ob (H.fo (q := 0) rfl rfl) (by decide)) rfl rfl rfl (Nat.le_of_ble_eq_true rfl) (rokL (by decide) (Nat.le_of_ble_eq_true rfl) (by omega) (by omega)) rfl rfl (fun _ h1 q1 => ?_)
  obtain ⟨rfl, H1, -⟩ := q1
  refine aw_pop (pc' := 537) dL_law_536 rfl rfl ?_
  refine aw_aload_n (pc' := 538) dL_law_537 rfl rfl rfl ?_
  refine aw_aload_n (pc' := 539) dL_law_538 rfl rfl rfl ?_
  refine aw_iload_n (pc' := 540) dL_law_539 rfl rfl ?_
  refine aw_iconst (v := 1) (pc' := 541) dL_law_540 rfl (by decide) ?_
  refine aw_iadd (pc' := 542) dL_law_541 rfl ?_
  refine aw_topi (v := nI (6 * c + 1)) (nIadd _ 1) ?_
  refine aw_sld (v := xs (6 * c + 1)) (pc' := 543) dL_law_542 rfl (nI_in (by omega) (by omega)) (by rw [nI_clamp (by omega)]) ?_
  refine aw_aload_n (pc' := 544) dL_law_543 rfl rfl rfl ?_
  refine aw_iload_n (pc' := 545) dL_law_544 rfl rfl ?_
  refine aw_iconst (v := 2) (pc' := 546) dL_law_545 rfl (by decide) ?_
  refine aw_iadd (pc' := 547) dL_law_546 rfl ?_
  refine aw_topi (v := nI (6 * c + 2)) (nIadd _ 2) ?_
  refine aw_sld (v := xs (6 * c + 2)) (pc' := 548) dL_law_547 rfl (nI_in (by omega) (by omega)) (by rw [nI_clamp (by omega)]) ?_
  refine aw_callVi (M' := mX12_ill) (nc' := 126 + 4 * c + 0) (ns' := 60000 + 200 * c + 0) (pc' := 551) dL_law_548 rfl ml_RL_50 kX12_ill (t_X12_ill H1 em) (H1.ob (H1.fo (q := 59) rfl rfl) (by decide)) rfl rfl rfl (Nat.le_of_ble_eq_true rfl) (rokL (by decide) (Nat.le_of_ble_eq_true rfl) (by omega) (by omega)) rfl rfl (fun _ h2 q2 => ?_)
  obtain ⟨rfl, H2, -⟩ := q2
  refine aw_pop (pc' := 552) dL_law_551 rfl rfl ?_
  refine aw_goto (tgt := 2113) dL_law_552 (by decide) ?_
  refine AW.widen (nc' := 130 + 4 * c) (ns' := 60200 + 200 * c) (by omega) (by omega) ?_
  exact kk _ _ H2 G2
set_option maxRecDepth 4000 in
theorem lc_9 {L : Nat} {xs : Nat → Int32} {c : Nat} (hL : L ≤ 3072) (hc : 6 * c + 6 ≤ L) (kk : Nx L xs c) {s : SS} {h : List aE} (H : HH s h) (G : GW c s) : AW mLaw room_1 (sF L xs lawF) 555 (lvC c) [] h (126 + 4 * c) (60000 + 200 * c) := by
  obtain ⟨rx, s1, rm, s2, ex, em, G2, eq⟩ := s4_speed G (by omega) (xs (6 * c + 1)) (xs (6 * c + 2))
  refine aw_aload_n (pc' := 556) dL_law_555 rfl rfl rfl ?_
  refine aw_aload_n (pc' := 557) dL_law_556 rfl rfl rfl ?_
  refine aw_iload_n (pc' := 558) dL_law_557 rfl rfl ?_
  refine aw_iconst (v := 1) (pc' := 559) dL_law_558 rfl (by decide) ?_
  refine aw_iadd (pc' := 560) dL_law_559 rfl ?_
  refine aw_topi (v := nI (6 * c + 1)) (nIadd _ 1) ?_
  refine aw_sld (v := xs (6 * c + 1)) (pc' := 561) dL_law_560 rfl (nI_in (by omega) (by omega)) (by rw [nI_clamp (by omega)]) ?_
  refine aw_aload_n (pc' := 562) dL_law_561 rfl rfl rfl ?_
  refine aw_iload_n (pc' := 563) dL_law_562 rfl rfl ?_
  refine aw_iconst (v := 2) (pc' := 564) dL_law_563 rfl (by decide) ?_
  refine aw_iadd (pc' := 565) dL_law_564 rfl ?_
  refine aw_topi (v := nI (6 * c + 2)) (nIadd _ 2) ?_
  refine aw_sld (v := xs (6 * c + 2)) (pc' := 566) dL_law_565 rfl (nI_in (by omega) (by omega)) (by rw [nI_clamp (by omega)]) ?_
  refine aw_callVi (M' := mX11_speed) (nc' := 126 + 4 * c + 0) (ns' := 60000 + 200 * c + 0) (pc' := 569) dL_law_566 rfl ml_RL_51 kX11_speed (t_X11_speed H ex) (H.ob (H.fo (q := 0) rfl rfl) (by decide)) rfl rfl rfl (Nat.le_of_ble_eq_true rfl) (rokL (by decide) (Nat.le_of_ble_eq_true rfl) (by omega) (by omega)) rfl rfl (fun _ h1 q1 => ?_)
  obtain ⟨rfl, H1, -⟩ := q1
  refine aw_pop (pc' := 570) dL_law_569 rfl rfl ?_
  refine aw_aload_n (pc' := 571) dL_law_570 rfl rfl rfl ?_
  refine aw_aload_n (pc' := 572) dL_law_571 rfl rfl rfl ?_
  refine aw_iload_n (pc' := 573) dL_law_572 rfl rfl ?_
  refine aw_iconst (v := 1) (pc' := 574) dL_law_573 rfl (by decide) ?_
  refine aw_iadd (pc' := 575) dL_law_574 rfl ?_
  refine aw_topi (v := nI (6 * c + 1)) (nIadd _ 1) ?_
  refine aw_sld (v := xs (6 * c + 1)) (pc' := 576) dL_law_575 rfl (nI_in (by omega) (by omega)) (by rw [nI_clamp (by omega)]) ?_
  refine aw_aload_n (pc' := 577) dL_law_576 rfl rfl rfl ?_
  refine aw_iload_n (pc' := 578) dL_law_577 rfl rfl ?_
  refine aw_iconst (v := 2) (pc' := 579) dL_law_578 rfl (by decide) ?_
  refine aw_iadd (pc' := 580) dL_law_579 rfl ?_
  refine aw_topi (v := nI (6 * c + 2)) (nIadd _ 2) ?_
  refine aw_sld (v := xs (6 * c + 2)) (pc' := 581) dL_law_580 rfl (nI_in (by omega) (by omega)) (by rw [nI_clamp (by omega)]) ?_
  refine aw_callVi (M' := mX12_speed) (nc' := 126 + 4 * c + 0) (ns' := 60000 + 200 * c + 0) (pc' := 584) dL_law_581 rfl ml_RL_54 kX12_speed (t_X12_speed H1 em) (H1.ob (H1.fo (q := 59) rfl rfl) (by decide)) rfl rfl rfl (Nat.le_of_ble_eq_true rfl) (rokL (by decide) (Nat.le_of_ble_eq_true rfl) (by omega) (by omega)) rfl rfl (fun _ h2 q2 => ?_)
  obtain ⟨rfl, H2, -⟩ := q2
  refine aw_pop (pc' := 585) dL_law_584 rfl rfl ?_
  refine aw_goto (tgt := 2113) dL_law_585 (by decide) ?_
  refine AW.widen (nc' := 130 + 4 * c) (ns' := 60200 + 200 * c) (by omega) (by omega) ?_
  exact kk _ _ H2 G2
set_option maxRecDepth 4000 in
theorem lc_10 {L : Nat} {xs : Nat → Int32} {c : Nat} (hL : L ≤ 3072) (hc : 6 * c + 6 ≤ L) (kk : Nx L xs c) {s : SS} {h : List aE} (H : HH s h) (G : GW c s) : AW mLaw room_1 (sF L xs lawF) 588 (lvC c) [] h (126 + 4 * c) (60000 + 200 * c) := by
  obtain ⟨rx, s1, rm, s2, ex, em, G2, eq⟩ := s4_set G (by omega) (xs (6 * c + 1)) (xs (6 * c + 2))
  refine aw_aload_n (pc' := 589) dL_law_588 rfl rfl rfl ?_
  refine aw_aload_n (pc' := 590) dL_law_589 rfl rfl rfl ?_
  refine aw_iload_n (pc' := 591) dL_law_590 rfl rfl ?_
  refine aw_iconst (v := 1) (pc' := 592) dL_law_591 rfl (by decide) ?_
  refine aw_iadd (pc' := 593) dL_law_592 rfl ?_
  refine aw_topi (v := nI (6 * c + 1)) (nIadd _ 1) ?_
  refine aw_sld (v := xs (6 * c + 1)) (pc' := 594) dL_law_593 rfl (nI_in (by omega) (by omega)) (by rw [nI_clamp (by omega)]) ?_
  refine aw_aload_n (pc' := 595) dL_law_594 rfl rfl rfl ?_
  refine aw_iload_n (pc' := 596) dL_law_595 rfl rfl ?_
  refine aw_iconst (v := 2) (pc' := 597) dL_law_596 rfl (by decide) ?_
  refine aw_iadd (pc' := 598) dL_law_597 rfl ?_
  refine aw_topi (v := nI (6 * c + 2)) (nIadd _ 2) ?_
  refine aw_sld (v := xs (6 * c + 2)) (pc' := 599) dL_law_598 rfl (nI_in (by omega) (by omega)) (by rw [nI_clamp (by omega)]) ?_
  refine aw_callVi (M' := mX11_set) (nc' := 126 + 4 * c + 0) (ns' := 60000 + 200 * c + 0) (pc' := 602) dL_law_599 rfl ml_RL_55 kX11_set (t_X11_set H ex) (H.ob (H.fo (q := 0) rfl rfl) (by decide)) rfl rfl rfl (Nat.le_of_ble_eq_true rfl) (rokL (by decide) (Nat.le_of_ble_eq_true rfl) (by omega) (by omega)) rfl rfl (fun _ h1 q1 => ?_)
  obtain ⟨rfl, H1, -⟩ := q1
  refine aw_pop (pc' := 603) dL_law_602 rfl rfl ?_
  refine aw_aload_n (pc' := 604) dL_law_603 rfl rfl rfl ?_
  refine aw_aload_n (pc' := 605) dL_law_604 rfl rfl rfl ?_
  refine aw_iload_n (pc' := 606) dL_law_605 rfl rfl ?_
  refine aw_iconst (v := 1) (pc' := 607) dL_law_606 rfl (by decide) ?_
  refine aw_iadd (pc' := 608) dL_law_607 rfl ?_
  refine aw_topi (v := nI (6 * c + 1)) (nIadd _ 1) ?_
  refine aw_sld (v := xs (6 * c + 1)) (pc' := 609) dL_law_608 rfl (nI_in (by omega) (by omega)) (by rw [nI_clamp (by omega)]) ?_
  refine aw_aload_n (pc' := 610) dL_law_609 rfl rfl rfl ?_
  refine aw_iload_n (pc' := 611) dL_law_610 rfl rfl ?_
  refine aw_iconst (v := 2) (pc' := 612) dL_law_611 rfl (by decide) ?_
  refine aw_iadd (pc' := 613) dL_law_612 rfl ?_
  refine aw_topi (v := nI (6 * c + 2)) (nIadd _ 2) ?_
  refine aw_sld (v := xs (6 * c + 2)) (pc' := 614) dL_law_613 rfl (nI_in (by omega) (by omega)) (by rw [nI_clamp (by omega)]) ?_
  refine aw_callVi (M' := mX12_set) (nc' := 126 + 4 * c + 0) (ns' := 60000 + 200 * c + 0) (pc' := 617) dL_law_614 rfl ml_RL_58 kX12_set (t_X12_set H1 em) (H1.ob (H1.fo (q := 59) rfl rfl) (by decide)) rfl rfl rfl (Nat.le_of_ble_eq_true rfl) (rokL (by decide) (Nat.le_of_ble_eq_true rfl) (by omega) (by omega)) rfl rfl (fun _ h2 q2 => ?_)
  obtain ⟨rfl, H2, -⟩ := q2
  refine aw_pop (pc' := 618) dL_law_617 rfl rfl ?_
  refine aw_goto (tgt := 2113) dL_law_618 (by decide) ?_
  refine AW.widen (nc' := 130 + 4 * c) (ns' := 60200 + 200 * c) (by omega) (by omega) ?_
  exact kk _ _ H2 G2
set_option maxRecDepth 4000 in
theorem lc_11 {L : Nat} {xs : Nat → Int32} {c : Nat} (hL : L ≤ 3072) (hc : 6 * c + 6 ≤ L) (kk : Nx L xs c) {s : SS} {h : List aE} (H : HH s h) (G : GW c s) : AW mLaw room_1 (sF L xs lawF) 621 (lvC c) [] h (126 + 4 * c) (60000 + 200 * c) := by
  obtain ⟨rx, s1, rm, s2, ex, em, G2, eq⟩ := s4_breaks G (by omega) (xs (6 * c + 1)) (xs (6 * c + 2))
  refine aw_aload_n (pc' := 622) dL_law_621 rfl rfl rfl ?_
  refine aw_aload_n (pc' := 623) dL_law_622 rfl rfl rfl ?_
  refine aw_iload_n (pc' := 624) dL_law_623 rfl rfl ?_
  refine aw_iconst (v := 1) (pc' := 625) dL_law_624 rfl (by decide) ?_
  refine aw_iadd (pc' := 626) dL_law_625 rfl ?_
  refine aw_topi (v := nI (6 * c + 1)) (nIadd _ 1) ?_
  refine aw_sld (v := xs (6 * c + 1)) (pc' := 627) dL_law_626 rfl (nI_in (by omega) (by omega)) (by rw [nI_clamp (by omega)]) ?_
  refine aw_aload_n (pc' := 628) dL_law_627 rfl rfl rfl ?_
  refine aw_iload_n (pc' := 629) dL_law_628 rfl rfl ?_
  refine aw_iconst (v := 2) (pc' := 630) dL_law_629 rfl (by decide) ?_
  refine aw_iadd (pc' := 631) dL_law_630 rfl ?_
  refine aw_topi (v := nI (6 * c + 2)) (nIadd _ 2) ?_
  refine aw_sld (v := xs (6 * c + 2)) (pc' := 632) dL_law_631 rfl (nI_in (by omega) (by omega)) (by rw [nI_clamp (by omega)]) ?_
  refine aw_callVi (M' := mX11_breaks) (nc' := 126 + 4 * c + 0) (ns' := 60000 + 200 * c + 0) (pc' := 635) dL_law_632 rfl ml_RL_59 kX11_breaks (t_X11_breaks H ex) (H.ob (H.fo (q := 0) rfl rfl) (by decide)) rfl rfl rfl (Nat.le_of_ble_eq_true rfl) (rokL (by decide) (Nat.le_of_ble_eq_true rfl) (by omega) (by omega)) rfl rfl (fun _ h1 q1 => ?_)
  obtain ⟨rfl, H1, -⟩ := q1
  refine aw_pop (pc' := 636) dL_law_635 rfl rfl ?_
  refine aw_aload_n (pc' := 637) dL_law_636 rfl rfl rfl ?_
  refine aw_aload_n (pc' := 638) dL_law_637 rfl rfl rfl ?_
  refine aw_iload_n (pc' := 639) dL_law_638 rfl rfl ?_
  refine aw_iconst (v := 1) (pc' := 640) dL_law_639 rfl (by decide) ?_
  refine aw_iadd (pc' := 641) dL_law_640 rfl ?_
  refine aw_topi (v := nI (6 * c + 1)) (nIadd _ 1) ?_
  refine aw_sld (v := xs (6 * c + 1)) (pc' := 642) dL_law_641 rfl (nI_in (by omega) (by omega)) (by rw [nI_clamp (by omega)]) ?_
  refine aw_aload_n (pc' := 643) dL_law_642 rfl rfl rfl ?_
  refine aw_iload_n (pc' := 644) dL_law_643 rfl rfl ?_
  refine aw_iconst (v := 2) (pc' := 645) dL_law_644 rfl (by decide) ?_
  refine aw_iadd (pc' := 646) dL_law_645 rfl ?_
  refine aw_topi (v := nI (6 * c + 2)) (nIadd _ 2) ?_
  refine aw_sld (v := xs (6 * c + 2)) (pc' := 647) dL_law_646 rfl (nI_in (by omega) (by omega)) (by rw [nI_clamp (by omega)]) ?_
  refine aw_callVi (M' := mX12_breaks) (nc' := 126 + 4 * c + 0) (ns' := 60000 + 200 * c + 0) (pc' := 650) dL_law_647 rfl ml_RL_62 kX12_breaks (t_X12_breaks H1 em) (H1.ob (H1.fo (q := 59) rfl rfl) (by decide)) rfl rfl rfl (Nat.le_of_ble_eq_true rfl) (rokL (by decide) (Nat.le_of_ble_eq_true rfl) (by omega) (by omega)) rfl rfl (fun _ h2 q2 => ?_)
  obtain ⟨rfl, H2, -⟩ := q2
  refine aw_pop (pc' := 651) dL_law_650 rfl rfl ?_
  refine aw_goto (tgt := 2113) dL_law_651 (by decide) ?_
  refine AW.widen (nc' := 130 + 4 * c) (ns' := 60200 + 200 * c) (by omega) (by omega) ?_
  exact kk _ _ H2 G2
set_option maxRecDepth 4000 in
theorem lc_12 {L : Nat} {xs : Nat → Int32} {c : Nat} (hL : L ≤ 3072) (hc : 6 * c + 6 ≤ L) (kk : Nx L xs c) {s : SS} {h : List aE} (H : HH s h) (G : GW c s) : AW mLaw room_1 (sF L xs lawF) 654 (lvC c) [] h (126 + 4 * c) (60000 + 200 * c) := by
  obtain ⟨rx, s1, rm, s2, ex, em, G2, eq⟩ := s4_yard G (by omega) (xs (6 * c + 1)) (xs (6 * c + 2))
  refine aw_aload_n (pc' := 655) dL_law_654 rfl rfl rfl ?_
  refine aw_aload_n (pc' := 656) dL_law_655 rfl rfl rfl ?_
  refine aw_iload_n (pc' := 657) dL_law_656 rfl rfl ?_
  refine aw_iconst (v := 1) (pc' := 658) dL_law_657 rfl (by decide) ?_
  refine aw_iadd (pc' := 659) dL_law_658 rfl ?_
  refine aw_topi (v := nI (6 * c + 1)) (nIadd _ 1) ?_
  refine aw_sld (v := xs (6 * c + 1)) (pc' := 660) dL_law_659 rfl (nI_in (by omega) (by omega)) (by rw [nI_clamp (by omega)]) ?_
  refine aw_aload_n (pc' := 661) dL_law_660 rfl rfl rfl ?_
  refine aw_iload_n (pc' := 662) dL_law_661 rfl rfl ?_
  refine aw_iconst (v := 2) (pc' := 663) dL_law_662 rfl (by decide) ?_
  refine aw_iadd (pc' := 664) dL_law_663 rfl ?_
  refine aw_topi (v := nI (6 * c + 2)) (nIadd _ 2) ?_
  refine aw_sld (v := xs (6 * c + 2)) (pc' := 665) dL_law_664 rfl (nI_in (by omega) (by omega)) (by rw [nI_clamp (by omega)]) ?_
  refine aw_callVi (M' := mX11_yard) (nc' := 126 + 4 * c + 0) (ns' := 60000 + 200 * c + 0) (pc' := 668) dL_law_665 rfl ml_RL_63 kX11_yard (t_X11_yard H ex) (H.ob (H.fo (q := 0) rfl rfl) (by decide)) rfl rfl rfl (Nat.le_of_ble_eq_true rfl) (rokL (by decide) (Nat.le_of_ble_eq_true rfl) (by omega) (by omega)) rfl rfl (fun _ h1 q1 => ?_)
  obtain ⟨rfl, H1, -⟩ := q1
  refine aw_pop (pc' := 669) dL_law_668 rfl rfl ?_
  refine aw_aload_n (pc' := 670) dL_law_669 rfl rfl rfl ?_
  refine aw_aload_n (pc' := 671) dL_law_670 rfl rfl rfl ?_
  refine aw_iload_n (pc' := 672) dL_law_671 rfl rfl ?_
  refine aw_iconst (v := 1) (pc' := 673) dL_law_672 rfl (by decide) ?_
  refine aw_iadd (pc' := 674) dL_law_673 rfl ?_
  refine aw_topi (v := nI (6 * c + 1)) (nIadd _ 1) ?_
  refine aw_sld (v := xs (6 * c + 1)) (pc' := 675) dL_law_674 rfl (nI_in (by omega) (by omega)) (by rw [nI_clamp (by omega)]) ?_
  refine aw_aload_n (pc' := 676) dL_law_675 rfl rfl rfl ?_
  refine aw_iload_n (pc' := 677) dL_law_676 rfl rfl ?_
  refine aw_iconst (v := 2) (pc' := 678) dL_law_677 rfl (by decide) ?_
  refine aw_iadd (pc' := 679) dL_law_678 rfl ?_
  refine aw_topi (v := nI (6 * c + 2)) (nIadd _ 2) ?_
  refine aw_sld (v := xs (6 * c + 2)) (pc' := 680) dL_law_679 rfl (nI_in (by omega) (by omega)) (by rw [nI_clamp (by omega)]) ?_
  refine aw_callVi (M' := mX12_yard) (nc' := 126 + 4 * c + 0) (ns' := 60000 + 200 * c + 0) (pc' := 683) dL_law_680 rfl ml_RL_66 kX12_yard (t_X12_yard H1 em) (H1.ob (H1.fo (q := 59) rfl rfl) (by decide)) rfl rfl rfl (Nat.le_of_ble_eq_true rfl) (rokL (by decide) (Nat.le_of_ble_eq_true rfl) (by omega) (by omega)) rfl rfl (fun _ h2 q2 => ?_)
  obtain ⟨rfl, H2, -⟩ := q2
  refine aw_pop (pc' := 684) dL_law_683 rfl rfl ?_
  refine aw_goto (tgt := 2113) dL_law_684 (by decide) ?_
  refine AW.widen (nc' := 130 + 4 * c) (ns' := 60200 + 200 * c) (by omega) (by omega) ?_
  exact kk _ _ H2 G2
set_option maxRecDepth 4000 in
theorem lc_13 {L : Nat} {xs : Nat → Int32} {c : Nat} (hL : L ≤ 3072) (hc : 6 * c + 6 ≤ L) (kk : Nx L xs c) {s : SS} {h : List aE} (H : HH s h) (G : GW c s) : AW mLaw room_1 (sF L xs lawF) 687 (lvC c) [] h (126 + 4 * c) (60000 + 200 * c) := by
  obtain ⟨rx, s1, rm, s2, ex, em, G2, eq⟩ := s4_met G (by omega) (xs (6 * c + 1)) (xs (6 * c + 2))
  refine aw_aload_n (pc' := 688) dL_law_687 rfl rfl rfl ?_
  refine aw_aload_n (pc' := 689) dL_law_688 rfl rfl rfl ?_
  refine aw_iload_n (pc' := 690) dL_law_689 rfl rfl ?_
  refine aw_iconst (v := 1) (pc' := 691) dL_law_690 rfl (by decide) ?_
  refine aw_iadd (pc' := 692) dL_law_691 rfl ?_
  refine aw_topi (v := nI (6 * c + 1)) (nIadd _ 1) ?_
  refine aw_sld (v := xs (6 * c + 1)) (pc' := 693) dL_law_692 rfl (nI_in (by omega) (by omega)) (by rw [nI_clamp (by omega)]) ?_
  refine aw_aload_n (pc' := 694) dL_law_693 rfl rfl rfl ?_
  refine aw_iload_n (pc' := 695) dL_law_694 rfl rfl ?_
  refine aw_iconst (v := 2) (pc' := 696) dL_law_695 rfl (by decide) ?_
  refine aw_iadd (pc' := 697) dL_law_696 rfl ?_
  refine aw_topi (v := nI (6 * c + 2)) (nIadd _ 2) ?_
  refine aw_sld (v := xs (6 * c + 2)) (pc' := 698) dL_law_697 rfl (nI_in (by omega) (by omega)) (by rw [nI_clamp (by omega)]) ?_
  refine aw_callVi (M' := mX11_met) (nc' := 126 + 4 * c + 0) (ns' := 60000 + 200 * c + 0) (pc' := 701) dL_law_698 rfl ml_RL_67 kX11_met (t_X11_met H ex) (H.ob (H.fo (q := 0) rfl rfl) (by decide)) rfl rfl rfl (Nat.le_of_ble_eq_true rfl) (rokL (by decide) (Nat.le_of_ble_eq_true rfl) (by omega) (by omega)) rfl rfl (fun _ h1 q1 => ?_)
  obtain ⟨rfl, rfl⟩ := q1
  refine aw_pop (pc' := 702) dL_law_701 rfl rfl ?_
  refine aw_aload_n (pc' := 703) dL_law_702 rfl rfl rfl ?_
  refine aw_aload_n (pc' := 704) dL_law_703 rfl rfl rfl ?_
  refine aw_iload_n (pc' := 705) dL_law_704 rfl rfl ?_
  refine aw_iconst (v := 1) (pc' := 706) dL_law_705 rfl (by decide) ?_
  refine aw_iadd (pc' := 707) dL_law_706 rfl ?_
  refine aw_topi (v := nI (6 * c + 1)) (nIadd _ 1) ?_
  refine aw_sld (v := xs (6 * c + 1)) (pc' := 708) dL_law_707 rfl (nI_in (by omega) (by omega)) (by rw [nI_clamp (by omega)]) ?_
  refine aw_aload_n (pc' := 709) dL_law_708 rfl rfl rfl ?_
  refine aw_iload_n (pc' := 710) dL_law_709 rfl rfl ?_
  refine aw_iconst (v := 2) (pc' := 711) dL_law_710 rfl (by decide) ?_
  refine aw_iadd (pc' := 712) dL_law_711 rfl ?_
  refine aw_topi (v := nI (6 * c + 2)) (nIadd _ 2) ?_
  refine aw_sld (v := xs (6 * c + 2)) (pc' := 713) dL_law_712 rfl (nI_in (by omega) (by omega)) (by rw [nI_clamp (by omega)]) ?_
  refine aw_callVi (M' := mX12_met) (nc' := 126 + 4 * c + 0) (ns' := 60000 + 200 * c + 0) (pc' := 716) dL_law_713 rfl ml_RL_70 kX12_met (t_X12_met H em) (H.ob (H.fo (q := 59) rfl rfl) (by decide)) rfl rfl rfl (Nat.le_of_ble_eq_true rfl) (rokL (by decide) (Nat.le_of_ble_eq_true rfl) (by omega) (by omega)) rfl rfl (fun _ h2 q2 => ?_)
  obtain ⟨rfl, rfl⟩ := q2
  refine aw_pop (pc' := 717) dL_law_716 rfl rfl ?_
  refine aw_goto (tgt := 2113) dL_law_717 (by decide) ?_
  refine AW.widen (nc' := 130 + 4 * c) (ns' := 60200 + 200 * c) (by omega) (by omega) ?_
  exact kk _ _ H G2
set_option maxRecDepth 4000 in
theorem lc_14 {L : Nat} {xs : Nat → Int32} {c : Nat} (hL : L ≤ 3072) (hc : 6 * c + 6 ≤ L) (kk : Nx L xs c) {s : SS} {h : List aE} (H : HH s h) (G : GW c s) : AW mLaw room_1 (sF L xs lawF) 720 (lvC c) [] h (126 + 4 * c) (60000 + 200 * c) := by
  obtain ⟨rx, s1, rm, s2, ex, em, G2, eq⟩ := s4_log G (by omega) (xs (6 * c + 1)) (xs (6 * c + 2)) (xs (6 * c + 3)) (xs (6 * c + 4)) (xs (6 * c + 5))
  refine aw_aload_n (pc' := 721) dL_law_720 rfl rfl rfl ?_
  refine aw_aload_n (pc' := 722) dL_law_721 rfl rfl rfl ?_
  refine aw_iload_n (pc' := 723) dL_law_722 rfl rfl ?_
  refine aw_iconst (v := 1) (pc' := 724) dL_law_723 rfl (by decide) ?_
  refine aw_iadd (pc' := 725) dL_law_724 rfl ?_
  refine aw_topi (v := nI (6 * c + 1)) (nIadd _ 1) ?_
  refine aw_sld (v := xs (6 * c + 1)) (pc' := 726) dL_law_725 rfl (nI_in (by omega) (by omega)) (by rw [nI_clamp (by omega)]) ?_
  refine aw_aload_n (pc' := 727) dL_law_726 rfl rfl rfl ?_
  refine aw_iload_n (pc' := 728) dL_law_727 rfl rfl ?_
  refine aw_iconst (v := 2) (pc' := 729) dL_law_728 rfl (by decide) ?_
  refine aw_iadd (pc' := 730) dL_law_729 rfl ?_
  refine aw_topi (v := nI (6 * c + 2)) (nIadd _ 2) ?_
  refine aw_sld (v := xs (6 * c + 2)) (pc' := 731) dL_law_730 rfl (nI_in (by omega) (by omega)) (by rw [nI_clamp (by omega)]) ?_
  refine aw_aload_n (pc' := 732) dL_law_731 rfl rfl rfl ?_
  refine aw_iload_n (pc' := 733) dL_law_732 rfl rfl ?_
  refine aw_iconst (v := 3) (pc' := 734) dL_law_733 rfl (by decide) ?_
  refine aw_iadd (pc' := 735) dL_law_734 rfl ?_
  refine aw_topi (v := nI (6 * c + 3)) (nIadd _ 3) ?_
  refine aw_sld (v := xs (6 * c + 3)) (pc' := 736) dL_law_735 rfl (nI_in (by omega) (by omega)) (by rw [nI_clamp (by omega)]) ?_
  refine aw_aload_n (pc' := 737) dL_law_736 rfl rfl rfl ?_
  refine aw_iload_n (pc' := 738) dL_law_737 rfl rfl ?_
  refine aw_iconst (v := 4) (pc' := 739) dL_law_738 rfl (by decide) ?_
  refine aw_iadd (pc' := 740) dL_law_739 rfl ?_
  refine aw_topi (v := nI (6 * c + 4)) (nIadd _ 4) ?_
  refine aw_sld (v := xs (6 * c + 4)) (pc' := 741) dL_law_740 rfl (nI_in (by omega) (by omega)) (by rw [nI_clamp (by omega)]) ?_
  refine aw_aload_n (pc' := 742) dL_law_741 rfl rfl rfl ?_
  refine aw_iload_n (pc' := 743) dL_law_742 rfl rfl ?_
  refine aw_iconst (v := 5) (pc' := 744) dL_law_743 rfl (by decide) ?_
  refine aw_iadd (pc' := 745) dL_law_744 rfl ?_
  refine aw_topi (v := nI (6 * c + 5)) (nIadd _ 5) ?_
  refine aw_sld (v := xs (6 * c + 5)) (pc' := 746) dL_law_745 rfl (nI_in (by omega) (by omega)) (by rw [nI_clamp (by omega)]) ?_
  refine aw_callVi (M' := mX11_log) (nc' := 126 + 4 * c + 0) (ns' := 60000 + 200 * c + 0) (pc' := 749) dL_law_746 rfl ml_RL_71 kX11_log (t_X11_log H ex) (H.ob (H.fo (q := 0) rfl rfl) (by decide)) rfl rfl rfl (Nat.le_of_ble_eq_true rfl) (rokL (by decide) (Nat.le_of_ble_eq_true rfl) (by omega) (by omega)) rfl rfl (fun _ h1 q1 => ?_)
  obtain ⟨rfl, H1, -⟩ := q1
  refine aw_pop (pc' := 750) dL_law_749 rfl rfl ?_
  refine aw_aload_n (pc' := 751) dL_law_750 rfl rfl rfl ?_
  refine aw_aload_n (pc' := 752) dL_law_751 rfl rfl rfl ?_
  refine aw_iload_n (pc' := 753) dL_law_752 rfl rfl ?_
  refine aw_iconst (v := 1) (pc' := 754) dL_law_753 rfl (by decide) ?_
  refine aw_iadd (pc' := 755) dL_law_754 rfl ?_
  refine aw_topi (v := nI (6 * c + 1)) (nIadd _ 1) ?_
  refine aw_sld (v := xs (6 * c + 1)) (pc' := 756) dL_law_755 rfl (nI_in (by omega) (by omega)) (by rw [nI_clamp (by omega)]) ?_
  refine aw_aload_n (pc' := 757) dL_law_756 rfl rfl rfl ?_
  refine aw_iload_n (pc' := 758) dL_law_757 rfl rfl ?_
  refine aw_iconst (v := 2) (pc' := 759) dL_law_758 rfl (by decide) ?_
  refine aw_iadd (pc' := 760) dL_law_759 rfl ?_
  refine aw_topi (v := nI (6 * c + 2)) (nIadd _ 2) ?_
  refine aw_sld (v := xs (6 * c + 2)) (pc' := 761) dL_law_760 rfl (nI_in (by omega) (by omega)) (by rw [nI_clamp (by omega)]) ?_
  refine aw_aload_n (pc' := 762) dL_law_761 rfl rfl rfl ?_
  refine aw_iload_n (pc' := 763) dL_law_762 rfl rfl ?_
  refine aw_iconst (v := 3) (pc' := 764) dL_law_763 rfl (by decide) ?_
  refine aw_iadd (pc' := 765) dL_law_764 rfl ?_
  refine aw_topi (v := nI (6 * c + 3)) (nIadd _ 3) ?_
  refine aw_sld (v := xs (6 * c + 3)) (pc' := 766) dL_law_765 rfl (nI_in (by omega) (by omega)) (by rw [nI_clamp (by omega)]) ?_
  refine aw_aload_n (pc' := 767) dL_law_766 rfl rfl rfl ?_
  refine aw_iload_n (pc' := 768) dL_law_767 rfl rfl ?_
  refine aw_iconst (v := 4) (pc' := 769) dL_law_768 rfl (by decide) ?_
  refine aw_iadd (pc' := 770) dL_law_769 rfl ?_
  refine aw_topi (v := nI (6 * c + 4)) (nIadd _ 4) ?_
  refine aw_sld (v := xs (6 * c + 4)) (pc' := 771) dL_law_770 rfl (nI_in (by omega) (by omega)) (by rw [nI_clamp (by omega)]) ?_
  refine aw_aload_n (pc' := 772) dL_law_771 rfl rfl rfl ?_
  refine aw_iload_n (pc' := 773) dL_law_772 rfl rfl ?_
  refine aw_iconst (v := 5) (pc' := 774) dL_law_773 rfl (by decide) ?_
  refine aw_iadd (pc' := 775) dL_law_774 rfl ?_
  refine aw_topi (v := nI (6 * c + 5)) (nIadd _ 5) ?_
  refine aw_sld (v := xs (6 * c + 5)) (pc' := 776) dL_law_775 rfl (nI_in (by omega) (by omega)) (by rw [nI_clamp (by omega)]) ?_
  refine aw_callVi (M' := mX12_log) (nc' := 126 + 4 * c + 0) (ns' := 60000 + 200 * c + 0) (pc' := 779) dL_law_776 rfl ml_RL_75 kX12_log (t_X12_log H1 em) (H1.ob (H1.fo (q := 59) rfl rfl) (by decide)) rfl rfl rfl (Nat.le_of_ble_eq_true rfl) (rokL (by decide) (Nat.le_of_ble_eq_true rfl) (by omega) (by omega)) rfl rfl (fun _ h2 q2 => ?_)
  obtain ⟨rfl, H2, -⟩ := q2
  refine aw_pop (pc' := 780) dL_law_779 rfl rfl ?_
  refine aw_goto (tgt := 2113) dL_law_780 (by decide) ?_
  refine AW.widen (nc' := 130 + 4 * c) (ns' := 60200 + 200 * c) (by omega) (by omega) ?_
  exact kk _ _ H2 G2
set_option maxRecDepth 4000 in
theorem lc_15 {L : Nat} {xs : Nat → Int32} {c : Nat} (hL : L ≤ 3072) (hc : 6 * c + 6 ≤ L) (kk : Nx L xs c) {s : SS} {h : List aE} (H : HH s h) (G : GW c s) : AW mLaw room_1 (sF L xs lawF) 783 (lvC c) [] h (126 + 4 * c) (60000 + 200 * c) := by
  obtain ⟨rx, s1, rm, s2, ex, em, G2, eq⟩ := s4_spread G (by omega) (xs (6 * c + 1))
  refine aw_aload_n (pc' := 784) dL_law_783 rfl rfl rfl ?_
  refine aw_aload_n (pc' := 785) dL_law_784 rfl rfl rfl ?_
  refine aw_iload_n (pc' := 786) dL_law_785 rfl rfl ?_
  refine aw_iconst (v := 1) (pc' := 787) dL_law_786 rfl (by decide) ?_
  refine aw_iadd (pc' := 788) dL_law_787 rfl ?_
  refine aw_topi (v := nI (6 * c + 1)) (nIadd _ 1) ?_
  refine aw_sld (v := xs (6 * c + 1)) (pc' := 789) dL_law_788 rfl (nI_in (by omega) (by omega)) (by rw [nI_clamp (by omega)]) ?_
  refine aw_callVi (M' := mX11_spread) (nc' := 126 + 4 * c + 0) (ns' := 60000 + 200 * c + 0) (pc' := 792) dL_law_789 rfl ml_RL_76 kX11_spread (t_X11_spread H ex) (H.ob (H.fo (q := 0) rfl rfl) (by decide)) rfl rfl rfl (Nat.le_of_ble_eq_true rfl) (rokL (by decide) (Nat.le_of_ble_eq_true rfl) (by omega) (by omega)) rfl rfl (fun _ h1 q1 => ?_)
  obtain ⟨rfl, H1, -⟩ := q1
  refine aw_pop (pc' := 793) dL_law_792 rfl rfl ?_
  refine aw_aload_n (pc' := 794) dL_law_793 rfl rfl rfl ?_
  refine aw_aload_n (pc' := 795) dL_law_794 rfl rfl rfl ?_
  refine aw_iload_n (pc' := 796) dL_law_795 rfl rfl ?_
  refine aw_iconst (v := 1) (pc' := 797) dL_law_796 rfl (by decide) ?_
  refine aw_iadd (pc' := 798) dL_law_797 rfl ?_
  refine aw_topi (v := nI (6 * c + 1)) (nIadd _ 1) ?_
  refine aw_sld (v := xs (6 * c + 1)) (pc' := 799) dL_law_798 rfl (nI_in (by omega) (by omega)) (by rw [nI_clamp (by omega)]) ?_
  refine aw_callVi (M' := mX12_spread) (nc' := 126 + 4 * c + 0) (ns' := 60000 + 200 * c + 0) (pc' := 802) dL_law_799 rfl ml_RL_79 kX12_spread (t_X12_spread H1 em) (H1.ob (H1.fo (q := 59) rfl rfl) (by decide)) rfl rfl rfl (Nat.le_of_ble_eq_true rfl) (rokL (by decide) (Nat.le_of_ble_eq_true rfl) (by omega) (by omega)) rfl rfl (fun _ h2 q2 => ?_)
  obtain ⟨rfl, H2, -⟩ := q2
  refine aw_pop (pc' := 803) dL_law_802 rfl rfl ?_
  refine aw_goto (tgt := 2113) dL_law_803 (by decide) ?_
  refine AW.widen (nc' := 130 + 4 * c) (ns' := 60200 + 200 * c) (by omega) (by omega) ?_
  exact kk _ _ H2 G2
set_option maxRecDepth 4000 in
theorem lc_16 {L : Nat} {xs : Nat → Int32} {c : Nat} (hL : L ≤ 3072) (hc : 6 * c + 6 ≤ L) (kk : Nx L xs c) {s : SS} {h : List aE} (H : HH s h) (G : GW c s) : AW mLaw room_1 (sF L xs lawF) 806 (lvC c) [] h (126 + 4 * c) (60000 + 200 * c) := by
  obtain ⟨rx, s1, rm, s2, ex, em, G2, eq⟩ := s4_canBe G (by omega) (xs (6 * c + 1)) (xs (6 * c + 2)) (xs (6 * c + 3))
  refine aw_aload_n (pc' := 807) dL_law_806 rfl rfl rfl ?_
  refine aw_aload_n (pc' := 808) dL_law_807 rfl rfl rfl ?_
  refine aw_iload_n (pc' := 809) dL_law_808 rfl rfl ?_
  refine aw_iconst (v := 1) (pc' := 810) dL_law_809 rfl (by decide) ?_
  refine aw_iadd (pc' := 811) dL_law_810 rfl ?_
  refine aw_topi (v := nI (6 * c + 1)) (nIadd _ 1) ?_
  refine aw_sld (v := xs (6 * c + 1)) (pc' := 812) dL_law_811 rfl (nI_in (by omega) (by omega)) (by rw [nI_clamp (by omega)]) ?_
  refine aw_aload_n (pc' := 813) dL_law_812 rfl rfl rfl ?_
  refine aw_iload_n (pc' := 814) dL_law_813 rfl rfl ?_
  refine aw_iconst (v := 2) (pc' := 815) dL_law_814 rfl (by decide) ?_
  refine aw_iadd (pc' := 816) dL_law_815 rfl ?_
  refine aw_topi (v := nI (6 * c + 2)) (nIadd _ 2) ?_
  refine aw_sld (v := xs (6 * c + 2)) (pc' := 817) dL_law_816 rfl (nI_in (by omega) (by omega)) (by rw [nI_clamp (by omega)]) ?_
  refine aw_aload_n (pc' := 818) dL_law_817 rfl rfl rfl ?_
  refine aw_iload_n (pc' := 819) dL_law_818 rfl rfl ?_
  refine aw_iconst (v := 3) (pc' := 820) dL_law_819 rfl (by decide) ?_
  refine aw_iadd (pc' := 821) dL_law_820 rfl ?_
  refine aw_topi (v := nI (6 * c + 3)) (nIadd _ 3) ?_
  refine aw_sld (v := xs (6 * c + 3)) (pc' := 822) dL_law_821 rfl (nI_in (by omega) (by omega)) (by rw [nI_clamp (by omega)]) ?_
  refine aw_callVi (M' := mX11_canBe) (nc' := 126 + 4 * c + 0) (ns' := 60000 + 200 * c + 0) (pc' := 825) dL_law_822 rfl ml_RL_80 kX11_canBe (t_X11_canBe H ex) (H.ob (H.fo (q := 0) rfl rfl) (by decide)) rfl rfl rfl (Nat.le_of_ble_eq_true rfl) (rokL (by decide) (Nat.le_of_ble_eq_true rfl) (by omega) (by omega)) rfl rfl (fun _ h1 q1 => ?_)
  obtain ⟨rfl, rfl⟩ := q1
  refine aw_pop (pc' := 826) dL_law_825 rfl rfl ?_
  refine aw_aload_n (pc' := 827) dL_law_826 rfl rfl rfl ?_
  refine aw_aload_n (pc' := 828) dL_law_827 rfl rfl rfl ?_
  refine aw_iload_n (pc' := 829) dL_law_828 rfl rfl ?_
  refine aw_iconst (v := 1) (pc' := 830) dL_law_829 rfl (by decide) ?_
  refine aw_iadd (pc' := 831) dL_law_830 rfl ?_
  refine aw_topi (v := nI (6 * c + 1)) (nIadd _ 1) ?_
  refine aw_sld (v := xs (6 * c + 1)) (pc' := 832) dL_law_831 rfl (nI_in (by omega) (by omega)) (by rw [nI_clamp (by omega)]) ?_
  refine aw_aload_n (pc' := 833) dL_law_832 rfl rfl rfl ?_
  refine aw_iload_n (pc' := 834) dL_law_833 rfl rfl ?_
  refine aw_iconst (v := 2) (pc' := 835) dL_law_834 rfl (by decide) ?_
  refine aw_iadd (pc' := 836) dL_law_835 rfl ?_
  refine aw_topi (v := nI (6 * c + 2)) (nIadd _ 2) ?_
  refine aw_sld (v := xs (6 * c + 2)) (pc' := 837) dL_law_836 rfl (nI_in (by omega) (by omega)) (by rw [nI_clamp (by omega)]) ?_
  refine aw_aload_n (pc' := 838) dL_law_837 rfl rfl rfl ?_
  refine aw_iload_n (pc' := 839) dL_law_838 rfl rfl ?_
  refine aw_iconst (v := 3) (pc' := 840) dL_law_839 rfl (by decide) ?_
  refine aw_iadd (pc' := 841) dL_law_840 rfl ?_
  refine aw_topi (v := nI (6 * c + 3)) (nIadd _ 3) ?_
  refine aw_sld (v := xs (6 * c + 3)) (pc' := 842) dL_law_841 rfl (nI_in (by omega) (by omega)) (by rw [nI_clamp (by omega)]) ?_
  refine aw_callVi (M' := mX12_canBe) (nc' := 126 + 4 * c + 0) (ns' := 60000 + 200 * c + 0) (pc' := 845) dL_law_842 rfl ml_RL_84 kX12_canBe (t_X12_canBe H em) (H.ob (H.fo (q := 59) rfl rfl) (by decide)) rfl rfl rfl (Nat.le_of_ble_eq_true rfl) (rokL (by decide) (Nat.le_of_ble_eq_true rfl) (by omega) (by omega)) rfl rfl (fun _ h2 q2 => ?_)
  obtain ⟨rfl, rfl⟩ := q2
  refine aw_pop (pc' := 846) dL_law_845 rfl rfl ?_
  refine aw_goto (tgt := 2113) dL_law_846 (by decide) ?_
  refine AW.widen (nc' := 130 + 4 * c) (ns' := 60200 + 200 * c) (by omega) (by omega) ?_
  exact kk _ _ H G2
set_option maxRecDepth 4000 in
theorem lc_17 {L : Nat} {xs : Nat → Int32} {c : Nat} (hL : L ≤ 3072) (hc : 6 * c + 6 ≤ L) (kk : Nx L xs c) {s : SS} {h : List aE} (H : HH s h) (G : GW c s) : AW mLaw room_1 (sF L xs lawF) 849 (lvC c) [] h (126 + 4 * c) (60000 + 200 * c) := by
  obtain ⟨rx, s1, rm, s2, ex, em, G2, eq⟩ := s4_map G (by omega) (xs (6 * c + 1)) (xs (6 * c + 2))
  refine aw_aload_n (pc' := 850) dL_law_849 rfl rfl rfl ?_
  refine aw_aload_n (pc' := 851) dL_law_850 rfl rfl rfl ?_
  refine aw_iload_n (pc' := 852) dL_law_851 rfl rfl ?_
  refine aw_iconst (v := 1) (pc' := 853) dL_law_852 rfl (by decide) ?_
  refine aw_iadd (pc' := 854) dL_law_853 rfl ?_
  refine aw_topi (v := nI (6 * c + 1)) (nIadd _ 1) ?_
  refine aw_sld (v := xs (6 * c + 1)) (pc' := 855) dL_law_854 rfl (nI_in (by omega) (by omega)) (by rw [nI_clamp (by omega)]) ?_
  refine aw_aload_n (pc' := 856) dL_law_855 rfl rfl rfl ?_
  refine aw_iload_n (pc' := 857) dL_law_856 rfl rfl ?_
  refine aw_iconst (v := 2) (pc' := 858) dL_law_857 rfl (by decide) ?_
  refine aw_iadd (pc' := 859) dL_law_858 rfl ?_
  refine aw_topi (v := nI (6 * c + 2)) (nIadd _ 2) ?_
  refine aw_sld (v := xs (6 * c + 2)) (pc' := 860) dL_law_859 rfl (nI_in (by omega) (by omega)) (by rw [nI_clamp (by omega)]) ?_
  refine aw_callVi (M' := mX11_map) (nc' := 126 + 4 * c + 2) (ns' := 60000 + 200 * c + 66) (pc' := 863) dL_law_860 rfl ml_RL_85 kX11_map (t_X11_map H ex) (H.ob (H.fo (q := 0) rfl rfl) (by decide)) rfl rfl rfl (Nat.le_of_ble_eq_true rfl) (rokL (by decide) (Nat.le_of_ble_eq_true rfl) (by omega) (by omega)) (by omega) (by omega) (fun _ h1 q1 => ?_)
  obtain ⟨rfl, H1, -⟩ := q1
  refine aw_pop (pc' := 864) dL_law_863 rfl rfl ?_
  refine aw_aload_n (pc' := 865) dL_law_864 rfl rfl rfl ?_
  refine aw_aload_n (pc' := 866) dL_law_865 rfl rfl rfl ?_
  refine aw_iload_n (pc' := 867) dL_law_866 rfl rfl ?_
  refine aw_iconst (v := 1) (pc' := 868) dL_law_867 rfl (by decide) ?_
  refine aw_iadd (pc' := 869) dL_law_868 rfl ?_
  refine aw_topi (v := nI (6 * c + 1)) (nIadd _ 1) ?_
  refine aw_sld (v := xs (6 * c + 1)) (pc' := 870) dL_law_869 rfl (nI_in (by omega) (by omega)) (by rw [nI_clamp (by omega)]) ?_
  refine aw_aload_n (pc' := 871) dL_law_870 rfl rfl rfl ?_
  refine aw_iload_n (pc' := 872) dL_law_871 rfl rfl ?_
  refine aw_iconst (v := 2) (pc' := 873) dL_law_872 rfl (by decide) ?_
  refine aw_iadd (pc' := 874) dL_law_873 rfl ?_
  refine aw_topi (v := nI (6 * c + 2)) (nIadd _ 2) ?_
  refine aw_sld (v := xs (6 * c + 2)) (pc' := 875) dL_law_874 rfl (nI_in (by omega) (by omega)) (by rw [nI_clamp (by omega)]) ?_
  refine aw_callVi (M' := mX12_map) (nc' := 126 + 4 * c + 2) (ns' := 60000 + 200 * c + 66) (pc' := 878) dL_law_875 rfl ml_RL_88 kX12_map (t_X12_map H1 em) (H1.ob (H1.fo (q := 59) rfl rfl) (by decide)) rfl rfl rfl (Nat.le_of_ble_eq_true rfl) (rokL (by decide) (Nat.le_of_ble_eq_true rfl) (by omega) (by omega)) (by omega) (by omega) (fun _ h2 q2 => ?_)
  obtain ⟨rfl, H2, -⟩ := q2
  refine aw_pop (pc' := 879) dL_law_878 rfl rfl ?_
  refine aw_goto (tgt := 2113) dL_law_879 (by decide) ?_
  refine AW.widen (nc' := 130 + 4 * c) (ns' := 60200 + 200 * c) (by omega) (by omega) ?_
  exact kk _ _ H2 G2
set_option maxRecDepth 4000 in
theorem lc_18 {L : Nat} {xs : Nat → Int32} {c : Nat} (hL : L ≤ 3072) (hc : 6 * c + 6 ≤ L) (kk : Nx L xs c) {s : SS} {h : List aE} (H : HH s h) (G : GW c s) : AW mLaw room_1 (sF L xs lawF) 882 (lvC c) [] h (126 + 4 * c) (60000 + 200 * c) := by
  obtain ⟨rx, s1, rm, s2, ex, em, G2, eq⟩ := s4_old G (by omega) (xs (6 * c + 1)) (xs (6 * c + 2))
  refine aw_aload_n (pc' := 883) dL_law_882 rfl rfl rfl ?_
  refine aw_aload_n (pc' := 884) dL_law_883 rfl rfl rfl ?_
  refine aw_iload_n (pc' := 885) dL_law_884 rfl rfl ?_
  refine aw_iconst (v := 1) (pc' := 886) dL_law_885 rfl (by decide) ?_
  refine aw_iadd (pc' := 887) dL_law_886 rfl ?_
  refine aw_topi (v := nI (6 * c + 1)) (nIadd _ 1) ?_
  refine aw_sld (v := xs (6 * c + 1)) (pc' := 888) dL_law_887 rfl (nI_in (by omega) (by omega)) (by rw [nI_clamp (by omega)]) ?_
  refine aw_aload_n (pc' := 889) dL_law_888 rfl rfl rfl ?_
  refine aw_iload_n (pc' := 890) dL_law_889 rfl rfl ?_
  refine aw_iconst (v := 2) (pc' := 891) dL_law_890 rfl (by decide) ?_
  refine aw_iadd (pc' := 892) dL_law_891 rfl ?_
  refine aw_topi (v := nI (6 * c + 2)) (nIadd _ 2) ?_
  refine aw_sld (v := xs (6 * c + 2)) (pc' := 893) dL_law_892 rfl (nI_in (by omega) (by omega)) (by rw [nI_clamp (by omega)]) ?_
  refine aw_callVi (M' := mX11_old) (nc' := 126 + 4 * c + 0) (ns' := 60000 + 200 * c + 0) (pc' := 896) dL_law_893 rfl ml_RL_89 kX11_old (t_X11_old H ex) (H.ob (H.fo (q := 0) rfl rfl) (by decide)) rfl rfl rfl (Nat.le_of_ble_eq_true rfl) (rokL (by decide) (Nat.le_of_ble_eq_true rfl) (by omega) (by omega)) rfl rfl (fun _ h1 q1 => ?_)
  obtain ⟨rfl, H1, -⟩ := q1
  refine aw_pop (pc' := 897) dL_law_896 rfl rfl ?_
  refine aw_aload_n (pc' := 898) dL_law_897 rfl rfl rfl ?_
  refine aw_aload_n (pc' := 899) dL_law_898 rfl rfl rfl ?_
  refine aw_iload_n (pc' := 900) dL_law_899 rfl rfl ?_
  refine aw_iconst (v := 1) (pc' := 901) dL_law_900 rfl (by decide) ?_
  refine aw_iadd (pc' := 902) dL_law_901 rfl ?_
  refine aw_topi (v := nI (6 * c + 1)) (nIadd _ 1) ?_
  refine aw_sld (v := xs (6 * c + 1)) (pc' := 903) dL_law_902 rfl (nI_in (by omega) (by omega)) (by rw [nI_clamp (by omega)]) ?_
  refine aw_aload_n (pc' := 904) dL_law_903 rfl rfl rfl ?_
  refine aw_iload_n (pc' := 905) dL_law_904 rfl rfl ?_
  refine aw_iconst (v := 2) (pc' := 906) dL_law_905 rfl (by decide) ?_
  refine aw_iadd (pc' := 907) dL_law_906 rfl ?_
  refine aw_topi (v := nI (6 * c + 2)) (nIadd _ 2) ?_
  refine aw_sld (v := xs (6 * c + 2)) (pc' := 908) dL_law_907 rfl (nI_in (by omega) (by omega)) (by rw [nI_clamp (by omega)]) ?_
  refine aw_callVi (M' := mX12_old) (nc' := 126 + 4 * c + 0) (ns' := 60000 + 200 * c + 0) (pc' := 911) dL_law_908 rfl ml_RL_92 kX12_old (t_X12_old H1 em) (H1.ob (H1.fo (q := 59) rfl rfl) (by decide)) rfl rfl rfl (Nat.le_of_ble_eq_true rfl) (rokL (by decide) (Nat.le_of_ble_eq_true rfl) (by omega) (by omega)) rfl rfl (fun _ h2 q2 => ?_)
  obtain ⟨rfl, H2, -⟩ := q2
  refine aw_pop (pc' := 912) dL_law_911 rfl rfl ?_
  refine aw_goto (tgt := 2113) dL_law_912 (by decide) ?_
  refine AW.widen (nc' := 130 + 4 * c) (ns' := 60200 + 200 * c) (by omega) (by omega) ?_
  exact kk _ _ H2 G2
set_option maxRecDepth 4000 in
theorem lc_19 {L : Nat} {xs : Nat → Int32} {c : Nat} (hL : L ≤ 3072) (hc : 6 * c + 6 ≤ L) (kk : Nx L xs c) {s : SS} {h : List aE} (H : HH s h) (G : GW c s) : AW mLaw room_1 (sF L xs lawF) 915 (lvC c) [] h (126 + 4 * c) (60000 + 200 * c) := by
  obtain ⟨rx, s1, rm, s2, ex, em, G2, eq⟩ := s4_wrong G (by omega) (xs (6 * c + 1))
  refine aw_aload_n (pc' := 916) dL_law_915 rfl rfl rfl ?_
  refine aw_aload_n (pc' := 917) dL_law_916 rfl rfl rfl ?_
  refine aw_iload_n (pc' := 918) dL_law_917 rfl rfl ?_
  refine aw_iconst (v := 1) (pc' := 919) dL_law_918 rfl (by decide) ?_
  refine aw_iadd (pc' := 920) dL_law_919 rfl ?_
  refine aw_topi (v := nI (6 * c + 1)) (nIadd _ 1) ?_
  refine aw_sld (v := xs (6 * c + 1)) (pc' := 921) dL_law_920 rfl (nI_in (by omega) (by omega)) (by rw [nI_clamp (by omega)]) ?_
  refine aw_callVi (M' := mX11_wrong) (nc' := 126 + 4 * c + 0) (ns' := 60000 + 200 * c + 0) (pc' := 924) dL_law_921 rfl ml_RL_93 kX11_wrong (t_X11_wrong H ex) (H.ob (H.fo (q := 0) rfl rfl) (by decide)) rfl rfl rfl (Nat.le_of_ble_eq_true rfl) (rokL (by decide) (Nat.le_of_ble_eq_true rfl) (by omega) (by omega)) rfl rfl (fun _ h1 q1 => ?_)
  obtain ⟨rfl, rfl⟩ := q1
  refine aw_pop (pc' := 925) dL_law_924 rfl rfl ?_
  refine aw_aload_n (pc' := 926) dL_law_925 rfl rfl rfl ?_
  refine aw_aload_n (pc' := 927) dL_law_926 rfl rfl rfl ?_
  refine aw_iload_n (pc' := 928) dL_law_927 rfl rfl ?_
  refine aw_iconst (v := 1) (pc' := 929) dL_law_928 rfl (by decide) ?_
  refine aw_iadd (pc' := 930) dL_law_929 rfl ?_
  refine aw_topi (v := nI (6 * c + 1)) (nIadd _ 1) ?_
  refine aw_sld (v := xs (6 * c + 1)) (pc' := 931) dL_law_930 rfl (nI_in (by omega) (by omega)) (by rw [nI_clamp (by omega)]) ?_
  refine aw_callVi (M' := mX12_wrong) (nc' := 126 + 4 * c + 0) (ns' := 60000 + 200 * c + 0) (pc' := 934) dL_law_931 rfl ml_RL_96 kX12_wrong (t_X12_wrong H em) (H.ob (H.fo (q := 59) rfl rfl) (by decide)) rfl rfl rfl (Nat.le_of_ble_eq_true rfl) (rokL (by decide) (Nat.le_of_ble_eq_true rfl) (by omega) (by omega)) rfl rfl (fun _ h2 q2 => ?_)
  obtain ⟨rfl, rfl⟩ := q2
  refine aw_pop (pc' := 935) dL_law_934 rfl rfl ?_
  refine aw_goto (tgt := 2113) dL_law_935 (by decide) ?_
  refine AW.widen (nc' := 130 + 4 * c) (ns' := 60200 + 200 * c) (by omega) (by omega) ?_
  exact kk _ _ H G2
set_option maxRecDepth 4000 in
theorem lc_20 {L : Nat} {xs : Nat → Int32} {c : Nat} (hL : L ≤ 3072) (hc : 6 * c + 6 ≤ L) (kk : Nx L xs c) {s : SS} {h : List aE} (H : HH s h) (G : GW c s) : AW mLaw room_1 (sF L xs lawF) 938 (lvC c) [] h (126 + 4 * c) (60000 + 200 * c) := by
  obtain ⟨rx, s1, rm, s2, ex, em, G2, eq⟩ := s4_known G (by omega) (xs (6 * c + 1))
  refine aw_aload_n (pc' := 939) dL_law_938 rfl rfl rfl ?_
  refine aw_aload_n (pc' := 940) dL_law_939 rfl rfl rfl ?_
  refine aw_iload_n (pc' := 941) dL_law_940 rfl rfl ?_
  refine aw_iconst (v := 1) (pc' := 942) dL_law_941 rfl (by decide) ?_
  refine aw_iadd (pc' := 943) dL_law_942 rfl ?_
  refine aw_topi (v := nI (6 * c + 1)) (nIadd _ 1) ?_
  refine aw_sld (v := xs (6 * c + 1)) (pc' := 944) dL_law_943 rfl (nI_in (by omega) (by omega)) (by rw [nI_clamp (by omega)]) ?_
  refine aw_callVi (M' := mX11_known) (nc' := 126 + 4 * c + 0) (ns' := 60000 + 200 * c + 0) (pc' := 947) dL_law_944 rfl ml_RL_97 kX11_known (t_X11_known H ex) (H.ob (H.fo (q := 0) rfl rfl) (by decide)) rfl rfl rfl (Nat.le_of_ble_eq_true rfl) (rokL (by decide) (Nat.le_of_ble_eq_true rfl) (by omega) (by omega)) rfl rfl (fun _ h1 q1 => ?_)
  obtain ⟨rfl, rfl⟩ := q1
  refine aw_pop (pc' := 948) dL_law_947 rfl rfl ?_
  refine aw_aload_n (pc' := 949) dL_law_948 rfl rfl rfl ?_
  refine aw_aload_n (pc' := 950) dL_law_949 rfl rfl rfl ?_
  refine aw_iload_n (pc' := 951) dL_law_950 rfl rfl ?_
  refine aw_iconst (v := 1) (pc' := 952) dL_law_951 rfl (by decide) ?_
  refine aw_iadd (pc' := 953) dL_law_952 rfl ?_
  refine aw_topi (v := nI (6 * c + 1)) (nIadd _ 1) ?_
  refine aw_sld (v := xs (6 * c + 1)) (pc' := 954) dL_law_953 rfl (nI_in (by omega) (by omega)) (by rw [nI_clamp (by omega)]) ?_
  refine aw_callVi (M' := mX12_known) (nc' := 126 + 4 * c + 0) (ns' := 60000 + 200 * c + 0) (pc' := 957) dL_law_954 rfl ml_RL_100 kX12_known (t_X12_known H em) (H.ob (H.fo (q := 59) rfl rfl) (by decide)) rfl rfl rfl (Nat.le_of_ble_eq_true rfl) (rokL (by decide) (Nat.le_of_ble_eq_true rfl) (by omega) (by omega)) rfl rfl (fun _ h2 q2 => ?_)
  obtain ⟨rfl, rfl⟩ := q2
  refine aw_pop (pc' := 958) dL_law_957 rfl rfl ?_
  refine aw_goto (tgt := 2113) dL_law_958 (by decide) ?_
  refine AW.widen (nc' := 130 + 4 * c) (ns' := 60200 + 200 * c) (by omega) (by omega) ?_
  exact kk _ _ H G2
set_option maxRecDepth 4000 in
theorem lc_21 {L : Nat} {xs : Nat → Int32} {c : Nat} (hL : L ≤ 3072) (hc : 6 * c + 6 ≤ L) (kk : Nx L xs c) {s : SS} {h : List aE} (H : HH s h) (G : GW c s) : AW mLaw room_1 (sF L xs lawF) 961 (lvC c) [] h (126 + 4 * c) (60000 + 200 * c) := by
  obtain ⟨rx, s1, rm, s2, ex, em, G2, eq⟩ := s4_feed G (by omega) (xs (6 * c + 1)) (xs (6 * c + 2))
  refine aw_aload_n (pc' := 962) dL_law_961 rfl rfl rfl ?_
  refine aw_aload_n (pc' := 963) dL_law_962 rfl rfl rfl ?_
  refine aw_iload_n (pc' := 964) dL_law_963 rfl rfl ?_
  refine aw_iconst (v := 1) (pc' := 965) dL_law_964 rfl (by decide) ?_
  refine aw_iadd (pc' := 966) dL_law_965 rfl ?_
  refine aw_topi (v := nI (6 * c + 1)) (nIadd _ 1) ?_
  refine aw_sld (v := xs (6 * c + 1)) (pc' := 967) dL_law_966 rfl (nI_in (by omega) (by omega)) (by rw [nI_clamp (by omega)]) ?_
  refine aw_aload_n (pc' := 968) dL_law_967 rfl rfl rfl ?_
  refine aw_iload_n (pc' := 969) dL_law_968 rfl rfl ?_
  refine aw_iconst (v := 2) (pc' := 970) dL_law_969 rfl (by decide) ?_
  refine aw_iadd (pc' := 971) dL_law_970 rfl ?_
  refine aw_topi (v := nI (6 * c + 2)) (nIadd _ 2) ?_
  refine aw_sld (v := xs (6 * c + 2)) (pc' := 972) dL_law_971 rfl (nI_in (by omega) (by omega)) (by rw [nI_clamp (by omega)]) ?_
  refine aw_callVi (M' := mX11_feed) (nc' := 126 + 4 * c + 0) (ns' := 60000 + 200 * c + 0) (pc' := 975) dL_law_972 rfl ml_RL_101 kX11_feed (t_X11_feed H ex) (H.ob (H.fo (q := 0) rfl rfl) (by decide)) rfl rfl rfl (Nat.le_of_ble_eq_true rfl) (rokL (by decide) (Nat.le_of_ble_eq_true rfl) (by omega) (by omega)) rfl rfl (fun _ h1 q1 => ?_)
  obtain ⟨rfl, H1, -⟩ := q1
  refine aw_pop (pc' := 976) dL_law_975 rfl rfl ?_
  refine aw_aload_n (pc' := 977) dL_law_976 rfl rfl rfl ?_
  refine aw_aload_n (pc' := 978) dL_law_977 rfl rfl rfl ?_
  refine aw_iload_n (pc' := 979) dL_law_978 rfl rfl ?_
  refine aw_iconst (v := 1) (pc' := 980) dL_law_979 rfl (by decide) ?_
  refine aw_iadd (pc' := 981) dL_law_980 rfl ?_
  refine aw_topi (v := nI (6 * c + 1)) (nIadd _ 1) ?_
  refine aw_sld (v := xs (6 * c + 1)) (pc' := 982) dL_law_981 rfl (nI_in (by omega) (by omega)) (by rw [nI_clamp (by omega)]) ?_
  refine aw_aload_n (pc' := 983) dL_law_982 rfl rfl rfl ?_
  refine aw_iload_n (pc' := 984) dL_law_983 rfl rfl ?_
  refine aw_iconst (v := 2) (pc' := 985) dL_law_984 rfl (by decide) ?_
  refine aw_iadd (pc' := 986) dL_law_985 rfl ?_
  refine aw_topi (v := nI (6 * c + 2)) (nIadd _ 2) ?_
  refine aw_sld (v := xs (6 * c + 2)) (pc' := 987) dL_law_986 rfl (nI_in (by omega) (by omega)) (by rw [nI_clamp (by omega)]) ?_
  refine aw_callVi (M' := mX12_feed) (nc' := 126 + 4 * c + 0) (ns' := 60000 + 200 * c + 0) (pc' := 990) dL_law_987 rfl ml_RL_104 kX12_feed (t_X12_feed H1 em) (H1.ob (H1.fo (q := 59) rfl rfl) (by decide)) rfl rfl rfl (Nat.le_of_ble_eq_true rfl) (rokL (by decide) (Nat.le_of_ble_eq_true rfl) (by omega) (by omega)) rfl rfl (fun _ h2 q2 => ?_)
  obtain ⟨rfl, H2, -⟩ := q2
  refine aw_pop (pc' := 991) dL_law_990 rfl rfl ?_
  refine aw_goto (tgt := 2113) dL_law_991 (by decide) ?_
  refine AW.widen (nc' := 130 + 4 * c) (ns' := 60200 + 200 * c) (by omega) (by omega) ?_
  exact kk _ _ H2 G2
set_option maxRecDepth 4000 in
theorem lc_22 {L : Nat} {xs : Nat → Int32} {c : Nat} (hL : L ≤ 3072) (hc : 6 * c + 6 ≤ L) (kk : Nx L xs c) {s : SS} {h : List aE} (H : HH s h) (G : GW c s) : AW mLaw room_1 (sF L xs lawF) 994 (lvC c) [] h (126 + 4 * c) (60000 + 200 * c) := by
  obtain ⟨rx, s1, rm, s2, ex, em, G2, eq⟩ := s4_text G (by omega) (xs (6 * c + 1)) (xs (6 * c + 2))
  refine aw_aload_n (pc' := 995) dL_law_994 rfl rfl rfl ?_
  refine aw_aload_n (pc' := 996) dL_law_995 rfl rfl rfl ?_
  refine aw_iload_n (pc' := 997) dL_law_996 rfl rfl ?_
  refine aw_iconst (v := 1) (pc' := 998) dL_law_997 rfl (by decide) ?_
  refine aw_iadd (pc' := 999) dL_law_998 rfl ?_
  refine aw_topi (v := nI (6 * c + 1)) (nIadd _ 1) ?_
  refine aw_sld (v := xs (6 * c + 1)) (pc' := 1000) dL_law_999 rfl (nI_in (by omega) (by omega)) (by rw [nI_clamp (by omega)]) ?_
  refine aw_aload_n (pc' := 1001) dL_law_1000 rfl rfl rfl ?_
  refine aw_iload_n (pc' := 1002) dL_law_1001 rfl rfl ?_
  refine aw_iconst (v := 2) (pc' := 1003) dL_law_1002 rfl (by decide) ?_
  refine aw_iadd (pc' := 1004) dL_law_1003 rfl ?_
  refine aw_topi (v := nI (6 * c + 2)) (nIadd _ 2) ?_
  refine aw_sld (v := xs (6 * c + 2)) (pc' := 1005) dL_law_1004 rfl (nI_in (by omega) (by omega)) (by rw [nI_clamp (by omega)]) ?_
  refine aw_callVi (M' := mX11_text) (nc' := 126 + 4 * c + 2) (ns' := 60000 + 200 * c + 166) (pc' := 1008) dL_law_1005 rfl ml_RL_105 kX11_text (t_X11_text H ex) (H.ob (H.fo (q := 0) rfl rfl) (by decide)) rfl rfl rfl (Nat.le_of_ble_eq_true rfl) (rokL (by decide) (Nat.le_of_ble_eq_true rfl) (by omega) (by omega)) (by omega) (by omega) (fun _ h1 q1 => ?_)
  obtain ⟨rfl, H1, -⟩ := q1
  refine aw_pop (pc' := 1009) dL_law_1008 rfl rfl ?_
  refine aw_aload_n (pc' := 1010) dL_law_1009 rfl rfl rfl ?_
  refine aw_aload_n (pc' := 1011) dL_law_1010 rfl rfl rfl ?_
  refine aw_iload_n (pc' := 1012) dL_law_1011 rfl rfl ?_
  refine aw_iconst (v := 1) (pc' := 1013) dL_law_1012 rfl (by decide) ?_
  refine aw_iadd (pc' := 1014) dL_law_1013 rfl ?_
  refine aw_topi (v := nI (6 * c + 1)) (nIadd _ 1) ?_
  refine aw_sld (v := xs (6 * c + 1)) (pc' := 1015) dL_law_1014 rfl (nI_in (by omega) (by omega)) (by rw [nI_clamp (by omega)]) ?_
  refine aw_aload_n (pc' := 1016) dL_law_1015 rfl rfl rfl ?_
  refine aw_iload_n (pc' := 1017) dL_law_1016 rfl rfl ?_
  refine aw_iconst (v := 2) (pc' := 1018) dL_law_1017 rfl (by decide) ?_
  refine aw_iadd (pc' := 1019) dL_law_1018 rfl ?_
  refine aw_topi (v := nI (6 * c + 2)) (nIadd _ 2) ?_
  refine aw_sld (v := xs (6 * c + 2)) (pc' := 1020) dL_law_1019 rfl (nI_in (by omega) (by omega)) (by rw [nI_clamp (by omega)]) ?_
  refine aw_callVi (M' := mX12_text) (nc' := 126 + 4 * c + 2) (ns' := 60000 + 200 * c + 166) (pc' := 1023) dL_law_1020 rfl ml_RL_108 kX12_text (t_X12_text H1 em) (H1.ob (H1.fo (q := 59) rfl rfl) (by decide)) rfl rfl rfl (Nat.le_of_ble_eq_true rfl) (rokL (by decide) (Nat.le_of_ble_eq_true rfl) (by omega) (by omega)) (by omega) (by omega) (fun _ h2 q2 => ?_)
  obtain ⟨rfl, H2, -⟩ := q2
  refine aw_pop (pc' := 1024) dL_law_1023 rfl rfl ?_
  refine aw_goto (tgt := 2113) dL_law_1024 (by decide) ?_
  refine AW.widen (nc' := 130 + 4 * c) (ns' := 60200 + 200 * c) (by omega) (by omega) ?_
  exact kk _ _ H2 G2
set_option maxRecDepth 4000 in
theorem lc_23 {L : Nat} {xs : Nat → Int32} {c : Nat} (hL : L ≤ 3072) (hc : 6 * c + 6 ≤ L) (kk : Nx L xs c) {s : SS} {h : List aE} (H : HH s h) (G : GW c s) : AW mLaw room_1 (sF L xs lawF) 1027 (lvC c) [] h (126 + 4 * c) (60000 + 200 * c) := by
  obtain ⟨rx, s1, rm, s2, ex, em, G2, eq⟩ := s4_inForce G (by omega) (xs (6 * c + 1)) (xs (6 * c + 2)) (xs (6 * c + 3))
  refine aw_aload_n (pc' := 1028) dL_law_1027 rfl rfl rfl ?_
  refine aw_aload_n (pc' := 1029) dL_law_1028 rfl rfl rfl ?_
  refine aw_iload_n (pc' := 1030) dL_law_1029 rfl rfl ?_
  refine aw_iconst (v := 1) (pc' := 1031) dL_law_1030 rfl (by decide) ?_
  refine aw_iadd (pc' := 1032) dL_law_1031 rfl ?_
  refine aw_topi (v := nI (6 * c + 1)) (nIadd _ 1) ?_
  refine aw_sld (v := xs (6 * c + 1)) (pc' := 1033) dL_law_1032 rfl (nI_in (by omega) (by omega)) (by rw [nI_clamp (by omega)]) ?_
  refine aw_aload_n (pc' := 1034) dL_law_1033 rfl rfl rfl ?_
  refine aw_iload_n (pc' := 1035) dL_law_1034 rfl rfl ?_
  refine aw_iconst (v := 2) (pc' := 1036) dL_law_1035 rfl (by decide) ?_
  refine aw_iadd (pc' := 1037) dL_law_1036 rfl ?_
  refine aw_topi (v := nI (6 * c + 2)) (nIadd _ 2) ?_
  refine aw_sld (v := xs (6 * c + 2)) (pc' := 1038) dL_law_1037 rfl (nI_in (by omega) (by omega)) (by rw [nI_clamp (by omega)]) ?_
  refine aw_aload_n (pc' := 1039) dL_law_1038 rfl rfl rfl ?_
  refine aw_iload_n (pc' := 1040) dL_law_1039 rfl rfl ?_
  refine aw_iconst (v := 3) (pc' := 1041) dL_law_1040 rfl (by decide) ?_
  refine aw_iadd (pc' := 1042) dL_law_1041 rfl ?_
  refine aw_topi (v := nI (6 * c + 3)) (nIadd _ 3) ?_
  refine aw_sld (v := xs (6 * c + 3)) (pc' := 1043) dL_law_1042 rfl (nI_in (by omega) (by omega)) (by rw [nI_clamp (by omega)]) ?_
  refine aw_callVi (M' := mX11_inForce) (nc' := 126 + 4 * c + 0) (ns' := 60000 + 200 * c + 0) (pc' := 1046) dL_law_1043 rfl ml_RL_109 kX11_inForce (t_X11_inForce H ex) (H.ob (H.fo (q := 0) rfl rfl) (by decide)) rfl rfl rfl (Nat.le_of_ble_eq_true rfl) (rokL (by decide) (Nat.le_of_ble_eq_true rfl) (by omega) (by omega)) rfl rfl (fun _ h1 q1 => ?_)
  obtain ⟨rfl, rfl⟩ := q1
  refine aw_pop (pc' := 1047) dL_law_1046 rfl rfl ?_
  refine aw_aload_n (pc' := 1048) dL_law_1047 rfl rfl rfl ?_
  refine aw_aload_n (pc' := 1049) dL_law_1048 rfl rfl rfl ?_
  refine aw_iload_n (pc' := 1050) dL_law_1049 rfl rfl ?_
  refine aw_iconst (v := 1) (pc' := 1051) dL_law_1050 rfl (by decide) ?_
  refine aw_iadd (pc' := 1052) dL_law_1051 rfl ?_
  refine aw_topi (v := nI (6 * c + 1)) (nIadd _ 1) ?_
  refine aw_sld (v := xs (6 * c + 1)) (pc' := 1053) dL_law_1052 rfl (nI_in (by omega) (by omega)) (by rw [nI_clamp (by omega)]) ?_
  refine aw_aload_n (pc' := 1054) dL_law_1053 rfl rfl rfl ?_
  refine aw_iload_n (pc' := 1055) dL_law_1054 rfl rfl ?_
  refine aw_iconst (v := 2) (pc' := 1056) dL_law_1055 rfl (by decide) ?_
  refine aw_iadd (pc' := 1057) dL_law_1056 rfl ?_
  refine aw_topi (v := nI (6 * c + 2)) (nIadd _ 2) ?_
  refine aw_sld (v := xs (6 * c + 2)) (pc' := 1058) dL_law_1057 rfl (nI_in (by omega) (by omega)) (by rw [nI_clamp (by omega)]) ?_
  refine aw_aload_n (pc' := 1059) dL_law_1058 rfl rfl rfl ?_
  refine aw_iload_n (pc' := 1060) dL_law_1059 rfl rfl ?_
  refine aw_iconst (v := 3) (pc' := 1061) dL_law_1060 rfl (by decide) ?_
  refine aw_iadd (pc' := 1062) dL_law_1061 rfl ?_
  refine aw_topi (v := nI (6 * c + 3)) (nIadd _ 3) ?_
  refine aw_sld (v := xs (6 * c + 3)) (pc' := 1063) dL_law_1062 rfl (nI_in (by omega) (by omega)) (by rw [nI_clamp (by omega)]) ?_
  refine aw_callVi (M' := mX12_inForce) (nc' := 126 + 4 * c + 0) (ns' := 60000 + 200 * c + 0) (pc' := 1066) dL_law_1063 rfl ml_RL_112 kX12_inForce (t_X12_inForce H em) (H.ob (H.fo (q := 59) rfl rfl) (by decide)) rfl rfl rfl (Nat.le_of_ble_eq_true rfl) (rokL (by decide) (Nat.le_of_ble_eq_true rfl) (by omega) (by omega)) rfl rfl (fun _ h2 q2 => ?_)
  obtain ⟨rfl, rfl⟩ := q2
  refine aw_pop (pc' := 1067) dL_law_1066 rfl rfl ?_
  refine aw_goto (tgt := 2113) dL_law_1067 (by decide) ?_
  refine AW.widen (nc' := 130 + 4 * c) (ns' := 60200 + 200 * c) (by omega) (by omega) ?_
  exact kk _ _ H G2
set_option maxRecDepth 4000 in
theorem lc_24 {L : Nat} {xs : Nat → Int32} {c : Nat} (hL : L ≤ 3072) (hc : 6 * c + 6 ≤ L) (kk : Nx L xs c) {s : SS} {h : List aE} (H : HH s h) (G : GW c s) : AW mLaw room_1 (sF L xs lawF) 1070 (lvC c) [] h (126 + 4 * c) (60000 + 200 * c) := by
  obtain ⟨rx, s1, rm, s2, ex, em, G2, eq⟩ := s4_says G (by omega) (xs (6 * c + 1)) (xs (6 * c + 2))
  refine aw_aload_n (pc' := 1071) dL_law_1070 rfl rfl rfl ?_
  refine aw_aload_n (pc' := 1072) dL_law_1071 rfl rfl rfl ?_
  refine aw_iload_n (pc' := 1073) dL_law_1072 rfl rfl ?_
  refine aw_iconst (v := 1) (pc' := 1074) dL_law_1073 rfl (by decide) ?_
  refine aw_iadd (pc' := 1075) dL_law_1074 rfl ?_
  refine aw_topi (v := nI (6 * c + 1)) (nIadd _ 1) ?_
  refine aw_sld (v := xs (6 * c + 1)) (pc' := 1076) dL_law_1075 rfl (nI_in (by omega) (by omega)) (by rw [nI_clamp (by omega)]) ?_
  refine aw_aload_n (pc' := 1077) dL_law_1076 rfl rfl rfl ?_
  refine aw_iload_n (pc' := 1078) dL_law_1077 rfl rfl ?_
  refine aw_iconst (v := 2) (pc' := 1079) dL_law_1078 rfl (by decide) ?_
  refine aw_iadd (pc' := 1080) dL_law_1079 rfl ?_
  refine aw_topi (v := nI (6 * c + 2)) (nIadd _ 2) ?_
  refine aw_sld (v := xs (6 * c + 2)) (pc' := 1081) dL_law_1080 rfl (nI_in (by omega) (by omega)) (by rw [nI_clamp (by omega)]) ?_
  refine aw_callVi (M' := mX11_says) (nc' := 126 + 4 * c + 0) (ns' := 60000 + 200 * c + 0) (pc' := 1084) dL_law_1081 rfl ml_RL_113 kX11_says (t_X11_says H ex) (H.ob (H.fo (q := 0) rfl rfl) (by decide)) rfl rfl rfl (Nat.le_of_ble_eq_true rfl) (rokL (by decide) (Nat.le_of_ble_eq_true rfl) (by omega) (by omega)) rfl rfl (fun _ h1 q1 => ?_)
  obtain ⟨rfl, H1, -⟩ := q1
  refine aw_pop (pc' := 1085) dL_law_1084 rfl rfl ?_
  refine aw_aload_n (pc' := 1086) dL_law_1085 rfl rfl rfl ?_
  refine aw_aload_n (pc' := 1087) dL_law_1086 rfl rfl rfl ?_
  refine aw_iload_n (pc' := 1088) dL_law_1087 rfl rfl ?_
  refine aw_iconst (v := 1) (pc' := 1089) dL_law_1088 rfl (by decide) ?_
  refine aw_iadd (pc' := 1090) dL_law_1089 rfl ?_
  refine aw_topi (v := nI (6 * c + 1)) (nIadd _ 1) ?_
  refine aw_sld (v := xs (6 * c + 1)) (pc' := 1091) dL_law_1090 rfl (nI_in (by omega) (by omega)) (by rw [nI_clamp (by omega)]) ?_
  refine aw_aload_n (pc' := 1092) dL_law_1091 rfl rfl rfl ?_
  refine aw_iload_n (pc' := 1093) dL_law_1092 rfl rfl ?_
  refine aw_iconst (v := 2) (pc' := 1094) dL_law_1093 rfl (by decide) ?_
  refine aw_iadd (pc' := 1095) dL_law_1094 rfl ?_
  refine aw_topi (v := nI (6 * c + 2)) (nIadd _ 2) ?_
  refine aw_sld (v := xs (6 * c + 2)) (pc' := 1096) dL_law_1095 rfl (nI_in (by omega) (by omega)) (by rw [nI_clamp (by omega)]) ?_
  refine aw_callVi (M' := mX12_says) (nc' := 126 + 4 * c + 0) (ns' := 60000 + 200 * c + 0) (pc' := 1099) dL_law_1096 rfl ml_RL_116 kX12_says (t_X12_says H1 em) (H1.ob (H1.fo (q := 59) rfl rfl) (by decide)) rfl rfl rfl (Nat.le_of_ble_eq_true rfl) (rokL (by decide) (Nat.le_of_ble_eq_true rfl) (by omega) (by omega)) rfl rfl (fun _ h2 q2 => ?_)
  obtain ⟨rfl, H2, -⟩ := q2
  refine aw_pop (pc' := 1100) dL_law_1099 rfl rfl ?_
  refine aw_goto (tgt := 2113) dL_law_1100 (by decide) ?_
  refine AW.widen (nc' := 130 + 4 * c) (ns' := 60200 + 200 * c) (by omega) (by omega) ?_
  exact kk _ _ H2 G2
set_option maxRecDepth 4000 in
theorem lc_25 {L : Nat} {xs : Nat → Int32} {c : Nat} (hL : L ≤ 3072) (hc : 6 * c + 6 ≤ L) (kk : Nx L xs c) {s : SS} {h : List aE} (H : HH s h) (G : GW c s) : AW mLaw room_1 (sF L xs lawF) 1103 (lvC c) [] h (126 + 4 * c) (60000 + 200 * c) := by
  obtain ⟨rx, s1, rm, s2, ex, em, G2, eq⟩ := s4_hours G (by omega) (xs (6 * c + 1))
  refine aw_aload_n (pc' := 1104) dL_law_1103 rfl rfl rfl ?_
  refine aw_aload_n (pc' := 1105) dL_law_1104 rfl rfl rfl ?_
  refine aw_iload_n (pc' := 1106) dL_law_1105 rfl rfl ?_
  refine aw_iconst (v := 1) (pc' := 1107) dL_law_1106 rfl (by decide) ?_
  refine aw_iadd (pc' := 1108) dL_law_1107 rfl ?_
  refine aw_topi (v := nI (6 * c + 1)) (nIadd _ 1) ?_
  refine aw_sld (v := xs (6 * c + 1)) (pc' := 1109) dL_law_1108 rfl (nI_in (by omega) (by omega)) (by rw [nI_clamp (by omega)]) ?_
  refine aw_callVi (M' := mX11_hours) (nc' := 126 + 4 * c + 0) (ns' := 60000 + 200 * c + 0) (pc' := 1112) dL_law_1109 rfl ml_RL_117 kX11_hours (t_X11_hours H ex) (H.ob (H.fo (q := 0) rfl rfl) (by decide)) rfl rfl rfl (Nat.le_of_ble_eq_true rfl) (rokL (by decide) (Nat.le_of_ble_eq_true rfl) (by omega) (by omega)) rfl rfl (fun _ h1 q1 => ?_)
  obtain ⟨rfl, H1, -⟩ := q1
  refine aw_pop (pc' := 1113) dL_law_1112 rfl rfl ?_
  refine aw_aload_n (pc' := 1114) dL_law_1113 rfl rfl rfl ?_
  refine aw_aload_n (pc' := 1115) dL_law_1114 rfl rfl rfl ?_
  refine aw_iload_n (pc' := 1116) dL_law_1115 rfl rfl ?_
  refine aw_iconst (v := 1) (pc' := 1117) dL_law_1116 rfl (by decide) ?_
  refine aw_iadd (pc' := 1118) dL_law_1117 rfl ?_
  refine aw_topi (v := nI (6 * c + 1)) (nIadd _ 1) ?_
  refine aw_sld (v := xs (6 * c + 1)) (pc' := 1119) dL_law_1118 rfl (nI_in (by omega) (by omega)) (by rw [nI_clamp (by omega)]) ?_
  refine aw_callVi (M' := mX12_hours) (nc' := 126 + 4 * c + 0) (ns' := 60000 + 200 * c + 0) (pc' := 1122) dL_law_1119 rfl ml_RL_120 kX12_hours (t_X12_hours H1 em) (H1.ob (H1.fo (q := 59) rfl rfl) (by decide)) rfl rfl rfl (Nat.le_of_ble_eq_true rfl) (rokL (by decide) (Nat.le_of_ble_eq_true rfl) (by omega) (by omega)) rfl rfl (fun _ h2 q2 => ?_)
  obtain ⟨rfl, H2, -⟩ := q2
  refine aw_pop (pc' := 1123) dL_law_1122 rfl rfl ?_
  refine aw_goto (tgt := 2113) dL_law_1123 (by decide) ?_
  refine AW.widen (nc' := 130 + 4 * c) (ns' := 60200 + 200 * c) (by omega) (by omega) ?_
  exact kk _ _ H2 G2
set_option maxRecDepth 4000 in
theorem lc_26 {L : Nat} {xs : Nat → Int32} {c : Nat} (hL : L ≤ 3072) (hc : 6 * c + 6 ≤ L) (kk : Nx L xs c) {s : SS} {h : List aE} (H : HH s h) (G : GW c s) : AW mLaw room_1 (sF L xs lawF) 1126 (lvC c) [] h (126 + 4 * c) (60000 + 200 * c) := by
  obtain ⟨rx, s1, rm, s2, ex, em, G2, eq⟩ := s4_spoons G (by omega) (xs (6 * c + 1))
  refine aw_aload_n (pc' := 1127) dL_law_1126 rfl rfl rfl ?_
  refine aw_aload_n (pc' := 1128) dL_law_1127 rfl rfl rfl ?_
  refine aw_iload_n (pc' := 1129) dL_law_1128 rfl rfl ?_
  refine aw_iconst (v := 1) (pc' := 1130) dL_law_1129 rfl (by decide) ?_
  refine aw_iadd (pc' := 1131) dL_law_1130 rfl ?_
  refine aw_topi (v := nI (6 * c + 1)) (nIadd _ 1) ?_
  refine aw_sld (v := xs (6 * c + 1)) (pc' := 1132) dL_law_1131 rfl (nI_in (by omega) (by omega)) (by rw [nI_clamp (by omega)]) ?_
  refine aw_callVi (M' := mX11_spoons) (nc' := 126 + 4 * c + 0) (ns' := 60000 + 200 * c + 0) (pc' := 1135) dL_law_1132 rfl ml_RL_121 kX11_spoons (t_X11_spoons H ex) (H.ob (H.fo (q := 0) rfl rfl) (by decide)) rfl rfl rfl (Nat.le_of_ble_eq_true rfl) (rokL (by decide) (Nat.le_of_ble_eq_true rfl) (by omega) (by omega)) rfl rfl (fun _ h1 q1 => ?_)
  obtain ⟨rfl, H1, -⟩ := q1
  refine aw_pop (pc' := 1136) dL_law_1135 rfl rfl ?_
  refine aw_aload_n (pc' := 1137) dL_law_1136 rfl rfl rfl ?_
  refine aw_aload_n (pc' := 1138) dL_law_1137 rfl rfl rfl ?_
  refine aw_iload_n (pc' := 1139) dL_law_1138 rfl rfl ?_
  refine aw_iconst (v := 1) (pc' := 1140) dL_law_1139 rfl (by decide) ?_
  refine aw_iadd (pc' := 1141) dL_law_1140 rfl ?_
  refine aw_topi (v := nI (6 * c + 1)) (nIadd _ 1) ?_
  refine aw_sld (v := xs (6 * c + 1)) (pc' := 1142) dL_law_1141 rfl (nI_in (by omega) (by omega)) (by rw [nI_clamp (by omega)]) ?_
  refine aw_callVi (M' := mX12_spoons) (nc' := 126 + 4 * c + 0) (ns' := 60000 + 200 * c + 0) (pc' := 1145) dL_law_1142 rfl ml_RL_124 kX12_spoons (t_X12_spoons H1 em) (H1.ob (H1.fo (q := 59) rfl rfl) (by decide)) rfl rfl rfl (Nat.le_of_ble_eq_true rfl) (rokL (by decide) (Nat.le_of_ble_eq_true rfl) (by omega) (by omega)) rfl rfl (fun _ h2 q2 => ?_)
  obtain ⟨rfl, H2, -⟩ := q2
  refine aw_pop (pc' := 1146) dL_law_1145 rfl rfl ?_
  refine aw_goto (tgt := 2113) dL_law_1146 (by decide) ?_
  refine AW.widen (nc' := 130 + 4 * c) (ns' := 60200 + 200 * c) (by omega) (by omega) ?_
  exact kk _ _ H2 G2
set_option maxRecDepth 4000 in
theorem lc_27 {L : Nat} {xs : Nat → Int32} {c : Nat} (hL : L ≤ 3072) (hc : 6 * c + 6 ≤ L) (kk : Nx L xs c) {s : SS} {h : List aE} (H : HH s h) (G : GW c s) : AW mLaw room_1 (sF L xs lawF) 1149 (lvC c) [] h (126 + 4 * c) (60000 + 200 * c) := by
  obtain ⟨rx, s1, rm, s2, ex, em, G2, eq⟩ := s4_move G (by omega) (xs (6 * c + 1)) (xs (6 * c + 2))
  refine aw_aload_n (pc' := 1150) dL_law_1149 rfl rfl rfl ?_
  refine aw_aload_n (pc' := 1151) dL_law_1150 rfl rfl rfl ?_
  refine aw_iload_n (pc' := 1152) dL_law_1151 rfl rfl ?_
  refine aw_iconst (v := 1) (pc' := 1153) dL_law_1152 rfl (by decide) ?_
  refine aw_iadd (pc' := 1154) dL_law_1153 rfl ?_
  refine aw_topi (v := nI (6 * c + 1)) (nIadd _ 1) ?_
  refine aw_sld (v := xs (6 * c + 1)) (pc' := 1155) dL_law_1154 rfl (nI_in (by omega) (by omega)) (by rw [nI_clamp (by omega)]) ?_
  refine aw_aload_n (pc' := 1156) dL_law_1155 rfl rfl rfl ?_
  refine aw_iload_n (pc' := 1157) dL_law_1156 rfl rfl ?_
  refine aw_iconst (v := 2) (pc' := 1158) dL_law_1157 rfl (by decide) ?_
  refine aw_iadd (pc' := 1159) dL_law_1158 rfl ?_
  refine aw_topi (v := nI (6 * c + 2)) (nIadd _ 2) ?_
  refine aw_sld (v := xs (6 * c + 2)) (pc' := 1160) dL_law_1159 rfl (nI_in (by omega) (by omega)) (by rw [nI_clamp (by omega)]) ?_
  refine aw_callVi (M' := mX11_move) (nc' := 126 + 4 * c + 0) (ns' := 60000 + 200 * c + 0) (pc' := 1163) dL_law_1160 rfl ml_RL_125 kX11_move (t_X11_move H ex) (H.ob (H.fo (q := 0) rfl rfl) (by decide)) rfl rfl rfl (Nat.le_of_ble_eq_true rfl) (rokL (by decide) (Nat.le_of_ble_eq_true rfl) (by omega) (by omega)) rfl rfl (fun _ h1 q1 => ?_)
  obtain ⟨rfl, H1, -⟩ := q1
  refine aw_pop (pc' := 1164) dL_law_1163 rfl rfl ?_
  refine aw_aload_n (pc' := 1165) dL_law_1164 rfl rfl rfl ?_
  refine aw_aload_n (pc' := 1166) dL_law_1165 rfl rfl rfl ?_
  refine aw_iload_n (pc' := 1167) dL_law_1166 rfl rfl ?_
  refine aw_iconst (v := 1) (pc' := 1168) dL_law_1167 rfl (by decide) ?_
  refine aw_iadd (pc' := 1169) dL_law_1168 rfl ?_
  refine aw_topi (v := nI (6 * c + 1)) (nIadd _ 1) ?_
  refine aw_sld (v := xs (6 * c + 1)) (pc' := 1170) dL_law_1169 rfl (nI_in (by omega) (by omega)) (by rw [nI_clamp (by omega)]) ?_
  refine aw_aload_n (pc' := 1171) dL_law_1170 rfl rfl rfl ?_
  refine aw_iload_n (pc' := 1172) dL_law_1171 rfl rfl ?_
  refine aw_iconst (v := 2) (pc' := 1173) dL_law_1172 rfl (by decide) ?_
  refine aw_iadd (pc' := 1174) dL_law_1173 rfl ?_
  refine aw_topi (v := nI (6 * c + 2)) (nIadd _ 2) ?_
  refine aw_sld (v := xs (6 * c + 2)) (pc' := 1175) dL_law_1174 rfl (nI_in (by omega) (by omega)) (by rw [nI_clamp (by omega)]) ?_
  refine aw_callVi (M' := mX12_move) (nc' := 126 + 4 * c + 0) (ns' := 60000 + 200 * c + 0) (pc' := 1178) dL_law_1175 rfl ml_RL_128 kX12_move (t_X12_move H1 em) (H1.ob (H1.fo (q := 59) rfl rfl) (by decide)) rfl rfl rfl (Nat.le_of_ble_eq_true rfl) (rokL (by decide) (Nat.le_of_ble_eq_true rfl) (by omega) (by omega)) rfl rfl (fun _ h2 q2 => ?_)
  obtain ⟨rfl, H2, -⟩ := q2
  refine aw_pop (pc' := 1179) dL_law_1178 rfl rfl ?_
  refine aw_goto (tgt := 2113) dL_law_1179 (by decide) ?_
  refine AW.widen (nc' := 130 + 4 * c) (ns' := 60200 + 200 * c) (by omega) (by omega) ?_
  exact kk _ _ H2 G2
set_option maxRecDepth 4000 in
theorem lc_28 {L : Nat} {xs : Nat → Int32} {c : Nat} (hL : L ≤ 3072) (hc : 6 * c + 6 ≤ L) (kk : Nx L xs c) {s : SS} {h : List aE} (H : HH s h) (G : GW c s) : AW mLaw room_1 (sF L xs lawF) 1182 (lvC c) [] h (126 + 4 * c) (60000 + 200 * c) := by
  obtain ⟨rx, s1, rm, s2, ex, em, G2, eq⟩ := s4_last G (by omega) (xs (6 * c + 1)) (xs (6 * c + 2))
  refine aw_aload_n (pc' := 1183) dL_law_1182 rfl rfl rfl ?_
  refine aw_aload_n (pc' := 1184) dL_law_1183 rfl rfl rfl ?_
  refine aw_iload_n (pc' := 1185) dL_law_1184 rfl rfl ?_
  refine aw_iconst (v := 1) (pc' := 1186) dL_law_1185 rfl (by decide) ?_
  refine aw_iadd (pc' := 1187) dL_law_1186 rfl ?_
  refine aw_topi (v := nI (6 * c + 1)) (nIadd _ 1) ?_
  refine aw_sld (v := xs (6 * c + 1)) (pc' := 1188) dL_law_1187 rfl (nI_in (by omega) (by omega)) (by rw [nI_clamp (by omega)]) ?_
  refine aw_aload_n (pc' := 1189) dL_law_1188 rfl rfl rfl ?_
  refine aw_iload_n (pc' := 1190) dL_law_1189 rfl rfl ?_
  refine aw_iconst (v := 2) (pc' := 1191) dL_law_1190 rfl (by decide) ?_
  refine aw_iadd (pc' := 1192) dL_law_1191 rfl ?_
  refine aw_topi (v := nI (6 * c + 2)) (nIadd _ 2) ?_
  refine aw_sld (v := xs (6 * c + 2)) (pc' := 1193) dL_law_1192 rfl (nI_in (by omega) (by omega)) (by rw [nI_clamp (by omega)]) ?_
  refine aw_callVi (M' := mX11_last) (nc' := 126 + 4 * c + 0) (ns' := 60000 + 200 * c + 0) (pc' := 1196) dL_law_1193 rfl ml_RL_129 kX11_last (t_X11_last H ex) (H.ob (H.fo (q := 0) rfl rfl) (by decide)) rfl rfl rfl (Nat.le_of_ble_eq_true rfl) (rokL (by decide) (Nat.le_of_ble_eq_true rfl) (by omega) (by omega)) rfl rfl (fun _ h1 q1 => ?_)
  obtain ⟨rfl, H1, -⟩ := q1
  refine aw_pop (pc' := 1197) dL_law_1196 rfl rfl ?_
  refine aw_aload_n (pc' := 1198) dL_law_1197 rfl rfl rfl ?_
  refine aw_aload_n (pc' := 1199) dL_law_1198 rfl rfl rfl ?_
  refine aw_iload_n (pc' := 1200) dL_law_1199 rfl rfl ?_
  refine aw_iconst (v := 1) (pc' := 1201) dL_law_1200 rfl (by decide) ?_
  refine aw_iadd (pc' := 1202) dL_law_1201 rfl ?_
  refine aw_topi (v := nI (6 * c + 1)) (nIadd _ 1) ?_
  refine aw_sld (v := xs (6 * c + 1)) (pc' := 1203) dL_law_1202 rfl (nI_in (by omega) (by omega)) (by rw [nI_clamp (by omega)]) ?_
  refine aw_aload_n (pc' := 1204) dL_law_1203 rfl rfl rfl ?_
  refine aw_iload_n (pc' := 1205) dL_law_1204 rfl rfl ?_
  refine aw_iconst (v := 2) (pc' := 1206) dL_law_1205 rfl (by decide) ?_
  refine aw_iadd (pc' := 1207) dL_law_1206 rfl ?_
  refine aw_topi (v := nI (6 * c + 2)) (nIadd _ 2) ?_
  refine aw_sld (v := xs (6 * c + 2)) (pc' := 1208) dL_law_1207 rfl (nI_in (by omega) (by omega)) (by rw [nI_clamp (by omega)]) ?_
  refine aw_callVi (M' := mX12_last) (nc' := 126 + 4 * c + 0) (ns' := 60000 + 200 * c + 0) (pc' := 1211) dL_law_1208 rfl ml_RL_132 kX12_last (t_X12_last H1 em) (H1.ob (H1.fo (q := 59) rfl rfl) (by decide)) rfl rfl rfl (Nat.le_of_ble_eq_true rfl) (rokL (by decide) (Nat.le_of_ble_eq_true rfl) (by omega) (by omega)) rfl rfl (fun _ h2 q2 => ?_)
  obtain ⟨rfl, H2, -⟩ := q2
  refine aw_pop (pc' := 1212) dL_law_1211 rfl rfl ?_
  refine aw_goto (tgt := 2113) dL_law_1212 (by decide) ?_
  refine AW.widen (nc' := 130 + 4 * c) (ns' := 60200 + 200 * c) (by omega) (by omega) ?_
  exact kk _ _ H2 G2
set_option maxRecDepth 4000 in
theorem lc_29 {L : Nat} {xs : Nat → Int32} {c : Nat} (hL : L ≤ 3072) (hc : 6 * c + 6 ≤ L) (kk : Nx L xs c) {s : SS} {h : List aE} (H : HH s h) (G : GW c s) : AW mLaw room_1 (sF L xs lawF) 1215 (lvC c) [] h (126 + 4 * c) (60000 + 200 * c) := by
  obtain ⟨rx, s1, rm, s2, ex, em, G2, eq⟩ := s4_best G (by omega) (xs (6 * c + 1))
  refine aw_aload_n (pc' := 1216) dL_law_1215 rfl rfl rfl ?_
  refine aw_aload_n (pc' := 1217) dL_law_1216 rfl rfl rfl ?_
  refine aw_iload_n (pc' := 1218) dL_law_1217 rfl rfl ?_
  refine aw_iconst (v := 1) (pc' := 1219) dL_law_1218 rfl (by decide) ?_
  refine aw_iadd (pc' := 1220) dL_law_1219 rfl ?_
  refine aw_topi (v := nI (6 * c + 1)) (nIadd _ 1) ?_
  refine aw_sld (v := xs (6 * c + 1)) (pc' := 1221) dL_law_1220 rfl (nI_in (by omega) (by omega)) (by rw [nI_clamp (by omega)]) ?_
  refine aw_callVi (M' := mX11_best) (nc' := 126 + 4 * c + 0) (ns' := 60000 + 200 * c + 0) (pc' := 1224) dL_law_1221 rfl ml_RL_133 kX11_best (t_X11_best H ex) (H.ob (H.fo (q := 0) rfl rfl) (by decide)) rfl rfl rfl (Nat.le_of_ble_eq_true rfl) (rokL (by decide) (Nat.le_of_ble_eq_true rfl) (by omega) (by omega)) rfl rfl (fun _ h1 q1 => ?_)
  obtain ⟨rfl, H1, -⟩ := q1
  refine aw_pop (pc' := 1225) dL_law_1224 rfl rfl ?_
  refine aw_aload_n (pc' := 1226) dL_law_1225 rfl rfl rfl ?_
  refine aw_aload_n (pc' := 1227) dL_law_1226 rfl rfl rfl ?_
  refine aw_iload_n (pc' := 1228) dL_law_1227 rfl rfl ?_
  refine aw_iconst (v := 1) (pc' := 1229) dL_law_1228 rfl (by decide) ?_
  refine aw_iadd (pc' := 1230) dL_law_1229 rfl ?_
  refine aw_topi (v := nI (6 * c + 1)) (nIadd _ 1) ?_
  refine aw_sld (v := xs (6 * c + 1)) (pc' := 1231) dL_law_1230 rfl (nI_in (by omega) (by omega)) (by rw [nI_clamp (by omega)]) ?_
  refine aw_callVi (M' := mX12_best) (nc' := 126 + 4 * c + 0) (ns' := 60000 + 200 * c + 0) (pc' := 1234) dL_law_1231 rfl ml_RL_136 kX12_best (t_X12_best H1 em) (H1.ob (H1.fo (q := 59) rfl rfl) (by decide)) rfl rfl rfl (Nat.le_of_ble_eq_true rfl) (rokL (by decide) (Nat.le_of_ble_eq_true rfl) (by omega) (by omega)) rfl rfl (fun _ h2 q2 => ?_)
  obtain ⟨rfl, H2, -⟩ := q2
  refine aw_pop (pc' := 1235) dL_law_1234 rfl rfl ?_
  refine aw_goto (tgt := 2113) dL_law_1235 (by decide) ?_
  refine AW.widen (nc' := 130 + 4 * c) (ns' := 60200 + 200 * c) (by omega) (by omega) ?_
  exact kk _ _ H2 G2
set_option maxRecDepth 4000 in
theorem lc_30 {L : Nat} {xs : Nat → Int32} {c : Nat} (hL : L ≤ 3072) (hc : 6 * c + 6 ≤ L) (kk : Nx L xs c) {s : SS} {h : List aE} (H : HH s h) (G : GW c s) : AW mLaw room_1 (sF L xs lawF) 1238 (lvC c) [] h (126 + 4 * c) (60000 + 200 * c) := by
  obtain ⟨rx, s1, rm, s2, ex, em, G2, eq⟩ := s4_down G (by omega) (xs (6 * c + 1)) (xs (6 * c + 2)) (xs (6 * c + 3))
  refine aw_aload_n (pc' := 1239) dL_law_1238 rfl rfl rfl ?_
  refine aw_aload_n (pc' := 1240) dL_law_1239 rfl rfl rfl ?_
  refine aw_iload_n (pc' := 1241) dL_law_1240 rfl rfl ?_
  refine aw_iconst (v := 1) (pc' := 1242) dL_law_1241 rfl (by decide) ?_
  refine aw_iadd (pc' := 1243) dL_law_1242 rfl ?_
  refine aw_topi (v := nI (6 * c + 1)) (nIadd _ 1) ?_
  refine aw_sld (v := xs (6 * c + 1)) (pc' := 1244) dL_law_1243 rfl (nI_in (by omega) (by omega)) (by rw [nI_clamp (by omega)]) ?_
  refine aw_aload_n (pc' := 1245) dL_law_1244 rfl rfl rfl ?_
  refine aw_iload_n (pc' := 1246) dL_law_1245 rfl rfl ?_
  refine aw_iconst (v := 2) (pc' := 1247) dL_law_1246 rfl (by decide) ?_
  refine aw_iadd (pc' := 1248) dL_law_1247 rfl ?_
  refine aw_topi (v := nI (6 * c + 2)) (nIadd _ 2) ?_
  refine aw_sld (v := xs (6 * c + 2)) (pc' := 1249) dL_law_1248 rfl (nI_in (by omega) (by omega)) (by rw [nI_clamp (by omega)]) ?_
  refine aw_aload_n (pc' := 1250) dL_law_1249 rfl rfl rfl ?_
  refine aw_iload_n (pc' := 1251) dL_law_1250 rfl rfl ?_
  refine aw_iconst (v := 3) (pc' := 1252) dL_law_1251 rfl (by decide) ?_
  refine aw_iadd (pc' := 1253) dL_law_1252 rfl ?_
  refine aw_topi (v := nI (6 * c + 3)) (nIadd _ 3) ?_
  refine aw_sld (v := xs (6 * c + 3)) (pc' := 1254) dL_law_1253 rfl (nI_in (by omega) (by omega)) (by rw [nI_clamp (by omega)]) ?_
  refine aw_callVi (M' := mX11_down) (nc' := 126 + 4 * c + 0) (ns' := 60000 + 200 * c + 0) (pc' := 1257) dL_law_1254 rfl ml_RL_137 kX11_down (t_X11_down H ex) (H.ob (H.fo (q := 0) rfl rfl) (by decide)) rfl rfl rfl (Nat.le_of_ble_eq_true rfl) (rokL (by decide) (Nat.le_of_ble_eq_true rfl) (by omega) (by omega)) rfl rfl (fun _ h1 q1 => ?_)
  obtain ⟨rfl, H1, -⟩ := q1
  refine aw_pop (pc' := 1258) dL_law_1257 rfl rfl ?_
  refine aw_aload_n (pc' := 1259) dL_law_1258 rfl rfl rfl ?_
  refine aw_aload_n (pc' := 1260) dL_law_1259 rfl rfl rfl ?_
  refine aw_iload_n (pc' := 1261) dL_law_1260 rfl rfl ?_
  refine aw_iconst (v := 1) (pc' := 1262) dL_law_1261 rfl (by decide) ?_
  refine aw_iadd (pc' := 1263) dL_law_1262 rfl ?_
  refine aw_topi (v := nI (6 * c + 1)) (nIadd _ 1) ?_
  refine aw_sld (v := xs (6 * c + 1)) (pc' := 1264) dL_law_1263 rfl (nI_in (by omega) (by omega)) (by rw [nI_clamp (by omega)]) ?_
  refine aw_aload_n (pc' := 1265) dL_law_1264 rfl rfl rfl ?_
  refine aw_iload_n (pc' := 1266) dL_law_1265 rfl rfl ?_
  refine aw_iconst (v := 2) (pc' := 1267) dL_law_1266 rfl (by decide) ?_
  refine aw_iadd (pc' := 1268) dL_law_1267 rfl ?_
  refine aw_topi (v := nI (6 * c + 2)) (nIadd _ 2) ?_
  refine aw_sld (v := xs (6 * c + 2)) (pc' := 1269) dL_law_1268 rfl (nI_in (by omega) (by omega)) (by rw [nI_clamp (by omega)]) ?_
  refine aw_aload_n (pc' := 1270) dL_law_1269 rfl rfl rfl ?_
  refine aw_iload_n (pc' := 1271) dL_law_1270 rfl rfl ?_
  refine aw_iconst (v := 3) (pc' := 1272) dL_law_1271 rfl (by decide) ?_
  refine aw_iadd (pc' := 1273) dL_law_1272 rfl ?_
  refine aw_topi (v := nI (6 * c + 3)) (nIadd _ 3) ?_
  refine aw_sld (v := xs (6 * c + 3)) (pc' := 1274) dL_law_1273 rfl (nI_in (by omega) (by omega)) (by rw [nI_clamp (by omega)]) ?_
  refine aw_callVi (M' := mX12_down) (nc' := 126 + 4 * c + 0) (ns' := 60000 + 200 * c + 0) (pc' := 1277) dL_law_1274 rfl ml_RL_140 kX12_down (t_X12_down H1 em) (H1.ob (H1.fo (q := 59) rfl rfl) (by decide)) rfl rfl rfl (Nat.le_of_ble_eq_true rfl) (rokL (by decide) (Nat.le_of_ble_eq_true rfl) (by omega) (by omega)) rfl rfl (fun _ h2 q2 => ?_)
  obtain ⟨rfl, H2, -⟩ := q2
  refine aw_pop (pc' := 1278) dL_law_1277 rfl rfl ?_
  refine aw_goto (tgt := 2113) dL_law_1278 (by decide) ?_
  refine AW.widen (nc' := 130 + 4 * c) (ns' := 60200 + 200 * c) (by omega) (by omega) ?_
  exact kk _ _ H2 G2
set_option maxRecDepth 4000 in
theorem lc_31 {L : Nat} {xs : Nat → Int32} {c : Nat} (hL : L ≤ 3072) (hc : 6 * c + 6 ≤ L) (kk : Nx L xs c) {s : SS} {h : List aE} (H : HH s h) (G : GW c s) : AW mLaw room_1 (sF L xs lawF) 1281 (lvC c) [] h (126 + 4 * c) (60000 + 200 * c) := by
  obtain ⟨rx, s1, rm, s2, ex, em, G2, eq⟩ := s4_below G (by omega) (xs (6 * c + 1))
  refine aw_aload_n (pc' := 1282) dL_law_1281 rfl rfl rfl ?_
  refine aw_aload_n (pc' := 1283) dL_law_1282 rfl rfl rfl ?_
  refine aw_iload_n (pc' := 1284) dL_law_1283 rfl rfl ?_
  refine aw_iconst (v := 1) (pc' := 1285) dL_law_1284 rfl (by decide) ?_
  refine aw_iadd (pc' := 1286) dL_law_1285 rfl ?_
  refine aw_topi (v := nI (6 * c + 1)) (nIadd _ 1) ?_
  refine aw_sld (v := xs (6 * c + 1)) (pc' := 1287) dL_law_1286 rfl (nI_in (by omega) (by omega)) (by rw [nI_clamp (by omega)]) ?_
  refine aw_callVi (M' := mX11_below) (nc' := 126 + 4 * c + 0) (ns' := 60000 + 200 * c + 0) (pc' := 1290) dL_law_1287 rfl ml_RL_141 kX11_below (t_X11_below H ex) (H.ob (H.fo (q := 0) rfl rfl) (by decide)) rfl rfl rfl (Nat.le_of_ble_eq_true rfl) (rokL (by decide) (Nat.le_of_ble_eq_true rfl) (by omega) (by omega)) rfl rfl (fun _ h1 q1 => ?_)
  obtain ⟨rfl, rfl⟩ := q1
  refine aw_pop (pc' := 1291) dL_law_1290 rfl rfl ?_
  refine aw_aload_n (pc' := 1292) dL_law_1291 rfl rfl rfl ?_
  refine aw_aload_n (pc' := 1293) dL_law_1292 rfl rfl rfl ?_
  refine aw_iload_n (pc' := 1294) dL_law_1293 rfl rfl ?_
  refine aw_iconst (v := 1) (pc' := 1295) dL_law_1294 rfl (by decide) ?_
  refine aw_iadd (pc' := 1296) dL_law_1295 rfl ?_
  refine aw_topi (v := nI (6 * c + 1)) (nIadd _ 1) ?_
  refine aw_sld (v := xs (6 * c + 1)) (pc' := 1297) dL_law_1296 rfl (nI_in (by omega) (by omega)) (by rw [nI_clamp (by omega)]) ?_
  refine aw_callVi (M' := mX12_below) (nc' := 126 + 4 * c + 0) (ns' := 60000 + 200 * c + 0) (pc' := 1300) dL_law_1297 rfl ml_RL_144 kX12_below (t_X12_below H em) (H.ob (H.fo (q := 59) rfl rfl) (by decide)) rfl rfl rfl (Nat.le_of_ble_eq_true rfl) (rokL (by decide) (Nat.le_of_ble_eq_true rfl) (by omega) (by omega)) rfl rfl (fun _ h2 q2 => ?_)
  obtain ⟨rfl, rfl⟩ := q2
  refine aw_pop (pc' := 1301) dL_law_1300 rfl rfl ?_
  refine aw_goto (tgt := 2113) dL_law_1301 (by decide) ?_
  refine AW.widen (nc' := 130 + 4 * c) (ns' := 60200 + 200 * c) (by omega) (by omega) ?_
  exact kk _ _ H G2
set_option maxRecDepth 4000 in
theorem lc_32 {L : Nat} {xs : Nat → Int32} {c : Nat} (hL : L ≤ 3072) (hc : 6 * c + 6 ≤ L) (kk : Nx L xs c) {s : SS} {h : List aE} (H : HH s h) (G : GW c s) : AW mLaw room_1 (sF L xs lawF) 1304 (lvC c) [] h (126 + 4 * c) (60000 + 200 * c) := by
  obtain ⟨rx, s1, rm, s2, ex, em, G2, eq⟩ := s4_need G (by omega) (xs (6 * c + 1)) (xs (6 * c + 2))
  refine aw_aload_n (pc' := 1305) dL_law_1304 rfl rfl rfl ?_
  refine aw_aload_n (pc' := 1306) dL_law_1305 rfl rfl rfl ?_
  refine aw_iload_n (pc' := 1307) dL_law_1306 rfl rfl ?_
  refine aw_iconst (v := 1) (pc' := 1308) dL_law_1307 rfl (by decide) ?_
  refine aw_iadd (pc' := 1309) dL_law_1308 rfl ?_
  refine aw_topi (v := nI (6 * c + 1)) (nIadd _ 1) ?_
  refine aw_sld (v := xs (6 * c + 1)) (pc' := 1310) dL_law_1309 rfl (nI_in (by omega) (by omega)) (by rw [nI_clamp (by omega)]) ?_
  refine aw_aload_n (pc' := 1311) dL_law_1310 rfl rfl rfl ?_
  refine aw_iload_n (pc' := 1312) dL_law_1311 rfl rfl ?_
  refine aw_iconst (v := 2) (pc' := 1313) dL_law_1312 rfl (by decide) ?_
  refine aw_iadd (pc' := 1314) dL_law_1313 rfl ?_
  refine aw_topi (v := nI (6 * c + 2)) (nIadd _ 2) ?_
  refine aw_sld (v := xs (6 * c + 2)) (pc' := 1315) dL_law_1314 rfl (nI_in (by omega) (by omega)) (by rw [nI_clamp (by omega)]) ?_
  refine aw_callVi (M' := mX11_need) (nc' := 126 + 4 * c + 0) (ns' := 60000 + 200 * c + 0) (pc' := 1318) dL_law_1315 rfl ml_RL_145 kX11_need (t_X11_need H ex) (H.ob (H.fo (q := 0) rfl rfl) (by decide)) rfl rfl rfl (Nat.le_of_ble_eq_true rfl) (rokL (by decide) (Nat.le_of_ble_eq_true rfl) (by omega) (by omega)) rfl rfl (fun _ h1 q1 => ?_)
  obtain ⟨rfl, H1, -⟩ := q1
  refine aw_pop (pc' := 1319) dL_law_1318 rfl rfl ?_
  refine aw_aload_n (pc' := 1320) dL_law_1319 rfl rfl rfl ?_
  refine aw_aload_n (pc' := 1321) dL_law_1320 rfl rfl rfl ?_
  refine aw_iload_n (pc' := 1322) dL_law_1321 rfl rfl ?_
  refine aw_iconst (v := 1) (pc' := 1323) dL_law_1322 rfl (by decide) ?_
  refine aw_iadd (pc' := 1324) dL_law_1323 rfl ?_
  refine aw_topi (v := nI (6 * c + 1)) (nIadd _ 1) ?_
  refine aw_sld (v := xs (6 * c + 1)) (pc' := 1325) dL_law_1324 rfl (nI_in (by omega) (by omega)) (by rw [nI_clamp (by omega)]) ?_
  refine aw_aload_n (pc' := 1326) dL_law_1325 rfl rfl rfl ?_
  refine aw_iload_n (pc' := 1327) dL_law_1326 rfl rfl ?_
  refine aw_iconst (v := 2) (pc' := 1328) dL_law_1327 rfl (by decide) ?_
  refine aw_iadd (pc' := 1329) dL_law_1328 rfl ?_
  refine aw_topi (v := nI (6 * c + 2)) (nIadd _ 2) ?_
  refine aw_sld (v := xs (6 * c + 2)) (pc' := 1330) dL_law_1329 rfl (nI_in (by omega) (by omega)) (by rw [nI_clamp (by omega)]) ?_
  refine aw_callVi (M' := mX12_need) (nc' := 126 + 4 * c + 0) (ns' := 60000 + 200 * c + 0) (pc' := 1333) dL_law_1330 rfl ml_RL_148 kX12_need (t_X12_need H1 em) (H1.ob (H1.fo (q := 59) rfl rfl) (by decide)) rfl rfl rfl (Nat.le_of_ble_eq_true rfl) (rokL (by decide) (Nat.le_of_ble_eq_true rfl) (by omega) (by omega)) rfl rfl (fun _ h2 q2 => ?_)
  obtain ⟨rfl, H2, -⟩ := q2
  refine aw_pop (pc' := 1334) dL_law_1333 rfl rfl ?_
  refine aw_goto (tgt := 2113) dL_law_1334 (by decide) ?_
  refine AW.widen (nc' := 130 + 4 * c) (ns' := 60200 + 200 * c) (by omega) (by omega) ?_
  exact kk _ _ H2 G2
set_option maxRecDepth 4000 in
theorem lc_33 {L : Nat} {xs : Nat → Int32} {c : Nat} (hL : L ≤ 3072) (hc : 6 * c + 6 ≤ L) (kk : Nx L xs c) {s : SS} {h : List aE} (H : HH s h) (G : GW c s) : AW mLaw room_1 (sF L xs lawF) 1337 (lvC c) [] h (126 + 4 * c) (60000 + 200 * c) := by
  obtain ⟨rx, s1, rm, s2, ex, em, G2, eq⟩ := s4_order G (by omega)
  refine aw_aload_n (pc' := 1338) dL_law_1337 rfl rfl rfl ?_
  refine aw_callVi (M' := mX11_order) (nc' := 126 + 4 * c + 0) (ns' := 60000 + 200 * c + 0) (pc' := 1341) dL_law_1338 rfl ml_RL_149 kX11_order (t_X11_order H ex) (H.ob (H.fo (q := 0) rfl rfl) (by decide)) rfl rfl rfl (Nat.le_of_ble_eq_true rfl) (rokL (by decide) (Nat.le_of_ble_eq_true rfl) (by omega) (by omega)) rfl rfl (fun _ h1 q1 => ?_)
  obtain ⟨rfl, H1, -⟩ := q1
  refine aw_pop (pc' := 1342) dL_law_1341 rfl rfl ?_
  refine aw_aload_n (pc' := 1343) dL_law_1342 rfl rfl rfl ?_
  refine aw_callVi (M' := mX12_order) (nc' := 126 + 4 * c + 0) (ns' := 60000 + 200 * c + 0) (pc' := 1346) dL_law_1343 rfl ml_RL_153 kX12_order (t_X12_order H1 em) (H1.ob (H1.fo (q := 59) rfl rfl) (by decide)) rfl rfl rfl (Nat.le_of_ble_eq_true rfl) (rokL (by decide) (Nat.le_of_ble_eq_true rfl) (by omega) (by omega)) rfl rfl (fun _ h2 q2 => ?_)
  obtain ⟨rfl, H2, -⟩ := q2
  refine aw_pop (pc' := 1347) dL_law_1346 rfl rfl ?_
  refine aw_goto (tgt := 2113) dL_law_1347 (by decide) ?_
  refine AW.widen (nc' := 130 + 4 * c) (ns' := 60200 + 200 * c) (by omega) (by omega) ?_
  exact kk _ _ H2 G2
set_option maxRecDepth 4000 in
theorem lc_34 {L : Nat} {xs : Nat → Int32} {c : Nat} (hL : L ≤ 3072) (hc : 6 * c + 6 ≤ L) (kk : Nx L xs c) {s : SS} {h : List aE} (H : HH s h) (G : GW c s) : AW mLaw room_1 (sF L xs lawF) 1350 (lvC c) [] h (126 + 4 * c) (60000 + 200 * c) := by
  obtain ⟨rx, s1, rm, s2, ex, em, G2, eq⟩ := s4_ordered G (by omega) (xs (6 * c + 1))
  refine aw_aload_n (pc' := 1351) dL_law_1350 rfl rfl rfl ?_
  refine aw_aload_n (pc' := 1352) dL_law_1351 rfl rfl rfl ?_
  refine aw_iload_n (pc' := 1353) dL_law_1352 rfl rfl ?_
  refine aw_iconst (v := 1) (pc' := 1354) dL_law_1353 rfl (by decide) ?_
  refine aw_iadd (pc' := 1355) dL_law_1354 rfl ?_
  refine aw_topi (v := nI (6 * c + 1)) (nIadd _ 1) ?_
  refine aw_sld (v := xs (6 * c + 1)) (pc' := 1356) dL_law_1355 rfl (nI_in (by omega) (by omega)) (by rw [nI_clamp (by omega)]) ?_
  refine aw_callVi (M' := mX11_ordered) (nc' := 126 + 4 * c + 0) (ns' := 60000 + 200 * c + 0) (pc' := 1359) dL_law_1356 rfl ml_RL_154 kX11_ordered (t_X11_ordered H ex) (H.ob (H.fo (q := 0) rfl rfl) (by decide)) rfl rfl rfl (Nat.le_of_ble_eq_true rfl) (rokL (by decide) (Nat.le_of_ble_eq_true rfl) (by omega) (by omega)) rfl rfl (fun _ h1 q1 => ?_)
  obtain ⟨rfl, rfl⟩ := q1
  refine aw_pop (pc' := 1360) dL_law_1359 rfl rfl ?_
  refine aw_aload_n (pc' := 1361) dL_law_1360 rfl rfl rfl ?_
  refine aw_aload_n (pc' := 1362) dL_law_1361 rfl rfl rfl ?_
  refine aw_iload_n (pc' := 1363) dL_law_1362 rfl rfl ?_
  refine aw_iconst (v := 1) (pc' := 1364) dL_law_1363 rfl (by decide) ?_
  refine aw_iadd (pc' := 1365) dL_law_1364 rfl ?_
  refine aw_topi (v := nI (6 * c + 1)) (nIadd _ 1) ?_
  refine aw_sld (v := xs (6 * c + 1)) (pc' := 1366) dL_law_1365 rfl (nI_in (by omega) (by omega)) (by rw [nI_clamp (by omega)]) ?_
  refine aw_callVi (M' := mX12_ordered) (nc' := 126 + 4 * c + 0) (ns' := 60000 + 200 * c + 0) (pc' := 1369) dL_law_1366 rfl ml_RL_157 kX12_ordered (t_X12_ordered H em) (H.ob (H.fo (q := 59) rfl rfl) (by decide)) rfl rfl rfl (Nat.le_of_ble_eq_true rfl) (rokL (by decide) (Nat.le_of_ble_eq_true rfl) (by omega) (by omega)) rfl rfl (fun _ h2 q2 => ?_)
  obtain ⟨rfl, rfl⟩ := q2
  refine aw_pop (pc' := 1370) dL_law_1369 rfl rfl ?_
  refine aw_goto (tgt := 2113) dL_law_1370 (by decide) ?_
  refine AW.widen (nc' := 130 + 4 * c) (ns' := 60200 + 200 * c) (by omega) (by omega) ?_
  exact kk _ _ H G2
set_option maxRecDepth 4000 in
theorem lc_35 {L : Nat} {xs : Nat → Int32} {c : Nat} (hL : L ≤ 3072) (hc : 6 * c + 6 ≤ L) (kk : Nx L xs c) {s : SS} {h : List aE} (H : HH s h) (G : GW c s) : AW mLaw room_1 (sF L xs lawF) 1373 (lvC c) [] h (126 + 4 * c) (60000 + 200 * c) := by
  obtain ⟨rx, s1, rm, s2, ex, em, G2, eq⟩ := s4_watch G (by omega) (xs (6 * c + 1)) (xs (6 * c + 2))
  refine aw_aload_n (pc' := 1374) dL_law_1373 rfl rfl rfl ?_
  refine aw_aload_n (pc' := 1375) dL_law_1374 rfl rfl rfl ?_
  refine aw_iload_n (pc' := 1376) dL_law_1375 rfl rfl ?_
  refine aw_iconst (v := 1) (pc' := 1377) dL_law_1376 rfl (by decide) ?_
  refine aw_iadd (pc' := 1378) dL_law_1377 rfl ?_
  refine aw_topi (v := nI (6 * c + 1)) (nIadd _ 1) ?_
  refine aw_sld (v := xs (6 * c + 1)) (pc' := 1379) dL_law_1378 rfl (nI_in (by omega) (by omega)) (by rw [nI_clamp (by omega)]) ?_
  refine aw_aload_n (pc' := 1380) dL_law_1379 rfl rfl rfl ?_
  refine aw_iload_n (pc' := 1381) dL_law_1380 rfl rfl ?_
  refine aw_iconst (v := 2) (pc' := 1382) dL_law_1381 rfl (by decide) ?_
  refine aw_iadd (pc' := 1383) dL_law_1382 rfl ?_
  refine aw_topi (v := nI (6 * c + 2)) (nIadd _ 2) ?_
  refine aw_sld (v := xs (6 * c + 2)) (pc' := 1384) dL_law_1383 rfl (nI_in (by omega) (by omega)) (by rw [nI_clamp (by omega)]) ?_
  refine aw_callVi (M' := mX11_watch) (nc' := 126 + 4 * c + 0) (ns' := 60000 + 200 * c + 0) (pc' := 1387) dL_law_1384 rfl ml_RL_158 kX11_watch (t_X11_watch H ex) (H.ob (H.fo (q := 0) rfl rfl) (by decide)) rfl rfl rfl (Nat.le_of_ble_eq_true rfl) (rokL (by decide) (Nat.le_of_ble_eq_true rfl) (by omega) (by omega)) rfl rfl (fun _ h1 q1 => ?_)
  obtain ⟨rfl, H1, -⟩ := q1
  refine aw_pop (pc' := 1388) dL_law_1387 rfl rfl ?_
  refine aw_aload_n (pc' := 1389) dL_law_1388 rfl rfl rfl ?_
  refine aw_aload_n (pc' := 1390) dL_law_1389 rfl rfl rfl ?_
  refine aw_iload_n (pc' := 1391) dL_law_1390 rfl rfl ?_
  refine aw_iconst (v := 1) (pc' := 1392) dL_law_1391 rfl (by decide) ?_
  refine aw_iadd (pc' := 1393) dL_law_1392 rfl ?_
  refine aw_topi (v := nI (6 * c + 1)) (nIadd _ 1) ?_
  refine aw_sld (v := xs (6 * c + 1)) (pc' := 1394) dL_law_1393 rfl (nI_in (by omega) (by omega)) (by rw [nI_clamp (by omega)]) ?_
  refine aw_aload_n (pc' := 1395) dL_law_1394 rfl rfl rfl ?_
  refine aw_iload_n (pc' := 1396) dL_law_1395 rfl rfl ?_
  refine aw_iconst (v := 2) (pc' := 1397) dL_law_1396 rfl (by decide) ?_
  refine aw_iadd (pc' := 1398) dL_law_1397 rfl ?_
  refine aw_topi (v := nI (6 * c + 2)) (nIadd _ 2) ?_
  refine aw_sld (v := xs (6 * c + 2)) (pc' := 1399) dL_law_1398 rfl (nI_in (by omega) (by omega)) (by rw [nI_clamp (by omega)]) ?_
  refine aw_callVi (M' := mX12_watch) (nc' := 126 + 4 * c + 0) (ns' := 60000 + 200 * c + 0) (pc' := 1402) dL_law_1399 rfl ml_RL_161 kX12_watch (t_X12_watch H1 em) (H1.ob (H1.fo (q := 59) rfl rfl) (by decide)) rfl rfl rfl (Nat.le_of_ble_eq_true rfl) (rokL (by decide) (Nat.le_of_ble_eq_true rfl) (by omega) (by omega)) rfl rfl (fun _ h2 q2 => ?_)
  obtain ⟨rfl, H2, -⟩ := q2
  refine aw_pop (pc' := 1403) dL_law_1402 rfl rfl ?_
  refine aw_goto (tgt := 2113) dL_law_1403 (by decide) ?_
  refine AW.widen (nc' := 130 + 4 * c) (ns' := 60200 + 200 * c) (by omega) (by omega) ?_
  exact kk _ _ H2 G2
set_option maxRecDepth 4000 in
theorem lc_36 {L : Nat} {xs : Nat → Int32} {c : Nat} (hL : L ≤ 3072) (hc : 6 * c + 6 ≤ L) (kk : Nx L xs c) {s : SS} {h : List aE} (H : HH s h) (G : GW c s) : AW mLaw room_1 (sF L xs lawF) 1406 (lvC c) [] h (126 + 4 * c) (60000 + 200 * c) := by
  obtain ⟨rx, s1, rm, s2, ex, em, G2, eq⟩ := s4_watched G (by omega) (xs (6 * c + 1)) (xs (6 * c + 2))
  refine aw_aload_n (pc' := 1407) dL_law_1406 rfl rfl rfl ?_
  refine aw_aload_n (pc' := 1408) dL_law_1407 rfl rfl rfl ?_
  refine aw_iload_n (pc' := 1409) dL_law_1408 rfl rfl ?_
  refine aw_iconst (v := 1) (pc' := 1410) dL_law_1409 rfl (by decide) ?_
  refine aw_iadd (pc' := 1411) dL_law_1410 rfl ?_
  refine aw_topi (v := nI (6 * c + 1)) (nIadd _ 1) ?_
  refine aw_sld (v := xs (6 * c + 1)) (pc' := 1412) dL_law_1411 rfl (nI_in (by omega) (by omega)) (by rw [nI_clamp (by omega)]) ?_
  refine aw_aload_n (pc' := 1413) dL_law_1412 rfl rfl rfl ?_
  refine aw_iload_n (pc' := 1414) dL_law_1413 rfl rfl ?_
  refine aw_iconst (v := 2) (pc' := 1415) dL_law_1414 rfl (by decide) ?_
  refine aw_iadd (pc' := 1416) dL_law_1415 rfl ?_
  refine aw_topi (v := nI (6 * c + 2)) (nIadd _ 2) ?_
  refine aw_sld (v := xs (6 * c + 2)) (pc' := 1417) dL_law_1416 rfl (nI_in (by omega) (by omega)) (by rw [nI_clamp (by omega)]) ?_
  refine aw_callVi (M' := mX11_watched) (nc' := 126 + 4 * c + 0) (ns' := 60000 + 200 * c + 0) (pc' := 1420) dL_law_1417 rfl ml_RL_162 kX11_watched (t_X11_watched H ex) (H.ob (H.fo (q := 0) rfl rfl) (by decide)) rfl rfl rfl (Nat.le_of_ble_eq_true rfl) (rokL (by decide) (Nat.le_of_ble_eq_true rfl) (by omega) (by omega)) rfl rfl (fun _ h1 q1 => ?_)
  obtain ⟨rfl, rfl⟩ := q1
  refine aw_pop (pc' := 1421) dL_law_1420 rfl rfl ?_
  refine aw_aload_n (pc' := 1422) dL_law_1421 rfl rfl rfl ?_
  refine aw_aload_n (pc' := 1423) dL_law_1422 rfl rfl rfl ?_
  refine aw_iload_n (pc' := 1424) dL_law_1423 rfl rfl ?_
  refine aw_iconst (v := 1) (pc' := 1425) dL_law_1424 rfl (by decide) ?_
  refine aw_iadd (pc' := 1426) dL_law_1425 rfl ?_
  refine aw_topi (v := nI (6 * c + 1)) (nIadd _ 1) ?_
  refine aw_sld (v := xs (6 * c + 1)) (pc' := 1427) dL_law_1426 rfl (nI_in (by omega) (by omega)) (by rw [nI_clamp (by omega)]) ?_
  refine aw_aload_n (pc' := 1428) dL_law_1427 rfl rfl rfl ?_
  refine aw_iload_n (pc' := 1429) dL_law_1428 rfl rfl ?_
  refine aw_iconst (v := 2) (pc' := 1430) dL_law_1429 rfl (by decide) ?_
  refine aw_iadd (pc' := 1431) dL_law_1430 rfl ?_
  refine aw_topi (v := nI (6 * c + 2)) (nIadd _ 2) ?_
  refine aw_sld (v := xs (6 * c + 2)) (pc' := 1432) dL_law_1431 rfl (nI_in (by omega) (by omega)) (by rw [nI_clamp (by omega)]) ?_
  refine aw_callVi (M' := mX12_watched) (nc' := 126 + 4 * c + 0) (ns' := 60000 + 200 * c + 0) (pc' := 1435) dL_law_1432 rfl ml_RL_165 kX12_watched (t_X12_watched H em) (H.ob (H.fo (q := 59) rfl rfl) (by decide)) rfl rfl rfl (Nat.le_of_ble_eq_true rfl) (rokL (by decide) (Nat.le_of_ble_eq_true rfl) (by omega) (by omega)) rfl rfl (fun _ h2 q2 => ?_)
  obtain ⟨rfl, rfl⟩ := q2
  refine aw_pop (pc' := 1436) dL_law_1435 rfl rfl ?_
  refine aw_goto (tgt := 2113) dL_law_1436 (by decide) ?_
  refine AW.widen (nc' := 130 + 4 * c) (ns' := 60200 + 200 * c) (by omega) (by omega) ?_
  exact kk _ _ H G2
set_option maxRecDepth 4000 in
theorem lc_37 {L : Nat} {xs : Nat → Int32} {c : Nat} (hL : L ≤ 3072) (hc : 6 * c + 6 ≤ L) (kk : Nx L xs c) {s : SS} {h : List aE} (H : HH s h) (G : GW c s) : AW mLaw room_1 (sF L xs lawF) 1439 (lvC c) [] h (126 + 4 * c) (60000 + 200 * c) := by
  obtain ⟨rx, s1, rm, s2, ex, em, G2, eq⟩ := s4_aim G (by omega) (xs (6 * c + 1)) (xs (6 * c + 2))
  refine aw_aload_n (pc' := 1440) dL_law_1439 rfl rfl rfl ?_
  refine aw_aload_n (pc' := 1441) dL_law_1440 rfl rfl rfl ?_
  refine aw_iload_n (pc' := 1442) dL_law_1441 rfl rfl ?_
  refine aw_iconst (v := 1) (pc' := 1443) dL_law_1442 rfl (by decide) ?_
  refine aw_iadd (pc' := 1444) dL_law_1443 rfl ?_
  refine aw_topi (v := nI (6 * c + 1)) (nIadd _ 1) ?_
  refine aw_sld (v := xs (6 * c + 1)) (pc' := 1445) dL_law_1444 rfl (nI_in (by omega) (by omega)) (by rw [nI_clamp (by omega)]) ?_
  refine aw_aload_n (pc' := 1446) dL_law_1445 rfl rfl rfl ?_
  refine aw_iload_n (pc' := 1447) dL_law_1446 rfl rfl ?_
  refine aw_iconst (v := 2) (pc' := 1448) dL_law_1447 rfl (by decide) ?_
  refine aw_iadd (pc' := 1449) dL_law_1448 rfl ?_
  refine aw_topi (v := nI (6 * c + 2)) (nIadd _ 2) ?_
  refine aw_sld (v := xs (6 * c + 2)) (pc' := 1450) dL_law_1449 rfl (nI_in (by omega) (by omega)) (by rw [nI_clamp (by omega)]) ?_
  refine aw_callVi (M' := mX11_aim) (nc' := 126 + 4 * c + 0) (ns' := 60000 + 200 * c + 0) (pc' := 1453) dL_law_1450 rfl ml_RL_166 kX11_aim (t_X11_aim H ex) (H.ob (H.fo (q := 0) rfl rfl) (by decide)) rfl rfl rfl (Nat.le_of_ble_eq_true rfl) (rokL (by decide) (Nat.le_of_ble_eq_true rfl) (by omega) (by omega)) rfl rfl (fun _ h1 q1 => ?_)
  obtain ⟨rfl, H1, -⟩ := q1
  refine aw_pop (pc' := 1454) dL_law_1453 rfl rfl ?_
  refine aw_aload_n (pc' := 1455) dL_law_1454 rfl rfl rfl ?_
  refine aw_aload_n (pc' := 1456) dL_law_1455 rfl rfl rfl ?_
  refine aw_iload_n (pc' := 1457) dL_law_1456 rfl rfl ?_
  refine aw_iconst (v := 1) (pc' := 1458) dL_law_1457 rfl (by decide) ?_
  refine aw_iadd (pc' := 1459) dL_law_1458 rfl ?_
  refine aw_topi (v := nI (6 * c + 1)) (nIadd _ 1) ?_
  refine aw_sld (v := xs (6 * c + 1)) (pc' := 1460) dL_law_1459 rfl (nI_in (by omega) (by omega)) (by rw [nI_clamp (by omega)]) ?_
  refine aw_aload_n (pc' := 1461) dL_law_1460 rfl rfl rfl ?_
  refine aw_iload_n (pc' := 1462) dL_law_1461 rfl rfl ?_
  refine aw_iconst (v := 2) (pc' := 1463) dL_law_1462 rfl (by decide) ?_
  refine aw_iadd (pc' := 1464) dL_law_1463 rfl ?_
  refine aw_topi (v := nI (6 * c + 2)) (nIadd _ 2) ?_
  refine aw_sld (v := xs (6 * c + 2)) (pc' := 1465) dL_law_1464 rfl (nI_in (by omega) (by omega)) (by rw [nI_clamp (by omega)]) ?_
  refine aw_callVi (M' := mX12_aim) (nc' := 126 + 4 * c + 0) (ns' := 60000 + 200 * c + 0) (pc' := 1468) dL_law_1465 rfl ml_RL_169 kX12_aim (t_X12_aim H1 em) (H1.ob (H1.fo (q := 59) rfl rfl) (by decide)) rfl rfl rfl (Nat.le_of_ble_eq_true rfl) (rokL (by decide) (Nat.le_of_ble_eq_true rfl) (by omega) (by omega)) rfl rfl (fun _ h2 q2 => ?_)
  obtain ⟨rfl, H2, -⟩ := q2
  refine aw_pop (pc' := 1469) dL_law_1468 rfl rfl ?_
  refine aw_goto (tgt := 2113) dL_law_1469 (by decide) ?_
  refine AW.widen (nc' := 130 + 4 * c) (ns' := 60200 + 200 * c) (by omega) (by omega) ?_
  exact kk _ _ H2 G2
set_option maxRecDepth 4000 in
theorem lc_38 {L : Nat} {xs : Nat → Int32} {c : Nat} (hL : L ≤ 3072) (hc : 6 * c + 6 ≤ L) (kk : Nx L xs c) {s : SS} {h : List aE} (H : HH s h) (G : GW c s) : AW mLaw room_1 (sF L xs lawF) 1472 (lvC c) [] h (126 + 4 * c) (60000 + 200 * c) := by
  obtain ⟨rx, s1, rm, s2, ex, em, G2, eq⟩ := s4_rock G (by omega) (xs (6 * c + 1)) (xs (6 * c + 2)) (xs (6 * c + 3))
  refine aw_aload_n (pc' := 1473) dL_law_1472 rfl rfl rfl ?_
  refine aw_aload_n (pc' := 1474) dL_law_1473 rfl rfl rfl ?_
  refine aw_iload_n (pc' := 1475) dL_law_1474 rfl rfl ?_
  refine aw_iconst (v := 1) (pc' := 1476) dL_law_1475 rfl (by decide) ?_
  refine aw_iadd (pc' := 1477) dL_law_1476 rfl ?_
  refine aw_topi (v := nI (6 * c + 1)) (nIadd _ 1) ?_
  refine aw_sld (v := xs (6 * c + 1)) (pc' := 1478) dL_law_1477 rfl (nI_in (by omega) (by omega)) (by rw [nI_clamp (by omega)]) ?_
  refine aw_aload_n (pc' := 1479) dL_law_1478 rfl rfl rfl ?_
  refine aw_iload_n (pc' := 1480) dL_law_1479 rfl rfl ?_
  refine aw_iconst (v := 2) (pc' := 1481) dL_law_1480 rfl (by decide) ?_
  refine aw_iadd (pc' := 1482) dL_law_1481 rfl ?_
  refine aw_topi (v := nI (6 * c + 2)) (nIadd _ 2) ?_
  refine aw_sld (v := xs (6 * c + 2)) (pc' := 1483) dL_law_1482 rfl (nI_in (by omega) (by omega)) (by rw [nI_clamp (by omega)]) ?_
  refine aw_aload_n (pc' := 1484) dL_law_1483 rfl rfl rfl ?_
  refine aw_iload_n (pc' := 1485) dL_law_1484 rfl rfl ?_
  refine aw_iconst (v := 3) (pc' := 1486) dL_law_1485 rfl (by decide) ?_
  refine aw_iadd (pc' := 1487) dL_law_1486 rfl ?_
  refine aw_topi (v := nI (6 * c + 3)) (nIadd _ 3) ?_
  refine aw_sld (v := xs (6 * c + 3)) (pc' := 1488) dL_law_1487 rfl (nI_in (by omega) (by omega)) (by rw [nI_clamp (by omega)]) ?_
  refine aw_callVi (M' := mX11_rock) (nc' := 126 + 4 * c + 0) (ns' := 60000 + 200 * c + 0) (pc' := 1491) dL_law_1488 rfl ml_RL_170 kX11_rock (t_X11_rock H ex) (H.ob (H.fo (q := 0) rfl rfl) (by decide)) rfl rfl rfl (Nat.le_of_ble_eq_true rfl) (rokL (by decide) (Nat.le_of_ble_eq_true rfl) (by omega) (by omega)) rfl rfl (fun _ h1 q1 => ?_)
  obtain ⟨rfl, H1, -⟩ := q1
  refine aw_pop (pc' := 1492) dL_law_1491 rfl rfl ?_
  refine aw_aload_n (pc' := 1493) dL_law_1492 rfl rfl rfl ?_
  refine aw_aload_n (pc' := 1494) dL_law_1493 rfl rfl rfl ?_
  refine aw_iload_n (pc' := 1495) dL_law_1494 rfl rfl ?_
  refine aw_iconst (v := 1) (pc' := 1496) dL_law_1495 rfl (by decide) ?_
  refine aw_iadd (pc' := 1497) dL_law_1496 rfl ?_
  refine aw_topi (v := nI (6 * c + 1)) (nIadd _ 1) ?_
  refine aw_sld (v := xs (6 * c + 1)) (pc' := 1498) dL_law_1497 rfl (nI_in (by omega) (by omega)) (by rw [nI_clamp (by omega)]) ?_
  refine aw_aload_n (pc' := 1499) dL_law_1498 rfl rfl rfl ?_
  refine aw_iload_n (pc' := 1500) dL_law_1499 rfl rfl ?_
  refine aw_iconst (v := 2) (pc' := 1501) dL_law_1500 rfl (by decide) ?_
  refine aw_iadd (pc' := 1502) dL_law_1501 rfl ?_
  refine aw_topi (v := nI (6 * c + 2)) (nIadd _ 2) ?_
  refine aw_sld (v := xs (6 * c + 2)) (pc' := 1503) dL_law_1502 rfl (nI_in (by omega) (by omega)) (by rw [nI_clamp (by omega)]) ?_
  refine aw_aload_n (pc' := 1504) dL_law_1503 rfl rfl rfl ?_
  refine aw_iload_n (pc' := 1505) dL_law_1504 rfl rfl ?_
  refine aw_iconst (v := 3) (pc' := 1506) dL_law_1505 rfl (by decide) ?_
  refine aw_iadd (pc' := 1507) dL_law_1506 rfl ?_
  refine aw_topi (v := nI (6 * c + 3)) (nIadd _ 3) ?_
  refine aw_sld (v := xs (6 * c + 3)) (pc' := 1508) dL_law_1507 rfl (nI_in (by omega) (by omega)) (by rw [nI_clamp (by omega)]) ?_
  refine aw_callVi (M' := mX12_rock) (nc' := 126 + 4 * c + 0) (ns' := 60000 + 200 * c + 0) (pc' := 1511) dL_law_1508 rfl ml_RL_173 kX12_rock (t_X12_rock H1 em) (H1.ob (H1.fo (q := 59) rfl rfl) (by decide)) rfl rfl rfl (Nat.le_of_ble_eq_true rfl) (rokL (by decide) (Nat.le_of_ble_eq_true rfl) (by omega) (by omega)) rfl rfl (fun _ h2 q2 => ?_)
  obtain ⟨rfl, H2, -⟩ := q2
  refine aw_pop (pc' := 1512) dL_law_1511 rfl rfl ?_
  refine aw_goto (tgt := 2113) dL_law_1512 (by decide) ?_
  refine AW.widen (nc' := 130 + 4 * c) (ns' := 60200 + 200 * c) (by omega) (by omega) ?_
  exact kk _ _ H2 G2
set_option maxRecDepth 4000 in
theorem lc_39 {L : Nat} {xs : Nat → Int32} {c : Nat} (hL : L ≤ 3072) (hc : 6 * c + 6 ≤ L) (kk : Nx L xs c) {s : SS} {h : List aE} (H : HH s h) (G : GW c s) : AW mLaw room_1 (sF L xs lawF) 1515 (lvC c) [] h (126 + 4 * c) (60000 + 200 * c) := by
  obtain ⟨rx, s1, rm, s2, ex, em, G2, eq⟩ := s4_aimed G (by omega) (xs (6 * c + 1)) (xs (6 * c + 2)) (xs (6 * c + 3))
  refine aw_aload_n (pc' := 1516) dL_law_1515 rfl rfl rfl ?_
  refine aw_aload_n (pc' := 1517) dL_law_1516 rfl rfl rfl ?_
  refine aw_iload_n (pc' := 1518) dL_law_1517 rfl rfl ?_
  refine aw_iconst (v := 1) (pc' := 1519) dL_law_1518 rfl (by decide) ?_
  refine aw_iadd (pc' := 1520) dL_law_1519 rfl ?_
  refine aw_topi (v := nI (6 * c + 1)) (nIadd _ 1) ?_
  refine aw_sld (v := xs (6 * c + 1)) (pc' := 1521) dL_law_1520 rfl (nI_in (by omega) (by omega)) (by rw [nI_clamp (by omega)]) ?_
  refine aw_aload_n (pc' := 1522) dL_law_1521 rfl rfl rfl ?_
  refine aw_iload_n (pc' := 1523) dL_law_1522 rfl rfl ?_
  refine aw_iconst (v := 2) (pc' := 1524) dL_law_1523 rfl (by decide) ?_
  refine aw_iadd (pc' := 1525) dL_law_1524 rfl ?_
  refine aw_topi (v := nI (6 * c + 2)) (nIadd _ 2) ?_
  refine aw_sld (v := xs (6 * c + 2)) (pc' := 1526) dL_law_1525 rfl (nI_in (by omega) (by omega)) (by rw [nI_clamp (by omega)]) ?_
  refine aw_aload_n (pc' := 1527) dL_law_1526 rfl rfl rfl ?_
  refine aw_iload_n (pc' := 1528) dL_law_1527 rfl rfl ?_
  refine aw_iconst (v := 3) (pc' := 1529) dL_law_1528 rfl (by decide) ?_
  refine aw_iadd (pc' := 1530) dL_law_1529 rfl ?_
  refine aw_topi (v := nI (6 * c + 3)) (nIadd _ 3) ?_
  refine aw_sld (v := xs (6 * c + 3)) (pc' := 1531) dL_law_1530 rfl (nI_in (by omega) (by omega)) (by rw [nI_clamp (by omega)]) ?_
  refine aw_callVi (M' := mX11_aimed) (nc' := 126 + 4 * c + 0) (ns' := 60000 + 200 * c + 0) (pc' := 1534) dL_law_1531 rfl ml_RL_174 kX11_aimed (t_X11_aimed H ex) (H.ob (H.fo (q := 0) rfl rfl) (by decide)) rfl rfl rfl (Nat.le_of_ble_eq_true rfl) (rokL (by decide) (Nat.le_of_ble_eq_true rfl) (by omega) (by omega)) rfl rfl (fun _ h1 q1 => ?_)
  obtain ⟨rfl, H1, -⟩ := q1
  refine aw_pop (pc' := 1535) dL_law_1534 rfl rfl ?_
  refine aw_aload_n (pc' := 1536) dL_law_1535 rfl rfl rfl ?_
  refine aw_aload_n (pc' := 1537) dL_law_1536 rfl rfl rfl ?_
  refine aw_iload_n (pc' := 1538) dL_law_1537 rfl rfl ?_
  refine aw_iconst (v := 1) (pc' := 1539) dL_law_1538 rfl (by decide) ?_
  refine aw_iadd (pc' := 1540) dL_law_1539 rfl ?_
  refine aw_topi (v := nI (6 * c + 1)) (nIadd _ 1) ?_
  refine aw_sld (v := xs (6 * c + 1)) (pc' := 1541) dL_law_1540 rfl (nI_in (by omega) (by omega)) (by rw [nI_clamp (by omega)]) ?_
  refine aw_aload_n (pc' := 1542) dL_law_1541 rfl rfl rfl ?_
  refine aw_iload_n (pc' := 1543) dL_law_1542 rfl rfl ?_
  refine aw_iconst (v := 2) (pc' := 1544) dL_law_1543 rfl (by decide) ?_
  refine aw_iadd (pc' := 1545) dL_law_1544 rfl ?_
  refine aw_topi (v := nI (6 * c + 2)) (nIadd _ 2) ?_
  refine aw_sld (v := xs (6 * c + 2)) (pc' := 1546) dL_law_1545 rfl (nI_in (by omega) (by omega)) (by rw [nI_clamp (by omega)]) ?_
  refine aw_aload_n (pc' := 1547) dL_law_1546 rfl rfl rfl ?_
  refine aw_iload_n (pc' := 1548) dL_law_1547 rfl rfl ?_
  refine aw_iconst (v := 3) (pc' := 1549) dL_law_1548 rfl (by decide) ?_
  refine aw_iadd (pc' := 1550) dL_law_1549 rfl ?_
  refine aw_topi (v := nI (6 * c + 3)) (nIadd _ 3) ?_
  refine aw_sld (v := xs (6 * c + 3)) (pc' := 1551) dL_law_1550 rfl (nI_in (by omega) (by omega)) (by rw [nI_clamp (by omega)]) ?_
  refine aw_callVi (M' := mX12_aimed) (nc' := 126 + 4 * c + 0) (ns' := 60000 + 200 * c + 0) (pc' := 1554) dL_law_1551 rfl ml_RL_177 kX12_aimed (t_X12_aimed H1 em) (H1.ob (H1.fo (q := 59) rfl rfl) (by decide)) rfl rfl rfl (Nat.le_of_ble_eq_true rfl) (rokL (by decide) (Nat.le_of_ble_eq_true rfl) (by omega) (by omega)) rfl rfl (fun _ h2 q2 => ?_)
  obtain ⟨rfl, H2, -⟩ := q2
  refine aw_pop (pc' := 1555) dL_law_1554 rfl rfl ?_
  refine aw_goto (tgt := 2113) dL_law_1555 (by decide) ?_
  refine AW.widen (nc' := 130 + 4 * c) (ns' := 60200 + 200 * c) (by omega) (by omega) ?_
  exact kk _ _ H2 G2
set_option maxRecDepth 4000 in
theorem lc_40 {L : Nat} {xs : Nat → Int32} {c : Nat} (hL : L ≤ 3072) (hc : 6 * c + 6 ≤ L) (kk : Nx L xs c) {s : SS} {h : List aE} (H : HH s h) (G : GW c s) : AW mLaw room_1 (sF L xs lawF) 1558 (lvC c) [] h (126 + 4 * c) (60000 + 200 * c) := by
  obtain ⟨rx, s1, rm, s2, ex, em, G2, eq⟩ := s4_aimedAt G (by omega) (xs (6 * c + 1)) (xs (6 * c + 2))
  refine aw_aload_n (pc' := 1559) dL_law_1558 rfl rfl rfl ?_
  refine aw_aload_n (pc' := 1560) dL_law_1559 rfl rfl rfl ?_
  refine aw_iload_n (pc' := 1561) dL_law_1560 rfl rfl ?_
  refine aw_iconst (v := 1) (pc' := 1562) dL_law_1561 rfl (by decide) ?_
  refine aw_iadd (pc' := 1563) dL_law_1562 rfl ?_
  refine aw_topi (v := nI (6 * c + 1)) (nIadd _ 1) ?_
  refine aw_sld (v := xs (6 * c + 1)) (pc' := 1564) dL_law_1563 rfl (nI_in (by omega) (by omega)) (by rw [nI_clamp (by omega)]) ?_
  refine aw_aload_n (pc' := 1565) dL_law_1564 rfl rfl rfl ?_
  refine aw_iload_n (pc' := 1566) dL_law_1565 rfl rfl ?_
  refine aw_iconst (v := 2) (pc' := 1567) dL_law_1566 rfl (by decide) ?_
  refine aw_iadd (pc' := 1568) dL_law_1567 rfl ?_
  refine aw_topi (v := nI (6 * c + 2)) (nIadd _ 2) ?_
  refine aw_sld (v := xs (6 * c + 2)) (pc' := 1569) dL_law_1568 rfl (nI_in (by omega) (by omega)) (by rw [nI_clamp (by omega)]) ?_
  refine aw_callVi (M' := mX11_aimedAt) (nc' := 126 + 4 * c + 0) (ns' := 60000 + 200 * c + 0) (pc' := 1572) dL_law_1569 rfl ml_RL_178 kX11_aimedAt (t_X11_aimedAt H ex) (H.ob (H.fo (q := 0) rfl rfl) (by decide)) rfl rfl rfl (Nat.le_of_ble_eq_true rfl) (rokL (by decide) (Nat.le_of_ble_eq_true rfl) (by omega) (by omega)) rfl rfl (fun _ h1 q1 => ?_)
  obtain ⟨rfl, rfl⟩ := q1
  refine aw_pop (pc' := 1573) dL_law_1572 rfl rfl ?_
  refine aw_aload_n (pc' := 1574) dL_law_1573 rfl rfl rfl ?_
  refine aw_aload_n (pc' := 1575) dL_law_1574 rfl rfl rfl ?_
  refine aw_iload_n (pc' := 1576) dL_law_1575 rfl rfl ?_
  refine aw_iconst (v := 1) (pc' := 1577) dL_law_1576 rfl (by decide) ?_
  refine aw_iadd (pc' := 1578) dL_law_1577 rfl ?_
  refine aw_topi (v := nI (6 * c + 1)) (nIadd _ 1) ?_
  refine aw_sld (v := xs (6 * c + 1)) (pc' := 1579) dL_law_1578 rfl (nI_in (by omega) (by omega)) (by rw [nI_clamp (by omega)]) ?_
  refine aw_aload_n (pc' := 1580) dL_law_1579 rfl rfl rfl ?_
  refine aw_iload_n (pc' := 1581) dL_law_1580 rfl rfl ?_
  refine aw_iconst (v := 2) (pc' := 1582) dL_law_1581 rfl (by decide) ?_
  refine aw_iadd (pc' := 1583) dL_law_1582 rfl ?_
  refine aw_topi (v := nI (6 * c + 2)) (nIadd _ 2) ?_
  refine aw_sld (v := xs (6 * c + 2)) (pc' := 1584) dL_law_1583 rfl (nI_in (by omega) (by omega)) (by rw [nI_clamp (by omega)]) ?_
  refine aw_callVi (M' := mX12_aimedAt) (nc' := 126 + 4 * c + 0) (ns' := 60000 + 200 * c + 0) (pc' := 1587) dL_law_1584 rfl ml_RL_181 kX12_aimedAt (t_X12_aimedAt H em) (H.ob (H.fo (q := 59) rfl rfl) (by decide)) rfl rfl rfl (Nat.le_of_ble_eq_true rfl) (rokL (by decide) (Nat.le_of_ble_eq_true rfl) (by omega) (by omega)) rfl rfl (fun _ h2 q2 => ?_)
  obtain ⟨rfl, rfl⟩ := q2
  refine aw_pop (pc' := 1588) dL_law_1587 rfl rfl ?_
  refine aw_goto (tgt := 2113) dL_law_1588 (by decide) ?_
  refine AW.widen (nc' := 130 + 4 * c) (ns' := 60200 + 200 * c) (by omega) (by omega) ?_
  exact kk _ _ H G2
set_option maxRecDepth 4000 in
theorem lc_41 {L : Nat} {xs : Nat → Int32} {c : Nat} (hL : L ≤ 3072) (hc : 6 * c + 6 ≤ L) (kk : Nx L xs c) {s : SS} {h : List aE} (H : HH s h) (G : GW c s) : AW mLaw room_1 (sF L xs lawF) 1591 (lvC c) [] h (126 + 4 * c) (60000 + 200 * c) := by
  obtain ⟨rx, s1, rm, s2, ex, em, G2, eq⟩ := s4_race G (by omega) (xs (6 * c + 1)) (xs (6 * c + 2)) (xs (6 * c + 3))
  refine aw_aload_n (pc' := 1592) dL_law_1591 rfl rfl rfl ?_
  refine aw_aload_n (pc' := 1593) dL_law_1592 rfl rfl rfl ?_
  refine aw_iload_n (pc' := 1594) dL_law_1593 rfl rfl ?_
  refine aw_iconst (v := 1) (pc' := 1595) dL_law_1594 rfl (by decide) ?_
  refine aw_iadd (pc' := 1596) dL_law_1595 rfl ?_
  refine aw_topi (v := nI (6 * c + 1)) (nIadd _ 1) ?_
  refine aw_sld (v := xs (6 * c + 1)) (pc' := 1597) dL_law_1596 rfl (nI_in (by omega) (by omega)) (by rw [nI_clamp (by omega)]) ?_
  refine aw_aload_n (pc' := 1598) dL_law_1597 rfl rfl rfl ?_
  refine aw_iload_n (pc' := 1599) dL_law_1598 rfl rfl ?_
  refine aw_iconst (v := 2) (pc' := 1600) dL_law_1599 rfl (by decide) ?_
  refine aw_iadd (pc' := 1601) dL_law_1600 rfl ?_
  refine aw_topi (v := nI (6 * c + 2)) (nIadd _ 2) ?_
  refine aw_sld (v := xs (6 * c + 2)) (pc' := 1602) dL_law_1601 rfl (nI_in (by omega) (by omega)) (by rw [nI_clamp (by omega)]) ?_
  refine aw_aload_n (pc' := 1603) dL_law_1602 rfl rfl rfl ?_
  refine aw_iload_n (pc' := 1604) dL_law_1603 rfl rfl ?_
  refine aw_iconst (v := 3) (pc' := 1605) dL_law_1604 rfl (by decide) ?_
  refine aw_iadd (pc' := 1606) dL_law_1605 rfl ?_
  refine aw_topi (v := nI (6 * c + 3)) (nIadd _ 3) ?_
  refine aw_sld (v := xs (6 * c + 3)) (pc' := 1607) dL_law_1606 rfl (nI_in (by omega) (by omega)) (by rw [nI_clamp (by omega)]) ?_
  refine aw_callVi (M' := mX11_race) (nc' := 126 + 4 * c + 0) (ns' := 60000 + 200 * c + 0) (pc' := 1610) dL_law_1607 rfl ml_RL_182 kX11_race (t_X11_race H ex) (H.ob (H.fo (q := 0) rfl rfl) (by decide)) rfl rfl rfl (Nat.le_of_ble_eq_true rfl) (rokL (by decide) (Nat.le_of_ble_eq_true rfl) (by omega) (by omega)) rfl rfl (fun _ h1 q1 => ?_)
  obtain ⟨rfl, rfl⟩ := q1
  refine aw_pop (pc' := 1611) dL_law_1610 rfl rfl ?_
  refine aw_aload_n (pc' := 1612) dL_law_1611 rfl rfl rfl ?_
  refine aw_aload_n (pc' := 1613) dL_law_1612 rfl rfl rfl ?_
  refine aw_iload_n (pc' := 1614) dL_law_1613 rfl rfl ?_
  refine aw_iconst (v := 1) (pc' := 1615) dL_law_1614 rfl (by decide) ?_
  refine aw_iadd (pc' := 1616) dL_law_1615 rfl ?_
  refine aw_topi (v := nI (6 * c + 1)) (nIadd _ 1) ?_
  refine aw_sld (v := xs (6 * c + 1)) (pc' := 1617) dL_law_1616 rfl (nI_in (by omega) (by omega)) (by rw [nI_clamp (by omega)]) ?_
  refine aw_aload_n (pc' := 1618) dL_law_1617 rfl rfl rfl ?_
  refine aw_iload_n (pc' := 1619) dL_law_1618 rfl rfl ?_
  refine aw_iconst (v := 2) (pc' := 1620) dL_law_1619 rfl (by decide) ?_
  refine aw_iadd (pc' := 1621) dL_law_1620 rfl ?_
  refine aw_topi (v := nI (6 * c + 2)) (nIadd _ 2) ?_
  refine aw_sld (v := xs (6 * c + 2)) (pc' := 1622) dL_law_1621 rfl (nI_in (by omega) (by omega)) (by rw [nI_clamp (by omega)]) ?_
  refine aw_aload_n (pc' := 1623) dL_law_1622 rfl rfl rfl ?_
  refine aw_iload_n (pc' := 1624) dL_law_1623 rfl rfl ?_
  refine aw_iconst (v := 3) (pc' := 1625) dL_law_1624 rfl (by decide) ?_
  refine aw_iadd (pc' := 1626) dL_law_1625 rfl ?_
  refine aw_topi (v := nI (6 * c + 3)) (nIadd _ 3) ?_
  refine aw_sld (v := xs (6 * c + 3)) (pc' := 1627) dL_law_1626 rfl (nI_in (by omega) (by omega)) (by rw [nI_clamp (by omega)]) ?_
  refine aw_callVi (M' := mX12_race) (nc' := 126 + 4 * c + 0) (ns' := 60000 + 200 * c + 0) (pc' := 1630) dL_law_1627 rfl ml_RL_185 kX12_race (t_X12_race H em) (H.ob (H.fo (q := 59) rfl rfl) (by decide)) rfl rfl rfl (Nat.le_of_ble_eq_true rfl) (rokL (by decide) (Nat.le_of_ble_eq_true rfl) (by omega) (by omega)) rfl rfl (fun _ h2 q2 => ?_)
  obtain ⟨rfl, rfl⟩ := q2
  refine aw_pop (pc' := 1631) dL_law_1630 rfl rfl ?_
  refine aw_goto (tgt := 2113) dL_law_1631 (by decide) ?_
  refine AW.widen (nc' := 130 + 4 * c) (ns' := 60200 + 200 * c) (by omega) (by omega) ?_
  exact kk _ _ H G2
set_option maxRecDepth 4000 in
theorem lc_42 {L : Nat} {xs : Nat → Int32} {c : Nat} (hL : L ≤ 3072) (hc : 6 * c + 6 ≤ L) (kk : Nx L xs c) {s : SS} {h : List aE} (H : HH s h) (G : GW c s) : AW mLaw room_1 (sF L xs lawF) 1634 (lvC c) [] h (126 + 4 * c) (60000 + 200 * c) := by
  obtain ⟨rx, s1, rm, s2, ex, em, G2, eq⟩ := s4_capsule G (by omega) (xs (6 * c + 1))
  refine aw_aload_n (pc' := 1635) dL_law_1634 rfl rfl rfl ?_
  refine aw_aload_n (pc' := 1636) dL_law_1635 rfl rfl rfl ?_
  refine aw_iload_n (pc' := 1637) dL_law_1636 rfl rfl ?_
  refine aw_iconst (v := 1) (pc' := 1638) dL_law_1637 rfl (by decide) ?_
  refine aw_iadd (pc' := 1639) dL_law_1638 rfl ?_
  refine aw_topi (v := nI (6 * c + 1)) (nIadd _ 1) ?_
  refine aw_sld (v := xs (6 * c + 1)) (pc' := 1640) dL_law_1639 rfl (nI_in (by omega) (by omega)) (by rw [nI_clamp (by omega)]) ?_
  refine aw_callVi (M' := mX11_capsule) (nc' := 126 + 4 * c + 0) (ns' := 60000 + 200 * c + 0) (pc' := 1643) dL_law_1640 rfl ml_RL_186 kX11_capsule (t_X11_capsule H ex) (H.ob (H.fo (q := 0) rfl rfl) (by decide)) rfl rfl rfl (Nat.le_of_ble_eq_true rfl) (rokL (by decide) (Nat.le_of_ble_eq_true rfl) (by omega) (by omega)) rfl rfl (fun _ h1 q1 => ?_)
  obtain ⟨rfl, H1, -⟩ := q1
  refine aw_pop (pc' := 1644) dL_law_1643 rfl rfl ?_
  refine aw_aload_n (pc' := 1645) dL_law_1644 rfl rfl rfl ?_
  refine aw_aload_n (pc' := 1646) dL_law_1645 rfl rfl rfl ?_
  refine aw_iload_n (pc' := 1647) dL_law_1646 rfl rfl ?_
  refine aw_iconst (v := 1) (pc' := 1648) dL_law_1647 rfl (by decide) ?_
  refine aw_iadd (pc' := 1649) dL_law_1648 rfl ?_
  refine aw_topi (v := nI (6 * c + 1)) (nIadd _ 1) ?_
  refine aw_sld (v := xs (6 * c + 1)) (pc' := 1650) dL_law_1649 rfl (nI_in (by omega) (by omega)) (by rw [nI_clamp (by omega)]) ?_
  refine aw_callVi (M' := mX12_capsule) (nc' := 126 + 4 * c + 0) (ns' := 60000 + 200 * c + 0) (pc' := 1653) dL_law_1650 rfl ml_RL_189 kX12_capsule (t_X12_capsule H1 em) (H1.ob (H1.fo (q := 59) rfl rfl) (by decide)) rfl rfl rfl (Nat.le_of_ble_eq_true rfl) (rokL (by decide) (Nat.le_of_ble_eq_true rfl) (by omega) (by omega)) rfl rfl (fun _ h2 q2 => ?_)
  obtain ⟨rfl, H2, -⟩ := q2
  refine aw_pop (pc' := 1654) dL_law_1653 rfl rfl ?_
  refine aw_goto (tgt := 2113) dL_law_1654 (by decide) ?_
  refine AW.widen (nc' := 130 + 4 * c) (ns' := 60200 + 200 * c) (by omega) (by omega) ?_
  exact kk _ _ H2 G2
set_option maxRecDepth 4000 in
theorem lc_43 {L : Nat} {xs : Nat → Int32} {c : Nat} (hL : L ≤ 3072) (hc : 6 * c + 6 ≤ L) (kk : Nx L xs c) {s : SS} {h : List aE} (H : HH s h) (G : GW c s) : AW mLaw room_1 (sF L xs lawF) 1657 (lvC c) [] h (126 + 4 * c) (60000 + 200 * c) := by
  obtain ⟨rx, s1, rm, s2, ex, em, G2, eq⟩ := s4_up G (by omega) (xs (6 * c + 1)) (xs (6 * c + 2))
  refine aw_aload_n (pc' := 1658) dL_law_1657 rfl rfl rfl ?_
  refine aw_aload_n (pc' := 1659) dL_law_1658 rfl rfl rfl ?_
  refine aw_iload_n (pc' := 1660) dL_law_1659 rfl rfl ?_
  refine aw_iconst (v := 1) (pc' := 1661) dL_law_1660 rfl (by decide) ?_
  refine aw_iadd (pc' := 1662) dL_law_1661 rfl ?_
  refine aw_topi (v := nI (6 * c + 1)) (nIadd _ 1) ?_
  refine aw_sld (v := xs (6 * c + 1)) (pc' := 1663) dL_law_1662 rfl (nI_in (by omega) (by omega)) (by rw [nI_clamp (by omega)]) ?_
  refine aw_aload_n (pc' := 1664) dL_law_1663 rfl rfl rfl ?_
  refine aw_iload_n (pc' := 1665) dL_law_1664 rfl rfl ?_
  refine aw_iconst (v := 2) (pc' := 1666) dL_law_1665 rfl (by decide) ?_
  refine aw_iadd (pc' := 1667) dL_law_1666 rfl ?_
  refine aw_topi (v := nI (6 * c + 2)) (nIadd _ 2) ?_
  refine aw_sld (v := xs (6 * c + 2)) (pc' := 1668) dL_law_1667 rfl (nI_in (by omega) (by omega)) (by rw [nI_clamp (by omega)]) ?_
  refine aw_callVi (M' := mX11_up) (nc' := 126 + 4 * c + 0) (ns' := 60000 + 200 * c + 0) (pc' := 1671) dL_law_1668 rfl ml_RL_190 kX11_up (t_X11_up H ex) (H.ob (H.fo (q := 0) rfl rfl) (by decide)) rfl rfl rfl (Nat.le_of_ble_eq_true rfl) (rokL (by decide) (Nat.le_of_ble_eq_true rfl) (by omega) (by omega)) rfl rfl (fun _ h1 q1 => ?_)
  obtain ⟨rfl, rfl⟩ := q1
  refine aw_pop (pc' := 1672) dL_law_1671 rfl rfl ?_
  refine aw_aload_n (pc' := 1673) dL_law_1672 rfl rfl rfl ?_
  refine aw_aload_n (pc' := 1674) dL_law_1673 rfl rfl rfl ?_
  refine aw_iload_n (pc' := 1675) dL_law_1674 rfl rfl ?_
  refine aw_iconst (v := 1) (pc' := 1676) dL_law_1675 rfl (by decide) ?_
  refine aw_iadd (pc' := 1677) dL_law_1676 rfl ?_
  refine aw_topi (v := nI (6 * c + 1)) (nIadd _ 1) ?_
  refine aw_sld (v := xs (6 * c + 1)) (pc' := 1678) dL_law_1677 rfl (nI_in (by omega) (by omega)) (by rw [nI_clamp (by omega)]) ?_
  refine aw_aload_n (pc' := 1679) dL_law_1678 rfl rfl rfl ?_
  refine aw_iload_n (pc' := 1680) dL_law_1679 rfl rfl ?_
  refine aw_iconst (v := 2) (pc' := 1681) dL_law_1680 rfl (by decide) ?_
  refine aw_iadd (pc' := 1682) dL_law_1681 rfl ?_
  refine aw_topi (v := nI (6 * c + 2)) (nIadd _ 2) ?_
  refine aw_sld (v := xs (6 * c + 2)) (pc' := 1683) dL_law_1682 rfl (nI_in (by omega) (by omega)) (by rw [nI_clamp (by omega)]) ?_
  refine aw_callVi (M' := mX12_up) (nc' := 126 + 4 * c + 0) (ns' := 60000 + 200 * c + 0) (pc' := 1686) dL_law_1683 rfl ml_RL_193 kX12_up (t_X12_up H em) (H.ob (H.fo (q := 59) rfl rfl) (by decide)) rfl rfl rfl (Nat.le_of_ble_eq_true rfl) (rokL (by decide) (Nat.le_of_ble_eq_true rfl) (by omega) (by omega)) rfl rfl (fun _ h2 q2 => ?_)
  obtain ⟨rfl, rfl⟩ := q2
  refine aw_pop (pc' := 1687) dL_law_1686 rfl rfl ?_
  refine aw_goto (tgt := 2113) dL_law_1687 (by decide) ?_
  refine AW.widen (nc' := 130 + 4 * c) (ns' := 60200 + 200 * c) (by omega) (by omega) ?_
  exact kk _ _ H G2
set_option maxRecDepth 4000 in
theorem lc_44 {L : Nat} {xs : Nat → Int32} {c : Nat} (hL : L ≤ 3072) (hc : 6 * c + 6 ≤ L) (kk : Nx L xs c) {s : SS} {h : List aE} (H : HH s h) (G : GW c s) : AW mLaw room_1 (sF L xs lawF) 1690 (lvC c) [] h (126 + 4 * c) (60000 + 200 * c) := by
  obtain ⟨rx, s1, rm, s2, ex, em, G2, eq⟩ := s4_raise G (by omega) (xs (6 * c + 1))
  refine aw_aload_n (pc' := 1691) dL_law_1690 rfl rfl rfl ?_
  refine aw_aload_n (pc' := 1692) dL_law_1691 rfl rfl rfl ?_
  refine aw_iload_n (pc' := 1693) dL_law_1692 rfl rfl ?_
  refine aw_iconst (v := 1) (pc' := 1694) dL_law_1693 rfl (by decide) ?_
  refine aw_iadd (pc' := 1695) dL_law_1694 rfl ?_
  refine aw_topi (v := nI (6 * c + 1)) (nIadd _ 1) ?_
  refine aw_sld (v := xs (6 * c + 1)) (pc' := 1696) dL_law_1695 rfl (nI_in (by omega) (by omega)) (by rw [nI_clamp (by omega)]) ?_
  refine aw_callVi (M' := mX11_raise) (nc' := 126 + 4 * c + 0) (ns' := 60000 + 200 * c + 0) (pc' := 1699) dL_law_1696 rfl ml_RL_194 kX11_raise (t_X11_raise H ex) (H.ob (H.fo (q := 0) rfl rfl) (by decide)) rfl rfl rfl (Nat.le_of_ble_eq_true rfl) (rokL (by decide) (Nat.le_of_ble_eq_true rfl) (by omega) (by omega)) rfl rfl (fun _ h1 q1 => ?_)
  obtain ⟨rfl, H1, -⟩ := q1
  refine aw_pop (pc' := 1700) dL_law_1699 rfl rfl ?_
  refine aw_aload_n (pc' := 1701) dL_law_1700 rfl rfl rfl ?_
  refine aw_aload_n (pc' := 1702) dL_law_1701 rfl rfl rfl ?_
  refine aw_iload_n (pc' := 1703) dL_law_1702 rfl rfl ?_
  refine aw_iconst (v := 1) (pc' := 1704) dL_law_1703 rfl (by decide) ?_
  refine aw_iadd (pc' := 1705) dL_law_1704 rfl ?_
  refine aw_topi (v := nI (6 * c + 1)) (nIadd _ 1) ?_
  refine aw_sld (v := xs (6 * c + 1)) (pc' := 1706) dL_law_1705 rfl (nI_in (by omega) (by omega)) (by rw [nI_clamp (by omega)]) ?_
  refine aw_callVi (M' := mX12_raise) (nc' := 126 + 4 * c + 0) (ns' := 60000 + 200 * c + 0) (pc' := 1709) dL_law_1706 rfl ml_RL_197 kX12_raise (t_X12_raise H1 em) (H1.ob (H1.fo (q := 59) rfl rfl) (by decide)) rfl rfl rfl (Nat.le_of_ble_eq_true rfl) (rokL (by decide) (Nat.le_of_ble_eq_true rfl) (by omega) (by omega)) rfl rfl (fun _ h2 q2 => ?_)
  obtain ⟨rfl, H2, -⟩ := q2
  refine aw_pop (pc' := 1710) dL_law_1709 rfl rfl ?_
  refine aw_goto (tgt := 2113) dL_law_1710 (by decide) ?_
  refine AW.widen (nc' := 130 + 4 * c) (ns' := 60200 + 200 * c) (by omega) (by omega) ?_
  exact kk _ _ H2 G2
set_option maxRecDepth 4000 in
theorem lc_45 {L : Nat} {xs : Nat → Int32} {c : Nat} (hL : L ≤ 3072) (hc : 6 * c + 6 ≤ L) (kk : Nx L xs c) {s : SS} {h : List aE} (H : HH s h) (G : GW c s) : AW mLaw room_1 (sF L xs lawF) 1713 (lvC c) [] h (126 + 4 * c) (60000 + 200 * c) := by
  obtain ⟨rx, s1, rm, s2, ex, em, G2, eq⟩ := s4_act G (by omega) (xs (6 * c + 1)) (xs (6 * c + 2)) (xs (6 * c + 3))
  refine aw_aload_n (pc' := 1714) dL_law_1713 rfl rfl rfl ?_
  refine aw_aload_n (pc' := 1715) dL_law_1714 rfl rfl rfl ?_
  refine aw_iload_n (pc' := 1716) dL_law_1715 rfl rfl ?_
  refine aw_iconst (v := 1) (pc' := 1717) dL_law_1716 rfl (by decide) ?_
  refine aw_iadd (pc' := 1718) dL_law_1717 rfl ?_
  refine aw_topi (v := nI (6 * c + 1)) (nIadd _ 1) ?_
  refine aw_sld (v := xs (6 * c + 1)) (pc' := 1719) dL_law_1718 rfl (nI_in (by omega) (by omega)) (by rw [nI_clamp (by omega)]) ?_
  refine aw_aload_n (pc' := 1720) dL_law_1719 rfl rfl rfl ?_
  refine aw_iload_n (pc' := 1721) dL_law_1720 rfl rfl ?_
  refine aw_iconst (v := 2) (pc' := 1722) dL_law_1721 rfl (by decide) ?_
  refine aw_iadd (pc' := 1723) dL_law_1722 rfl ?_
  refine aw_topi (v := nI (6 * c + 2)) (nIadd _ 2) ?_
  refine aw_sld (v := xs (6 * c + 2)) (pc' := 1724) dL_law_1723 rfl (nI_in (by omega) (by omega)) (by rw [nI_clamp (by omega)]) ?_
  refine aw_aload_n (pc' := 1725) dL_law_1724 rfl rfl rfl ?_
  refine aw_iload_n (pc' := 1726) dL_law_1725 rfl rfl ?_
  refine aw_iconst (v := 3) (pc' := 1727) dL_law_1726 rfl (by decide) ?_
  refine aw_iadd (pc' := 1728) dL_law_1727 rfl ?_
  refine aw_topi (v := nI (6 * c + 3)) (nIadd _ 3) ?_
  refine aw_sld (v := xs (6 * c + 3)) (pc' := 1729) dL_law_1728 rfl (nI_in (by omega) (by omega)) (by rw [nI_clamp (by omega)]) ?_
  refine aw_callVi (M' := mX11_act) (nc' := 126 + 4 * c + 0) (ns' := 60000 + 200 * c + 0) (pc' := 1732) dL_law_1729 rfl ml_RL_198 kX11_act (t_X11_act H ex) (H.ob (H.fo (q := 0) rfl rfl) (by decide)) rfl rfl rfl (Nat.le_of_ble_eq_true rfl) (rokL (by decide) (Nat.le_of_ble_eq_true rfl) (by omega) (by omega)) rfl rfl (fun _ h1 q1 => ?_)
  obtain ⟨rfl, H1, -⟩ := q1
  refine aw_pop (pc' := 1733) dL_law_1732 rfl rfl ?_
  refine aw_aload_n (pc' := 1734) dL_law_1733 rfl rfl rfl ?_
  refine aw_aload_n (pc' := 1735) dL_law_1734 rfl rfl rfl ?_
  refine aw_iload_n (pc' := 1736) dL_law_1735 rfl rfl ?_
  refine aw_iconst (v := 1) (pc' := 1737) dL_law_1736 rfl (by decide) ?_
  refine aw_iadd (pc' := 1738) dL_law_1737 rfl ?_
  refine aw_topi (v := nI (6 * c + 1)) (nIadd _ 1) ?_
  refine aw_sld (v := xs (6 * c + 1)) (pc' := 1739) dL_law_1738 rfl (nI_in (by omega) (by omega)) (by rw [nI_clamp (by omega)]) ?_
  refine aw_aload_n (pc' := 1740) dL_law_1739 rfl rfl rfl ?_
  refine aw_iload_n (pc' := 1741) dL_law_1740 rfl rfl ?_
  refine aw_iconst (v := 2) (pc' := 1742) dL_law_1741 rfl (by decide) ?_
  refine aw_iadd (pc' := 1743) dL_law_1742 rfl ?_
  refine aw_topi (v := nI (6 * c + 2)) (nIadd _ 2) ?_
  refine aw_sld (v := xs (6 * c + 2)) (pc' := 1744) dL_law_1743 rfl (nI_in (by omega) (by omega)) (by rw [nI_clamp (by omega)]) ?_
  refine aw_aload_n (pc' := 1745) dL_law_1744 rfl rfl rfl ?_
  refine aw_iload_n (pc' := 1746) dL_law_1745 rfl rfl ?_
  refine aw_iconst (v := 3) (pc' := 1747) dL_law_1746 rfl (by decide) ?_
  refine aw_iadd (pc' := 1748) dL_law_1747 rfl ?_
  refine aw_topi (v := nI (6 * c + 3)) (nIadd _ 3) ?_
  refine aw_sld (v := xs (6 * c + 3)) (pc' := 1749) dL_law_1748 rfl (nI_in (by omega) (by omega)) (by rw [nI_clamp (by omega)]) ?_
  refine aw_callVi (M' := mX12_act) (nc' := 126 + 4 * c + 0) (ns' := 60000 + 200 * c + 0) (pc' := 1752) dL_law_1749 rfl ml_RL_201 kX12_act (t_X12_act H1 em) (H1.ob (H1.fo (q := 59) rfl rfl) (by decide)) rfl rfl rfl (Nat.le_of_ble_eq_true rfl) (rokL (by decide) (Nat.le_of_ble_eq_true rfl) (by omega) (by omega)) rfl rfl (fun _ h2 q2 => ?_)
  obtain ⟨rfl, H2, -⟩ := q2
  refine aw_pop (pc' := 1753) dL_law_1752 rfl rfl ?_
  refine aw_goto (tgt := 2113) dL_law_1753 (by decide) ?_
  refine AW.widen (nc' := 130 + 4 * c) (ns' := 60200 + 200 * c) (by omega) (by omega) ?_
  exact kk _ _ H2 G2
set_option maxRecDepth 4000 in
theorem lc_46 {L : Nat} {xs : Nat → Int32} {c : Nat} (hL : L ≤ 3072) (hc : 6 * c + 6 ≤ L) (kk : Nx L xs c) {s : SS} {h : List aE} (H : HH s h) (G : GW c s) : AW mLaw room_1 (sF L xs lawF) 1756 (lvC c) [] h (126 + 4 * c) (60000 + 200 * c) := by
  obtain ⟨rx, s1, rm, s2, ex, em, G2, eq⟩ := s4_trace G (by omega) (xs (6 * c + 1))
  refine aw_aload_n (pc' := 1757) dL_law_1756 rfl rfl rfl ?_
  refine aw_aload_n (pc' := 1758) dL_law_1757 rfl rfl rfl ?_
  refine aw_iload_n (pc' := 1759) dL_law_1758 rfl rfl ?_
  refine aw_iconst (v := 1) (pc' := 1760) dL_law_1759 rfl (by decide) ?_
  refine aw_iadd (pc' := 1761) dL_law_1760 rfl ?_
  refine aw_topi (v := nI (6 * c + 1)) (nIadd _ 1) ?_
  refine aw_sld (v := xs (6 * c + 1)) (pc' := 1762) dL_law_1761 rfl (nI_in (by omega) (by omega)) (by rw [nI_clamp (by omega)]) ?_
  refine aw_callVi (M' := mX11_trace) (nc' := 126 + 4 * c + 0) (ns' := 60000 + 200 * c + 0) (pc' := 1765) dL_law_1762 rfl ml_RL_202 kX11_trace (t_X11_trace H ex) (H.ob (H.fo (q := 0) rfl rfl) (by decide)) rfl rfl rfl (Nat.le_of_ble_eq_true rfl) (rokL (by decide) (Nat.le_of_ble_eq_true rfl) (by omega) (by omega)) rfl rfl (fun _ h1 q1 => ?_)
  obtain ⟨rfl, rfl⟩ := q1
  refine aw_pop (pc' := 1766) dL_law_1765 rfl rfl ?_
  refine aw_aload_n (pc' := 1767) dL_law_1766 rfl rfl rfl ?_
  refine aw_aload_n (pc' := 1768) dL_law_1767 rfl rfl rfl ?_
  refine aw_iload_n (pc' := 1769) dL_law_1768 rfl rfl ?_
  refine aw_iconst (v := 1) (pc' := 1770) dL_law_1769 rfl (by decide) ?_
  refine aw_iadd (pc' := 1771) dL_law_1770 rfl ?_
  refine aw_topi (v := nI (6 * c + 1)) (nIadd _ 1) ?_
  refine aw_sld (v := xs (6 * c + 1)) (pc' := 1772) dL_law_1771 rfl (nI_in (by omega) (by omega)) (by rw [nI_clamp (by omega)]) ?_
  refine aw_callVi (M' := mX12_trace) (nc' := 126 + 4 * c + 0) (ns' := 60000 + 200 * c + 0) (pc' := 1775) dL_law_1772 rfl ml_RL_205 kX12_trace (t_X12_trace H em) (H.ob (H.fo (q := 59) rfl rfl) (by decide)) rfl rfl rfl (Nat.le_of_ble_eq_true rfl) (rokL (by decide) (Nat.le_of_ble_eq_true rfl) (by omega) (by omega)) rfl rfl (fun _ h2 q2 => ?_)
  obtain ⟨rfl, rfl⟩ := q2
  refine aw_pop (pc' := 1776) dL_law_1775 rfl rfl ?_
  refine aw_goto (tgt := 2113) dL_law_1776 (by decide) ?_
  refine AW.widen (nc' := 130 + 4 * c) (ns' := 60200 + 200 * c) (by omega) (by omega) ?_
  exact kk _ _ H G2
set_option maxRecDepth 4000 in
theorem lc_47 {L : Nat} {xs : Nat → Int32} {c : Nat} (hL : L ≤ 3072) (hc : 6 * c + 6 ≤ L) (kk : Nx L xs c) {s : SS} {h : List aE} (H : HH s h) (G : GW c s) : AW mLaw room_1 (sF L xs lawF) 1779 (lvC c) [] h (126 + 4 * c) (60000 + 200 * c) := by
  obtain ⟨rx, s1, rm, s2, ex, em, G2, eq⟩ := s4_keep G (by omega) (xs (6 * c + 1)) (xs (6 * c + 2))
  refine aw_aload_n (pc' := 1780) dL_law_1779 rfl rfl rfl ?_
  refine aw_aload_n (pc' := 1781) dL_law_1780 rfl rfl rfl ?_
  refine aw_iload_n (pc' := 1782) dL_law_1781 rfl rfl ?_
  refine aw_iconst (v := 1) (pc' := 1783) dL_law_1782 rfl (by decide) ?_
  refine aw_iadd (pc' := 1784) dL_law_1783 rfl ?_
  refine aw_topi (v := nI (6 * c + 1)) (nIadd _ 1) ?_
  refine aw_sld (v := xs (6 * c + 1)) (pc' := 1785) dL_law_1784 rfl (nI_in (by omega) (by omega)) (by rw [nI_clamp (by omega)]) ?_
  refine aw_aload_n (pc' := 1786) dL_law_1785 rfl rfl rfl ?_
  refine aw_iload_n (pc' := 1787) dL_law_1786 rfl rfl ?_
  refine aw_iconst (v := 2) (pc' := 1788) dL_law_1787 rfl (by decide) ?_
  refine aw_iadd (pc' := 1789) dL_law_1788 rfl ?_
  refine aw_topi (v := nI (6 * c + 2)) (nIadd _ 2) ?_
  refine aw_sld (v := xs (6 * c + 2)) (pc' := 1790) dL_law_1789 rfl (nI_in (by omega) (by omega)) (by rw [nI_clamp (by omega)]) ?_
  refine aw_callVi (M' := mX11_keep) (nc' := 126 + 4 * c + 0) (ns' := 60000 + 200 * c + 0) (pc' := 1793) dL_law_1790 rfl ml_RL_206 kX11_keep (t_X11_keep H ex) (H.ob (H.fo (q := 0) rfl rfl) (by decide)) rfl rfl rfl (Nat.le_of_ble_eq_true rfl) (rokL (by decide) (Nat.le_of_ble_eq_true rfl) (by omega) (by omega)) rfl rfl (fun _ h1 q1 => ?_)
  obtain ⟨rfl, H1, -⟩ := q1
  refine aw_pop (pc' := 1794) dL_law_1793 rfl rfl ?_
  refine aw_aload_n (pc' := 1795) dL_law_1794 rfl rfl rfl ?_
  refine aw_aload_n (pc' := 1796) dL_law_1795 rfl rfl rfl ?_
  refine aw_iload_n (pc' := 1797) dL_law_1796 rfl rfl ?_
  refine aw_iconst (v := 1) (pc' := 1798) dL_law_1797 rfl (by decide) ?_
  refine aw_iadd (pc' := 1799) dL_law_1798 rfl ?_
  refine aw_topi (v := nI (6 * c + 1)) (nIadd _ 1) ?_
  refine aw_sld (v := xs (6 * c + 1)) (pc' := 1800) dL_law_1799 rfl (nI_in (by omega) (by omega)) (by rw [nI_clamp (by omega)]) ?_
  refine aw_aload_n (pc' := 1801) dL_law_1800 rfl rfl rfl ?_
  refine aw_iload_n (pc' := 1802) dL_law_1801 rfl rfl ?_
  refine aw_iconst (v := 2) (pc' := 1803) dL_law_1802 rfl (by decide) ?_
  refine aw_iadd (pc' := 1804) dL_law_1803 rfl ?_
  refine aw_topi (v := nI (6 * c + 2)) (nIadd _ 2) ?_
  refine aw_sld (v := xs (6 * c + 2)) (pc' := 1805) dL_law_1804 rfl (nI_in (by omega) (by omega)) (by rw [nI_clamp (by omega)]) ?_
  refine aw_callVi (M' := mX12_keep) (nc' := 126 + 4 * c + 0) (ns' := 60000 + 200 * c + 0) (pc' := 1808) dL_law_1805 rfl ml_RL_209 kX12_keep (t_X12_keep H1 em) (H1.ob (H1.fo (q := 59) rfl rfl) (by decide)) rfl rfl rfl (Nat.le_of_ble_eq_true rfl) (rokL (by decide) (Nat.le_of_ble_eq_true rfl) (by omega) (by omega)) rfl rfl (fun _ h2 q2 => ?_)
  obtain ⟨rfl, H2, -⟩ := q2
  refine aw_pop (pc' := 1809) dL_law_1808 rfl rfl ?_
  refine aw_goto (tgt := 2113) dL_law_1809 (by decide) ?_
  refine AW.widen (nc' := 130 + 4 * c) (ns' := 60200 + 200 * c) (by omega) (by omega) ?_
  exact kk _ _ H2 G2
set_option maxRecDepth 4000 in
theorem lc_48 {L : Nat} {xs : Nat → Int32} {c : Nat} (hL : L ≤ 3072) (hc : 6 * c + 6 ≤ L) (kk : Nx L xs c) {s : SS} {h : List aE} (H : HH s h) (G : GW c s) : AW mLaw room_1 (sF L xs lawF) 1812 (lvC c) [] h (126 + 4 * c) (60000 + 200 * c) := by
  obtain ⟨rx, s1, rm, s2, ex, em, G2, eq⟩ := s4_row G (by omega) (xs (6 * c + 1)) (xs (6 * c + 2)) (xs (6 * c + 3))
  refine aw_aload_n (pc' := 1813) dL_law_1812 rfl rfl rfl ?_
  refine aw_aload_n (pc' := 1814) dL_law_1813 rfl rfl rfl ?_
  refine aw_iload_n (pc' := 1815) dL_law_1814 rfl rfl ?_
  refine aw_iconst (v := 1) (pc' := 1816) dL_law_1815 rfl (by decide) ?_
  refine aw_iadd (pc' := 1817) dL_law_1816 rfl ?_
  refine aw_topi (v := nI (6 * c + 1)) (nIadd _ 1) ?_
  refine aw_sld (v := xs (6 * c + 1)) (pc' := 1818) dL_law_1817 rfl (nI_in (by omega) (by omega)) (by rw [nI_clamp (by omega)]) ?_
  refine aw_aload_n (pc' := 1819) dL_law_1818 rfl rfl rfl ?_
  refine aw_iload_n (pc' := 1820) dL_law_1819 rfl rfl ?_
  refine aw_iconst (v := 2) (pc' := 1821) dL_law_1820 rfl (by decide) ?_
  refine aw_iadd (pc' := 1822) dL_law_1821 rfl ?_
  refine aw_topi (v := nI (6 * c + 2)) (nIadd _ 2) ?_
  refine aw_sld (v := xs (6 * c + 2)) (pc' := 1823) dL_law_1822 rfl (nI_in (by omega) (by omega)) (by rw [nI_clamp (by omega)]) ?_
  refine aw_aload_n (pc' := 1824) dL_law_1823 rfl rfl rfl ?_
  refine aw_iload_n (pc' := 1825) dL_law_1824 rfl rfl ?_
  refine aw_iconst (v := 3) (pc' := 1826) dL_law_1825 rfl (by decide) ?_
  refine aw_iadd (pc' := 1827) dL_law_1826 rfl ?_
  refine aw_topi (v := nI (6 * c + 3)) (nIadd _ 3) ?_
  refine aw_sld (v := xs (6 * c + 3)) (pc' := 1828) dL_law_1827 rfl (nI_in (by omega) (by omega)) (by rw [nI_clamp (by omega)]) ?_
  refine aw_callVi (M' := mX11_row) (nc' := 126 + 4 * c + 0) (ns' := 60000 + 200 * c + 0) (pc' := 1831) dL_law_1828 rfl ml_RL_210 kX11_row (t_X11_row H ex) (H.ob (H.fo (q := 0) rfl rfl) (by decide)) rfl rfl rfl (Nat.le_of_ble_eq_true rfl) (rokL (by decide) (Nat.le_of_ble_eq_true rfl) (by omega) (by omega)) rfl rfl (fun _ h1 q1 => ?_)
  obtain ⟨rfl, H1, -⟩ := q1
  refine aw_pop (pc' := 1832) dL_law_1831 rfl rfl ?_
  refine aw_aload_n (pc' := 1833) dL_law_1832 rfl rfl rfl ?_
  refine aw_aload_n (pc' := 1834) dL_law_1833 rfl rfl rfl ?_
  refine aw_iload_n (pc' := 1835) dL_law_1834 rfl rfl ?_
  refine aw_iconst (v := 1) (pc' := 1836) dL_law_1835 rfl (by decide) ?_
  refine aw_iadd (pc' := 1837) dL_law_1836 rfl ?_
  refine aw_topi (v := nI (6 * c + 1)) (nIadd _ 1) ?_
  refine aw_sld (v := xs (6 * c + 1)) (pc' := 1838) dL_law_1837 rfl (nI_in (by omega) (by omega)) (by rw [nI_clamp (by omega)]) ?_
  refine aw_aload_n (pc' := 1839) dL_law_1838 rfl rfl rfl ?_
  refine aw_iload_n (pc' := 1840) dL_law_1839 rfl rfl ?_
  refine aw_iconst (v := 2) (pc' := 1841) dL_law_1840 rfl (by decide) ?_
  refine aw_iadd (pc' := 1842) dL_law_1841 rfl ?_
  refine aw_topi (v := nI (6 * c + 2)) (nIadd _ 2) ?_
  refine aw_sld (v := xs (6 * c + 2)) (pc' := 1843) dL_law_1842 rfl (nI_in (by omega) (by omega)) (by rw [nI_clamp (by omega)]) ?_
  refine aw_aload_n (pc' := 1844) dL_law_1843 rfl rfl rfl ?_
  refine aw_iload_n (pc' := 1845) dL_law_1844 rfl rfl ?_
  refine aw_iconst (v := 3) (pc' := 1846) dL_law_1845 rfl (by decide) ?_
  refine aw_iadd (pc' := 1847) dL_law_1846 rfl ?_
  refine aw_topi (v := nI (6 * c + 3)) (nIadd _ 3) ?_
  refine aw_sld (v := xs (6 * c + 3)) (pc' := 1848) dL_law_1847 rfl (nI_in (by omega) (by omega)) (by rw [nI_clamp (by omega)]) ?_
  refine aw_callVi (M' := mX12_row) (nc' := 126 + 4 * c + 0) (ns' := 60000 + 200 * c + 0) (pc' := 1851) dL_law_1848 rfl ml_RL_213 kX12_row (t_X12_row H1 em) (H1.ob (H1.fo (q := 59) rfl rfl) (by decide)) rfl rfl rfl (Nat.le_of_ble_eq_true rfl) (rokL (by decide) (Nat.le_of_ble_eq_true rfl) (by omega) (by omega)) rfl rfl (fun _ h2 q2 => ?_)
  obtain ⟨rfl, H2, -⟩ := q2
  refine aw_pop (pc' := 1852) dL_law_1851 rfl rfl ?_
  refine aw_goto (tgt := 2113) dL_law_1852 (by decide) ?_
  refine AW.widen (nc' := 130 + 4 * c) (ns' := 60200 + 200 * c) (by omega) (by omega) ?_
  exact kk _ _ H2 G2
set_option maxRecDepth 4000 in
theorem lc_49 {L : Nat} {xs : Nat → Int32} {c : Nat} (hL : L ≤ 3072) (hc : 6 * c + 6 ≤ L) (kk : Nx L xs c) {s : SS} {h : List aE} (H : HH s h) (G : GW c s) : AW mLaw room_1 (sF L xs lawF) 1855 (lvC c) [] h (126 + 4 * c) (60000 + 200 * c) := by
  obtain ⟨rx, s1, rm, s2, ex, em, G2, eq⟩ := s4_put G (by omega) (xs (6 * c + 1)) (xs (6 * c + 2)) (((xs (6 * c + 3)).toInt64 <<< ((32 : Int32).toInt64 &&& 63)) ||| ((xs (6 * c + 4)).toInt64 &&& 4294967295))
  refine aw_aload_n (pc' := 1856) dL_law_1855 rfl rfl rfl ?_
  refine aw_aload_n (pc' := 1857) dL_law_1856 rfl rfl rfl ?_
  refine aw_iload_n (pc' := 1858) dL_law_1857 rfl rfl ?_
  refine aw_iconst (v := 1) (pc' := 1859) dL_law_1858 rfl (by decide) ?_
  refine aw_iadd (pc' := 1860) dL_law_1859 rfl ?_
  refine aw_topi (v := nI (6 * c + 1)) (nIadd _ 1) ?_
  refine aw_sld (v := xs (6 * c + 1)) (pc' := 1861) dL_law_1860 rfl (nI_in (by omega) (by omega)) (by rw [nI_clamp (by omega)]) ?_
  refine aw_aload_n (pc' := 1862) dL_law_1861 rfl rfl rfl ?_
  refine aw_iload_n (pc' := 1863) dL_law_1862 rfl rfl ?_
  refine aw_iconst (v := 2) (pc' := 1864) dL_law_1863 rfl (by decide) ?_
  refine aw_iadd (pc' := 1865) dL_law_1864 rfl ?_
  refine aw_topi (v := nI (6 * c + 2)) (nIadd _ 2) ?_
  refine aw_sld (v := xs (6 * c + 2)) (pc' := 1866) dL_law_1865 rfl (nI_in (by omega) (by omega)) (by rw [nI_clamp (by omega)]) ?_
  refine aw_aload_n (pc' := 1867) dL_law_1866 rfl rfl rfl ?_
  refine aw_iload_n (pc' := 1868) dL_law_1867 rfl rfl ?_
  refine aw_iconst (v := 3) (pc' := 1869) dL_law_1868 rfl (by decide) ?_
  refine aw_iadd (pc' := 1870) dL_law_1869 rfl ?_
  refine aw_topi (v := nI (6 * c + 3)) (nIadd _ 3) ?_
  refine aw_sld (v := xs (6 * c + 3)) (pc' := 1871) dL_law_1870 rfl (nI_in (by omega) (by omega)) (by rw [nI_clamp (by omega)]) ?_
  refine aw_i2l (pc' := 1872) dL_law_1871 rfl ?_
  refine aw_bipush (v := 32) (pc' := 1874) dL_law_1872 rfl (by decide) ?_
  refine aw_lshl (pc' := 1875) dL_law_1874 rfl ?_
  refine aw_aload_n (pc' := 1876) dL_law_1875 rfl rfl rfl ?_
  refine aw_iload_n (pc' := 1877) dL_law_1876 rfl rfl ?_
  refine aw_iconst (v := 4) (pc' := 1878) dL_law_1877 rfl (by decide) ?_
  refine aw_iadd (pc' := 1879) dL_law_1878 rfl ?_
  refine aw_topi (v := nI (6 * c + 4)) (nIadd _ 4) ?_
  refine aw_sld (v := xs (6 * c + 4)) (pc' := 1880) dL_law_1879 rfl (nI_in (by omega) (by omega)) (by rw [nI_clamp (by omega)]) ?_
  refine aw_i2l (pc' := 1881) dL_law_1880 rfl ?_
  refine aw_ldc2 (pc' := 1884) dL_law_1881 rfl ct_RL_214 ?_
  refine aw_land (pc' := 1885) dL_law_1884 rfl ?_
  refine aw_lor (pc' := 1886) dL_law_1885 rfl ?_
  refine aw_callVi (M' := mX11_put) (nc' := 126 + 4 * c + 0) (ns' := 60000 + 200 * c + 0) (pc' := 1889) dL_law_1886 rfl ml_RL_216 kX11_put (t_X11_put H ex) (H.ob (H.fo (q := 0) rfl rfl) (by decide)) rfl rfl rfl (Nat.le_of_ble_eq_true rfl) (rokL (by decide) (Nat.le_of_ble_eq_true rfl) (by omega) (by omega)) rfl rfl (fun _ h1 q1 => ?_)
  obtain ⟨rfl, H1, -⟩ := q1
  refine aw_pop (pc' := 1890) dL_law_1889 rfl rfl ?_
  refine aw_aload_n (pc' := 1891) dL_law_1890 rfl rfl rfl ?_
  refine aw_aload_n (pc' := 1892) dL_law_1891 rfl rfl rfl ?_
  refine aw_iload_n (pc' := 1893) dL_law_1892 rfl rfl ?_
  refine aw_iconst (v := 1) (pc' := 1894) dL_law_1893 rfl (by decide) ?_
  refine aw_iadd (pc' := 1895) dL_law_1894 rfl ?_
  refine aw_topi (v := nI (6 * c + 1)) (nIadd _ 1) ?_
  refine aw_sld (v := xs (6 * c + 1)) (pc' := 1896) dL_law_1895 rfl (nI_in (by omega) (by omega)) (by rw [nI_clamp (by omega)]) ?_
  refine aw_aload_n (pc' := 1897) dL_law_1896 rfl rfl rfl ?_
  refine aw_iload_n (pc' := 1898) dL_law_1897 rfl rfl ?_
  refine aw_iconst (v := 2) (pc' := 1899) dL_law_1898 rfl (by decide) ?_
  refine aw_iadd (pc' := 1900) dL_law_1899 rfl ?_
  refine aw_topi (v := nI (6 * c + 2)) (nIadd _ 2) ?_
  refine aw_sld (v := xs (6 * c + 2)) (pc' := 1901) dL_law_1900 rfl (nI_in (by omega) (by omega)) (by rw [nI_clamp (by omega)]) ?_
  refine aw_aload_n (pc' := 1902) dL_law_1901 rfl rfl rfl ?_
  refine aw_iload_n (pc' := 1903) dL_law_1902 rfl rfl ?_
  refine aw_iconst (v := 3) (pc' := 1904) dL_law_1903 rfl (by decide) ?_
  refine aw_iadd (pc' := 1905) dL_law_1904 rfl ?_
  refine aw_topi (v := nI (6 * c + 3)) (nIadd _ 3) ?_
  refine aw_sld (v := xs (6 * c + 3)) (pc' := 1906) dL_law_1905 rfl (nI_in (by omega) (by omega)) (by rw [nI_clamp (by omega)]) ?_
  refine aw_i2l (pc' := 1907) dL_law_1906 rfl ?_
  refine aw_bipush (v := 32) (pc' := 1909) dL_law_1907 rfl (by decide) ?_
  refine aw_lshl (pc' := 1910) dL_law_1909 rfl ?_
  refine aw_aload_n (pc' := 1911) dL_law_1910 rfl rfl rfl ?_
  refine aw_iload_n (pc' := 1912) dL_law_1911 rfl rfl ?_
  refine aw_iconst (v := 4) (pc' := 1913) dL_law_1912 rfl (by decide) ?_
  refine aw_iadd (pc' := 1914) dL_law_1913 rfl ?_
  refine aw_topi (v := nI (6 * c + 4)) (nIadd _ 4) ?_
  refine aw_sld (v := xs (6 * c + 4)) (pc' := 1915) dL_law_1914 rfl (nI_in (by omega) (by omega)) (by rw [nI_clamp (by omega)]) ?_
  refine aw_i2l (pc' := 1916) dL_law_1915 rfl ?_
  refine aw_ldc2 (pc' := 1919) dL_law_1916 rfl ct_RL_214 ?_
  refine aw_land (pc' := 1920) dL_law_1919 rfl ?_
  refine aw_lor (pc' := 1921) dL_law_1920 rfl ?_
  refine aw_callVi (M' := mX12_put) (nc' := 126 + 4 * c + 0) (ns' := 60000 + 200 * c + 0) (pc' := 1924) dL_law_1921 rfl ml_RL_220 kX12_put (t_X12_put H1 em) (H1.ob (H1.fo (q := 59) rfl rfl) (by decide)) rfl rfl rfl (Nat.le_of_ble_eq_true rfl) (rokL (by decide) (Nat.le_of_ble_eq_true rfl) (by omega) (by omega)) rfl rfl (fun _ h2 q2 => ?_)
  obtain ⟨rfl, H2, -⟩ := q2
  refine aw_pop (pc' := 1925) dL_law_1924 rfl rfl ?_
  refine aw_goto (tgt := 2113) dL_law_1925 (by decide) ?_
  refine AW.widen (nc' := 130 + 4 * c) (ns' := 60200 + 200 * c) (by omega) (by omega) ?_
  exact kk _ _ H2 G2
set_option maxRecDepth 4000 in
theorem lc_50 {L : Nat} {xs : Nat → Int32} {c : Nat} (hL : L ≤ 3072) (hc : 6 * c + 6 ≤ L) (kk : Nx L xs c) {s : SS} {h : List aE} (H : HH s h) (G : GW c s) : AW mLaw room_1 (sF L xs lawF) 1928 (lvC c) [] h (126 + 4 * c) (60000 + 200 * c) := by
  obtain ⟨rx, s1, rm, s2, ex, em, G2, eq⟩ := s4_blank G (by omega) (xs (6 * c + 1)) (xs (6 * c + 2))
  refine aw_aload_n (pc' := 1929) dL_law_1928 rfl rfl rfl ?_
  refine aw_aload_n (pc' := 1930) dL_law_1929 rfl rfl rfl ?_
  refine aw_iload_n (pc' := 1931) dL_law_1930 rfl rfl ?_
  refine aw_iconst (v := 1) (pc' := 1932) dL_law_1931 rfl (by decide) ?_
  refine aw_iadd (pc' := 1933) dL_law_1932 rfl ?_
  refine aw_topi (v := nI (6 * c + 1)) (nIadd _ 1) ?_
  refine aw_sld (v := xs (6 * c + 1)) (pc' := 1934) dL_law_1933 rfl (nI_in (by omega) (by omega)) (by rw [nI_clamp (by omega)]) ?_
  refine aw_aload_n (pc' := 1935) dL_law_1934 rfl rfl rfl ?_
  refine aw_iload_n (pc' := 1936) dL_law_1935 rfl rfl ?_
  refine aw_iconst (v := 2) (pc' := 1937) dL_law_1936 rfl (by decide) ?_
  refine aw_iadd (pc' := 1938) dL_law_1937 rfl ?_
  refine aw_topi (v := nI (6 * c + 2)) (nIadd _ 2) ?_
  refine aw_sld (v := xs (6 * c + 2)) (pc' := 1939) dL_law_1938 rfl (nI_in (by omega) (by omega)) (by rw [nI_clamp (by omega)]) ?_
  refine aw_callVi (M' := mX11_blank) (nc' := 126 + 4 * c + 0) (ns' := 60000 + 200 * c + 0) (pc' := 1942) dL_law_1939 rfl ml_RL_221 kX11_blank (t_X11_blank H ex) (H.ob (H.fo (q := 0) rfl rfl) (by decide)) rfl rfl rfl (Nat.le_of_ble_eq_true rfl) (rokL (by decide) (Nat.le_of_ble_eq_true rfl) (by omega) (by omega)) rfl rfl (fun _ h1 q1 => ?_)
  obtain ⟨rfl, H1, -⟩ := q1
  refine aw_pop (pc' := 1943) dL_law_1942 rfl rfl ?_
  refine aw_aload_n (pc' := 1944) dL_law_1943 rfl rfl rfl ?_
  refine aw_aload_n (pc' := 1945) dL_law_1944 rfl rfl rfl ?_
  refine aw_iload_n (pc' := 1946) dL_law_1945 rfl rfl ?_
  refine aw_iconst (v := 1) (pc' := 1947) dL_law_1946 rfl (by decide) ?_
  refine aw_iadd (pc' := 1948) dL_law_1947 rfl ?_
  refine aw_topi (v := nI (6 * c + 1)) (nIadd _ 1) ?_
  refine aw_sld (v := xs (6 * c + 1)) (pc' := 1949) dL_law_1948 rfl (nI_in (by omega) (by omega)) (by rw [nI_clamp (by omega)]) ?_
  refine aw_aload_n (pc' := 1950) dL_law_1949 rfl rfl rfl ?_
  refine aw_iload_n (pc' := 1951) dL_law_1950 rfl rfl ?_
  refine aw_iconst (v := 2) (pc' := 1952) dL_law_1951 rfl (by decide) ?_
  refine aw_iadd (pc' := 1953) dL_law_1952 rfl ?_
  refine aw_topi (v := nI (6 * c + 2)) (nIadd _ 2) ?_
  refine aw_sld (v := xs (6 * c + 2)) (pc' := 1954) dL_law_1953 rfl (nI_in (by omega) (by omega)) (by rw [nI_clamp (by omega)]) ?_
  refine aw_callVi (M' := mX12_blank) (nc' := 126 + 4 * c + 0) (ns' := 60000 + 200 * c + 0) (pc' := 1957) dL_law_1954 rfl ml_RL_224 kX12_blank (t_X12_blank H1 em) (H1.ob (H1.fo (q := 59) rfl rfl) (by decide)) rfl rfl rfl (Nat.le_of_ble_eq_true rfl) (rokL (by decide) (Nat.le_of_ble_eq_true rfl) (by omega) (by omega)) rfl rfl (fun _ h2 q2 => ?_)
  obtain ⟨rfl, H2, -⟩ := q2
  refine aw_pop (pc' := 1958) dL_law_1957 rfl rfl ?_
  refine aw_goto (tgt := 2113) dL_law_1958 (by decide) ?_
  refine AW.widen (nc' := 130 + 4 * c) (ns' := 60200 + 200 * c) (by omega) (by omega) ?_
  exact kk _ _ H2 G2
set_option maxRecDepth 4000 in
theorem lc_51 {L : Nat} {xs : Nat → Int32} {c : Nat} (hL : L ≤ 3072) (hc : 6 * c + 6 ≤ L) (kk : Nx L xs c) {s : SS} {h : List aE} (H : HH s h) (G : GW c s) : AW mLaw room_1 (sF L xs lawF) 1961 (lvC c) [] h (126 + 4 * c) (60000 + 200 * c) := by
  obtain ⟨rx, s1, rm, s2, ex, em, G2, eq⟩ := s4_element G (by omega) (xs (6 * c + 1)) (xs (6 * c + 2))
  refine aw_aload_n (pc' := 1962) dL_law_1961 rfl rfl rfl ?_
  refine aw_aload_n (pc' := 1963) dL_law_1962 rfl rfl rfl ?_
  refine aw_iload_n (pc' := 1964) dL_law_1963 rfl rfl ?_
  refine aw_iconst (v := 1) (pc' := 1965) dL_law_1964 rfl (by decide) ?_
  refine aw_iadd (pc' := 1966) dL_law_1965 rfl ?_
  refine aw_topi (v := nI (6 * c + 1)) (nIadd _ 1) ?_
  refine aw_sld (v := xs (6 * c + 1)) (pc' := 1967) dL_law_1966 rfl (nI_in (by omega) (by omega)) (by rw [nI_clamp (by omega)]) ?_
  refine aw_aload_n (pc' := 1968) dL_law_1967 rfl rfl rfl ?_
  refine aw_iload_n (pc' := 1969) dL_law_1968 rfl rfl ?_
  refine aw_iconst (v := 2) (pc' := 1970) dL_law_1969 rfl (by decide) ?_
  refine aw_iadd (pc' := 1971) dL_law_1970 rfl ?_
  refine aw_topi (v := nI (6 * c + 2)) (nIadd _ 2) ?_
  refine aw_sld (v := xs (6 * c + 2)) (pc' := 1972) dL_law_1971 rfl (nI_in (by omega) (by omega)) (by rw [nI_clamp (by omega)]) ?_
  refine aw_callVl (M' := mX11_element) (nc' := 126 + 4 * c + 0) (ns' := 60000 + 200 * c + 0) (pc' := 1975) dL_law_1972 rfl ml_RL_225 kX11_element (t_X11_element H ex) (H.ob (H.fo (q := 0) rfl rfl) (by decide)) rfl rfl rfl (Nat.le_of_ble_eq_true rfl) (rokL (by decide) (Nat.le_of_ble_eq_true rfl) (by omega) (by omega)) rfl rfl (fun _ h1 q1 => ?_)
  obtain ⟨rfl, rfl⟩ := q1
  refine aw_pop2l (pc' := 1976) dL_law_1975 rfl ?_
  refine aw_aload_n (pc' := 1977) dL_law_1976 rfl rfl rfl ?_
  refine aw_aload_n (pc' := 1978) dL_law_1977 rfl rfl rfl ?_
  refine aw_iload_n (pc' := 1979) dL_law_1978 rfl rfl ?_
  refine aw_iconst (v := 1) (pc' := 1980) dL_law_1979 rfl (by decide) ?_
  refine aw_iadd (pc' := 1981) dL_law_1980 rfl ?_
  refine aw_topi (v := nI (6 * c + 1)) (nIadd _ 1) ?_
  refine aw_sld (v := xs (6 * c + 1)) (pc' := 1982) dL_law_1981 rfl (nI_in (by omega) (by omega)) (by rw [nI_clamp (by omega)]) ?_
  refine aw_aload_n (pc' := 1983) dL_law_1982 rfl rfl rfl ?_
  refine aw_iload_n (pc' := 1984) dL_law_1983 rfl rfl ?_
  refine aw_iconst (v := 2) (pc' := 1985) dL_law_1984 rfl (by decide) ?_
  refine aw_iadd (pc' := 1986) dL_law_1985 rfl ?_
  refine aw_topi (v := nI (6 * c + 2)) (nIadd _ 2) ?_
  refine aw_sld (v := xs (6 * c + 2)) (pc' := 1987) dL_law_1986 rfl (nI_in (by omega) (by omega)) (by rw [nI_clamp (by omega)]) ?_
  refine aw_callVl (M' := mX12_element) (nc' := 126 + 4 * c + 0) (ns' := 60000 + 200 * c + 0) (pc' := 1990) dL_law_1987 rfl ml_RL_229 kX12_element (t_X12_element H em) (H.ob (H.fo (q := 59) rfl rfl) (by decide)) rfl rfl rfl (Nat.le_of_ble_eq_true rfl) (rokL (by decide) (Nat.le_of_ble_eq_true rfl) (by omega) (by omega)) rfl rfl (fun _ h2 q2 => ?_)
  obtain ⟨rfl, rfl⟩ := q2
  refine aw_pop2l (pc' := 1991) dL_law_1990 rfl ?_
  refine aw_goto (tgt := 2113) dL_law_1991 (by decide) ?_
  refine AW.widen (nc' := 130 + 4 * c) (ns' := 60200 + 200 * c) (by omega) (by omega) ?_
  exact kk _ _ H G2
set_option maxRecDepth 4000 in
theorem lc_52 {L : Nat} {xs : Nat → Int32} {c : Nat} (hL : L ≤ 3072) (hc : 6 * c + 6 ≤ L) (kk : Nx L xs c) {s : SS} {h : List aE} (H : HH s h) (G : GW c s) : AW mLaw room_1 (sF L xs lawF) 1994 (lvC c) [] h (126 + 4 * c) (60000 + 200 * c) := by
  obtain ⟨rx, s1, rm, s2, ex, em, G2, eq⟩ := s4_shift G (by omega) (xs (6 * c + 1)) (xs (6 * c + 2)) (xs (6 * c + 3)) (xs (6 * c + 4)) (xs (6 * c + 5))
  refine aw_aload_n (pc' := 1995) dL_law_1994 rfl rfl rfl ?_
  refine aw_aload_n (pc' := 1996) dL_law_1995 rfl rfl rfl ?_
  refine aw_iload_n (pc' := 1997) dL_law_1996 rfl rfl ?_
  refine aw_iconst (v := 1) (pc' := 1998) dL_law_1997 rfl (by decide) ?_
  refine aw_iadd (pc' := 1999) dL_law_1998 rfl ?_
  refine aw_topi (v := nI (6 * c + 1)) (nIadd _ 1) ?_
  refine aw_sld (v := xs (6 * c + 1)) (pc' := 2000) dL_law_1999 rfl (nI_in (by omega) (by omega)) (by rw [nI_clamp (by omega)]) ?_
  refine aw_aload_n (pc' := 2001) dL_law_2000 rfl rfl rfl ?_
  refine aw_iload_n (pc' := 2002) dL_law_2001 rfl rfl ?_
  refine aw_iconst (v := 2) (pc' := 2003) dL_law_2002 rfl (by decide) ?_
  refine aw_iadd (pc' := 2004) dL_law_2003 rfl ?_
  refine aw_topi (v := nI (6 * c + 2)) (nIadd _ 2) ?_
  refine aw_sld (v := xs (6 * c + 2)) (pc' := 2005) dL_law_2004 rfl (nI_in (by omega) (by omega)) (by rw [nI_clamp (by omega)]) ?_
  refine aw_aload_n (pc' := 2006) dL_law_2005 rfl rfl rfl ?_
  refine aw_iload_n (pc' := 2007) dL_law_2006 rfl rfl ?_
  refine aw_iconst (v := 3) (pc' := 2008) dL_law_2007 rfl (by decide) ?_
  refine aw_iadd (pc' := 2009) dL_law_2008 rfl ?_
  refine aw_topi (v := nI (6 * c + 3)) (nIadd _ 3) ?_
  refine aw_sld (v := xs (6 * c + 3)) (pc' := 2010) dL_law_2009 rfl (nI_in (by omega) (by omega)) (by rw [nI_clamp (by omega)]) ?_
  refine aw_aload_n (pc' := 2011) dL_law_2010 rfl rfl rfl ?_
  refine aw_iload_n (pc' := 2012) dL_law_2011 rfl rfl ?_
  refine aw_iconst (v := 4) (pc' := 2013) dL_law_2012 rfl (by decide) ?_
  refine aw_iadd (pc' := 2014) dL_law_2013 rfl ?_
  refine aw_topi (v := nI (6 * c + 4)) (nIadd _ 4) ?_
  refine aw_sld (v := xs (6 * c + 4)) (pc' := 2015) dL_law_2014 rfl (nI_in (by omega) (by omega)) (by rw [nI_clamp (by omega)]) ?_
  refine aw_aload_n (pc' := 2016) dL_law_2015 rfl rfl rfl ?_
  refine aw_iload_n (pc' := 2017) dL_law_2016 rfl rfl ?_
  refine aw_iconst (v := 5) (pc' := 2018) dL_law_2017 rfl (by decide) ?_
  refine aw_iadd (pc' := 2019) dL_law_2018 rfl ?_
  refine aw_topi (v := nI (6 * c + 5)) (nIadd _ 5) ?_
  refine aw_sld (v := xs (6 * c + 5)) (pc' := 2020) dL_law_2019 rfl (nI_in (by omega) (by omega)) (by rw [nI_clamp (by omega)]) ?_
  refine aw_callVi (M' := mX11_shift) (nc' := 126 + 4 * c + 0) (ns' := 60000 + 200 * c + 0) (pc' := 2023) dL_law_2020 rfl ml_RL_230 kX11_shift (t_X11_shift H ex) (H.ob (H.fo (q := 0) rfl rfl) (by decide)) rfl rfl rfl (Nat.le_of_ble_eq_true rfl) (rokL (by decide) (Nat.le_of_ble_eq_true rfl) (by omega) (by omega)) rfl rfl (fun _ h1 q1 => ?_)
  obtain ⟨rfl, H1, -⟩ := q1
  refine aw_pop (pc' := 2024) dL_law_2023 rfl rfl ?_
  refine aw_aload_n (pc' := 2025) dL_law_2024 rfl rfl rfl ?_
  refine aw_aload_n (pc' := 2026) dL_law_2025 rfl rfl rfl ?_
  refine aw_iload_n (pc' := 2027) dL_law_2026 rfl rfl ?_
  refine aw_iconst (v := 1) (pc' := 2028) dL_law_2027 rfl (by decide) ?_
  refine aw_iadd (pc' := 2029) dL_law_2028 rfl ?_
  refine aw_topi (v := nI (6 * c + 1)) (nIadd _ 1) ?_
  refine aw_sld (v := xs (6 * c + 1)) (pc' := 2030) dL_law_2029 rfl (nI_in (by omega) (by omega)) (by rw [nI_clamp (by omega)]) ?_
  refine aw_aload_n (pc' := 2031) dL_law_2030 rfl rfl rfl ?_
  refine aw_iload_n (pc' := 2032) dL_law_2031 rfl rfl ?_
  refine aw_iconst (v := 2) (pc' := 2033) dL_law_2032 rfl (by decide) ?_
  refine aw_iadd (pc' := 2034) dL_law_2033 rfl ?_
  refine aw_topi (v := nI (6 * c + 2)) (nIadd _ 2) ?_
  refine aw_sld (v := xs (6 * c + 2)) (pc' := 2035) dL_law_2034 rfl (nI_in (by omega) (by omega)) (by rw [nI_clamp (by omega)]) ?_
  refine aw_aload_n (pc' := 2036) dL_law_2035 rfl rfl rfl ?_
  refine aw_iload_n (pc' := 2037) dL_law_2036 rfl rfl ?_
  refine aw_iconst (v := 3) (pc' := 2038) dL_law_2037 rfl (by decide) ?_
  refine aw_iadd (pc' := 2039) dL_law_2038 rfl ?_
  refine aw_topi (v := nI (6 * c + 3)) (nIadd _ 3) ?_
  refine aw_sld (v := xs (6 * c + 3)) (pc' := 2040) dL_law_2039 rfl (nI_in (by omega) (by omega)) (by rw [nI_clamp (by omega)]) ?_
  refine aw_aload_n (pc' := 2041) dL_law_2040 rfl rfl rfl ?_
  refine aw_iload_n (pc' := 2042) dL_law_2041 rfl rfl ?_
  refine aw_iconst (v := 4) (pc' := 2043) dL_law_2042 rfl (by decide) ?_
  refine aw_iadd (pc' := 2044) dL_law_2043 rfl ?_
  refine aw_topi (v := nI (6 * c + 4)) (nIadd _ 4) ?_
  refine aw_sld (v := xs (6 * c + 4)) (pc' := 2045) dL_law_2044 rfl (nI_in (by omega) (by omega)) (by rw [nI_clamp (by omega)]) ?_
  refine aw_aload_n (pc' := 2046) dL_law_2045 rfl rfl rfl ?_
  refine aw_iload_n (pc' := 2047) dL_law_2046 rfl rfl ?_
  refine aw_iconst (v := 5) (pc' := 2048) dL_law_2047 rfl (by decide) ?_
  refine aw_iadd (pc' := 2049) dL_law_2048 rfl ?_
  refine aw_topi (v := nI (6 * c + 5)) (nIadd _ 5) ?_
  refine aw_sld (v := xs (6 * c + 5)) (pc' := 2050) dL_law_2049 rfl (nI_in (by omega) (by omega)) (by rw [nI_clamp (by omega)]) ?_
  refine aw_callVi (M' := mX12_shift) (nc' := 126 + 4 * c + 0) (ns' := 60000 + 200 * c + 0) (pc' := 2053) dL_law_2050 rfl ml_RL_233 kX12_shift (t_X12_shift H1 em) (H1.ob (H1.fo (q := 59) rfl rfl) (by decide)) rfl rfl rfl (Nat.le_of_ble_eq_true rfl) (rokL (by decide) (Nat.le_of_ble_eq_true rfl) (by omega) (by omega)) rfl rfl (fun _ h2 q2 => ?_)
  obtain ⟨rfl, H2, -⟩ := q2
  refine aw_pop (pc' := 2054) dL_law_2053 rfl rfl ?_
  refine aw_goto (tgt := 2113) dL_law_2054 (by decide) ?_
  refine AW.widen (nc' := 130 + 4 * c) (ns' := 60200 + 200 * c) (by omega) (by omega) ?_
  exact kk _ _ H2 G2
set_option maxRecDepth 4000 in
theorem lc_53 {L : Nat} {xs : Nat → Int32} {c : Nat} (hL : L ≤ 3072) (hc : 6 * c + 6 ≤ L) (kk : Nx L xs c) {s : SS} {h : List aE} (H : HH s h) (G : GW c s) : AW mLaw room_1 (sF L xs lawF) 2057 (lvC c) [] h (126 + 4 * c) (60000 + 200 * c) := by
  obtain ⟨rx, s1, rm, s2, ex, em, G2, eq⟩ := s4_taken G (by omega) (xs (6 * c + 1)) (xs (6 * c + 2))
  refine aw_aload_n (pc' := 2058) dL_law_2057 rfl rfl rfl ?_
  refine aw_aload_n (pc' := 2059) dL_law_2058 rfl rfl rfl ?_
  refine aw_iload_n (pc' := 2060) dL_law_2059 rfl rfl ?_
  refine aw_iconst (v := 1) (pc' := 2061) dL_law_2060 rfl (by decide) ?_
  refine aw_iadd (pc' := 2062) dL_law_2061 rfl ?_
  refine aw_topi (v := nI (6 * c + 1)) (nIadd _ 1) ?_
  refine aw_sld (v := xs (6 * c + 1)) (pc' := 2063) dL_law_2062 rfl (nI_in (by omega) (by omega)) (by rw [nI_clamp (by omega)]) ?_
  refine aw_aload_n (pc' := 2064) dL_law_2063 rfl rfl rfl ?_
  refine aw_iload_n (pc' := 2065) dL_law_2064 rfl rfl ?_
  refine aw_iconst (v := 2) (pc' := 2066) dL_law_2065 rfl (by decide) ?_
  refine aw_iadd (pc' := 2067) dL_law_2066 rfl ?_
  refine aw_topi (v := nI (6 * c + 2)) (nIadd _ 2) ?_
  refine aw_sld (v := xs (6 * c + 2)) (pc' := 2068) dL_law_2067 rfl (nI_in (by omega) (by omega)) (by rw [nI_clamp (by omega)]) ?_
  refine aw_callVi (M' := mX11_taken) (nc' := 126 + 4 * c + 0) (ns' := 60000 + 200 * c + 0) (pc' := 2071) dL_law_2068 rfl ml_RL_234 kX11_taken (t_X11_taken H ex) (H.ob (H.fo (q := 0) rfl rfl) (by decide)) rfl rfl rfl (Nat.le_of_ble_eq_true rfl) (rokL (by decide) (Nat.le_of_ble_eq_true rfl) (by omega) (by omega)) rfl rfl (fun _ h1 q1 => ?_)
  obtain ⟨rfl, rfl⟩ := q1
  refine aw_pop (pc' := 2072) dL_law_2071 rfl rfl ?_
  refine aw_aload_n (pc' := 2073) dL_law_2072 rfl rfl rfl ?_
  refine aw_aload_n (pc' := 2074) dL_law_2073 rfl rfl rfl ?_
  refine aw_iload_n (pc' := 2075) dL_law_2074 rfl rfl ?_
  refine aw_iconst (v := 1) (pc' := 2076) dL_law_2075 rfl (by decide) ?_
  refine aw_iadd (pc' := 2077) dL_law_2076 rfl ?_
  refine aw_topi (v := nI (6 * c + 1)) (nIadd _ 1) ?_
  refine aw_sld (v := xs (6 * c + 1)) (pc' := 2078) dL_law_2077 rfl (nI_in (by omega) (by omega)) (by rw [nI_clamp (by omega)]) ?_
  refine aw_aload_n (pc' := 2079) dL_law_2078 rfl rfl rfl ?_
  refine aw_iload_n (pc' := 2080) dL_law_2079 rfl rfl ?_
  refine aw_iconst (v := 2) (pc' := 2081) dL_law_2080 rfl (by decide) ?_
  refine aw_iadd (pc' := 2082) dL_law_2081 rfl ?_
  refine aw_topi (v := nI (6 * c + 2)) (nIadd _ 2) ?_
  refine aw_sld (v := xs (6 * c + 2)) (pc' := 2083) dL_law_2082 rfl (nI_in (by omega) (by omega)) (by rw [nI_clamp (by omega)]) ?_
  refine aw_callVi (M' := mX12_taken) (nc' := 126 + 4 * c + 0) (ns' := 60000 + 200 * c + 0) (pc' := 2086) dL_law_2083 rfl ml_RL_237 kX12_taken (t_X12_taken H em) (H.ob (H.fo (q := 59) rfl rfl) (by decide)) rfl rfl rfl (Nat.le_of_ble_eq_true rfl) (rokL (by decide) (Nat.le_of_ble_eq_true rfl) (by omega) (by omega)) rfl rfl (fun _ h2 q2 => ?_)
  obtain ⟨rfl, rfl⟩ := q2
  refine aw_pop (pc' := 2087) dL_law_2086 rfl rfl ?_
  refine aw_goto (tgt := 2113) dL_law_2087 (by decide) ?_
  refine AW.widen (nc' := 130 + 4 * c) (ns' := 60200 + 200 * c) (by omega) (by omega) ?_
  exact kk _ _ H G2
set_option maxRecDepth 4000 in
theorem lc_54 {L : Nat} {xs : Nat → Int32} {c : Nat} (hL : L ≤ 3072) (hc : 6 * c + 6 ≤ L) (kk : Nx L xs c) {s : SS} {h : List aE} (H : HH s h) (G : GW c s) : AW mLaw room_1 (sF L xs lawF) 2090 (lvC c) [] h (126 + 4 * c) (60000 + 200 * c) := by
  obtain ⟨rx, s1, rm, s2, ex, em, G2, eq⟩ := s4_count G (by omega) (xs (6 * c + 1))
  refine aw_aload_n (pc' := 2091) dL_law_2090 rfl rfl rfl ?_
  refine aw_aload_n (pc' := 2092) dL_law_2091 rfl rfl rfl ?_
  refine aw_iload_n (pc' := 2093) dL_law_2092 rfl rfl ?_
  refine aw_iconst (v := 1) (pc' := 2094) dL_law_2093 rfl (by decide) ?_
  refine aw_iadd (pc' := 2095) dL_law_2094 rfl ?_
  refine aw_topi (v := nI (6 * c + 1)) (nIadd _ 1) ?_
  refine aw_sld (v := xs (6 * c + 1)) (pc' := 2096) dL_law_2095 rfl (nI_in (by omega) (by omega)) (by rw [nI_clamp (by omega)]) ?_
  refine aw_callVi (M' := mX11_count) (nc' := 126 + 4 * c + 0) (ns' := 60000 + 200 * c + 0) (pc' := 2099) dL_law_2096 rfl ml_RL_238 kX11_count (t_X11_count H ex) (H.ob (H.fo (q := 0) rfl rfl) (by decide)) rfl rfl rfl (Nat.le_of_ble_eq_true rfl) (rokL (by decide) (Nat.le_of_ble_eq_true rfl) (by omega) (by omega)) rfl rfl (fun _ h1 q1 => ?_)
  obtain ⟨rfl, rfl⟩ := q1
  refine aw_aload_n (pc' := 2100) dL_law_2099 rfl rfl rfl ?_
  refine aw_aload_n (pc' := 2101) dL_law_2100 rfl rfl rfl ?_
  refine aw_iload_n (pc' := 2102) dL_law_2101 rfl rfl ?_
  refine aw_iconst (v := 1) (pc' := 2103) dL_law_2102 rfl (by decide) ?_
  refine aw_iadd (pc' := 2104) dL_law_2103 rfl ?_
  refine aw_topi (v := nI (6 * c + 1)) (nIadd _ 1) ?_
  refine aw_sld (v := xs (6 * c + 1)) (pc' := 2105) dL_law_2104 rfl (nI_in (by omega) (by omega)) (by rw [nI_clamp (by omega)]) ?_
  refine aw_callVi (M' := mX12_count) (nc' := 126 + 4 * c + 0) (ns' := 60000 + 200 * c + 0) (pc' := 2108) dL_law_2105 rfl ml_RL_241 kX12_count (t_X12_count H em) (H.ob (H.fo (q := 59) rfl rfl) (by decide)) rfl rfl rfl (Nat.le_of_ble_eq_true rfl) (rokL (by decide) (Nat.le_of_ble_eq_true rfl) (by omega) (by omega)) rfl rfl (fun _ h2 q2 => ?_)
  obtain ⟨rfl, rfl⟩ := q2
  refine aw_icmp_eq (tgt := 2113) (pc' := 2111) dL_law_2108 (by decide) rfl (fun _ => ?_) (fun c => absurd eq c)
  refine AW.widen (nc' := 130 + 4 * c) (ns' := 60200 + 200 * c) (by omega) (by omega) ?_
  exact kk _ _ H G2
set_option maxRecDepth 4000 in
theorem law_loop {L : Nat} {xs : Nat → Int32} (hL : L ≤ 3072) : ∀ (n c : Nat), L < 6 * c + 6 * n → 6 * c ≤ L + 5 → ∀ (s : SS) (h : List aE), HH s h → GW c s → AW mLaw room_1 (sF L xs lawF) 18 (lvC c) [] h (126 + 4 * c) (60000 + 200 * c) := by
  intro n
  induction n with
  | zero =>
    intro c h1 h2 s h H G
    refine aw_iload_n (pc' := 19) dL_law_18 rfl rfl ?_
    refine aw_aload_n (pc' := 20) dL_law_19 rfl rfl rfl ?_
    refine aw_slen (pc' := 21) dL_law_20 rfl ?_
    refine aw_bipush (v := 6) (pc' := 23) dL_law_21 rfl (by decide) ?_
    refine aw_isub (pc' := 24) dL_law_23 rfl ?_
    have hq : Int32.ofNat L - 6 < nI (6 * c) := by
      rw [Int32.lt_iff_toInt_lt, nI_t (by omega), i32_sub (by rw [show (Int32.ofNat L).toInt = (L : Int) from nI_t (by omega), jl6]; omega) (by rw [show (Int32.ofNat L).toInt = (L : Int) from nI_t (by omega), jl6]; omega), show (Int32.ofNat L).toInt = (L : Int) from nI_t (by omega), jl6]
      omega
    refine aw_cgt (tgt := 2119) (pc' := 27) dL_law_24 (by decide) rfl (fun _ => ?_) (fun z => absurd hq z)
    refine aw_iconst (v := 1) (pc' := 2120) dL_law_2119 rfl (by decide) ?_
    exact aw_lawret dL_law_2120 (by omega) (by omega)
  | succ n ih =>
    intro c h1 h2 s h H G
    refine aw_iload_n (pc' := 19) dL_law_18 rfl rfl ?_
    refine aw_aload_n (pc' := 20) dL_law_19 rfl rfl rfl ?_
    refine aw_slen (pc' := 21) dL_law_20 rfl ?_
    refine aw_bipush (v := 6) (pc' := 23) dL_law_21 rfl (by decide) ?_
    refine aw_isub (pc' := 24) dL_law_23 rfl ?_
    have hs : (Int32.ofNat L - 6).toInt = (L : Int) - 6 := by
      rw [i32_sub (by rw [show (Int32.ofNat L).toInt = (L : Int) from nI_t (by omega), jl6]; omega) (by rw [show (Int32.ofNat L).toInt = (L : Int) from nI_t (by omega), jl6]; omega), show (Int32.ofNat L).toInt = (L : Int) from nI_t (by omega), jl6]
    rcases Nat.lt_or_ge L (6 * c + 6) with hlt | hge
    · have hq : Int32.ofNat L - 6 < nI (6 * c) := by
        rw [Int32.lt_iff_toInt_lt, nI_t (by omega), hs]
        omega
      refine aw_cgt (tgt := 2119) (pc' := 27) dL_law_24 (by decide) rfl (fun _ => ?_) (fun z => absurd hq z)
      refine aw_iconst (v := 1) (pc' := 2120) dL_law_2119 rfl (by decide) ?_
      exact aw_lawret dL_law_2120 (by omega) (by omega)
    · have hq : ¬ Int32.ofNat L - 6 < nI (6 * c) := by
        rw [Int32.lt_iff_toInt_lt, nI_t (by omega), hs]
        omega
      refine aw_cgt (tgt := 2119) (pc' := 27) dL_law_24 (by decide) rfl (fun z => absurd z hq) (fun _ => ?_)
      refine aw_aload_n (pc' := 28) dL_law_27 rfl rfl rfl ?_
      refine aw_iload_n (pc' := 29) dL_law_28 rfl rfl ?_
      refine aw_sld (v := xs (6 * c)) (pc' := 30) dL_law_29 rfl (nI_in (by omega) (by omega)) (by rw [nI_clamp (by omega)]) ?_
      refine aw_bipush (v := 63) (pc' := 32) dL_law_30 rfl (by decide) ?_
      refine aw_iand (pc' := 33) dL_law_32 rfl ?_
      have kk : Nx L xs c := by
        intro s' h' H' G'
        refine aw_iincV (y := nI (6 * (c + 1))) (lv' := lvC (c + 1)) (pc' := 2116) dL_law_2113 rfl rfl (Nat.le_of_ble_eq_true rfl) (nIadd _ 6) rfl ?_
        refine aw_goto (tgt := 18) dL_law_2116 (by decide) ?_
        refine AW.widen (nc' := 126 + 4 * (c + 1)) (ns' := 60000 + 200 * (c + 1)) (by omega) (by omega) ?_
        exact ih (c + 1) (by omega) (by omega) s' h' H' G'
      obtain ⟨j, hj, e⟩ := pk_andE (xs (6 * c)) (m := 63) 6 (by decide)
      refine aw_topi (v := nI j) e ?_
      match j, hj with
      | 0, _ => exact aw_tabIn (tgt := 268) (off := 235) dL_law_33 (by decide) (by decide) (by decide) (by decide) (lc_0 hL hge kk H G)
      | 1, _ => exact aw_tabIn (tgt := 301) (off := 268) dL_law_33 (by decide) (by decide) (by decide) (by decide) (lc_1 hL hge kk H G)
      | 2, _ => exact aw_tabIn (tgt := 334) (off := 301) dL_law_33 (by decide) (by decide) (by decide) (by decide) (lc_2 hL hge kk H G)
      | 3, _ => exact aw_tabIn (tgt := 367) (off := 334) dL_law_33 (by decide) (by decide) (by decide) (by decide) (lc_3 hL hge kk H G)
      | 4, _ => exact aw_tabIn (tgt := 390) (off := 357) dL_law_33 (by decide) (by decide) (by decide) (by decide) (lc_4 hL hge kk H G)
      | 5, _ => exact aw_tabIn (tgt := 423) (off := 390) dL_law_33 (by decide) (by decide) (by decide) (by decide) (lc_5 hL hge kk H G)
      | 6, _ => exact aw_tabIn (tgt := 456) (off := 423) dL_law_33 (by decide) (by decide) (by decide) (by decide) (lc_6 hL hge kk H G)
      | 7, _ => exact aw_tabIn (tgt := 489) (off := 456) dL_law_33 (by decide) (by decide) (by decide) (by decide) (lc_7 hL hge kk H G)
      | 8, _ => exact aw_tabIn (tgt := 522) (off := 489) dL_law_33 (by decide) (by decide) (by decide) (by decide) (lc_8 hL hge kk H G)
      | 9, _ => exact aw_tabIn (tgt := 555) (off := 522) dL_law_33 (by decide) (by decide) (by decide) (by decide) (lc_9 hL hge kk H G)
      | 10, _ => exact aw_tabIn (tgt := 588) (off := 555) dL_law_33 (by decide) (by decide) (by decide) (by decide) (lc_10 hL hge kk H G)
      | 11, _ => exact aw_tabIn (tgt := 621) (off := 588) dL_law_33 (by decide) (by decide) (by decide) (by decide) (lc_11 hL hge kk H G)
      | 12, _ => exact aw_tabIn (tgt := 654) (off := 621) dL_law_33 (by decide) (by decide) (by decide) (by decide) (lc_12 hL hge kk H G)
      | 13, _ => exact aw_tabIn (tgt := 687) (off := 654) dL_law_33 (by decide) (by decide) (by decide) (by decide) (lc_13 hL hge kk H G)
      | 14, _ => exact aw_tabIn (tgt := 720) (off := 687) dL_law_33 (by decide) (by decide) (by decide) (by decide) (lc_14 hL hge kk H G)
      | 15, _ => exact aw_tabIn (tgt := 783) (off := 750) dL_law_33 (by decide) (by decide) (by decide) (by decide) (lc_15 hL hge kk H G)
      | 16, _ => exact aw_tabIn (tgt := 806) (off := 773) dL_law_33 (by decide) (by decide) (by decide) (by decide) (lc_16 hL hge kk H G)
      | 17, _ => exact aw_tabIn (tgt := 849) (off := 816) dL_law_33 (by decide) (by decide) (by decide) (by decide) (lc_17 hL hge kk H G)
      | 18, _ => exact aw_tabIn (tgt := 882) (off := 849) dL_law_33 (by decide) (by decide) (by decide) (by decide) (lc_18 hL hge kk H G)
      | 19, _ => exact aw_tabIn (tgt := 915) (off := 882) dL_law_33 (by decide) (by decide) (by decide) (by decide) (lc_19 hL hge kk H G)
      | 20, _ => exact aw_tabIn (tgt := 938) (off := 905) dL_law_33 (by decide) (by decide) (by decide) (by decide) (lc_20 hL hge kk H G)
      | 21, _ => exact aw_tabIn (tgt := 961) (off := 928) dL_law_33 (by decide) (by decide) (by decide) (by decide) (lc_21 hL hge kk H G)
      | 22, _ => exact aw_tabIn (tgt := 994) (off := 961) dL_law_33 (by decide) (by decide) (by decide) (by decide) (lc_22 hL hge kk H G)
      | 23, _ => exact aw_tabIn (tgt := 1027) (off := 994) dL_law_33 (by decide) (by decide) (by decide) (by decide) (lc_23 hL hge kk H G)
      | 24, _ => exact aw_tabIn (tgt := 1070) (off := 1037) dL_law_33 (by decide) (by decide) (by decide) (by decide) (lc_24 hL hge kk H G)
      | 25, _ => exact aw_tabIn (tgt := 1103) (off := 1070) dL_law_33 (by decide) (by decide) (by decide) (by decide) (lc_25 hL hge kk H G)
      | 26, _ => exact aw_tabIn (tgt := 1126) (off := 1093) dL_law_33 (by decide) (by decide) (by decide) (by decide) (lc_26 hL hge kk H G)
      | 27, _ => exact aw_tabIn (tgt := 1149) (off := 1116) dL_law_33 (by decide) (by decide) (by decide) (by decide) (lc_27 hL hge kk H G)
      | 28, _ => exact aw_tabIn (tgt := 1182) (off := 1149) dL_law_33 (by decide) (by decide) (by decide) (by decide) (lc_28 hL hge kk H G)
      | 29, _ => exact aw_tabIn (tgt := 1215) (off := 1182) dL_law_33 (by decide) (by decide) (by decide) (by decide) (lc_29 hL hge kk H G)
      | 30, _ => exact aw_tabIn (tgt := 1238) (off := 1205) dL_law_33 (by decide) (by decide) (by decide) (by decide) (lc_30 hL hge kk H G)
      | 31, _ => exact aw_tabIn (tgt := 1281) (off := 1248) dL_law_33 (by decide) (by decide) (by decide) (by decide) (lc_31 hL hge kk H G)
      | 32, _ => exact aw_tabIn (tgt := 1304) (off := 1271) dL_law_33 (by decide) (by decide) (by decide) (by decide) (lc_32 hL hge kk H G)
      | 33, _ => exact aw_tabIn (tgt := 1337) (off := 1304) dL_law_33 (by decide) (by decide) (by decide) (by decide) (lc_33 hL hge kk H G)
      | 34, _ => exact aw_tabIn (tgt := 1350) (off := 1317) dL_law_33 (by decide) (by decide) (by decide) (by decide) (lc_34 hL hge kk H G)
      | 35, _ => exact aw_tabIn (tgt := 1373) (off := 1340) dL_law_33 (by decide) (by decide) (by decide) (by decide) (lc_35 hL hge kk H G)
      | 36, _ => exact aw_tabIn (tgt := 1406) (off := 1373) dL_law_33 (by decide) (by decide) (by decide) (by decide) (lc_36 hL hge kk H G)
      | 37, _ => exact aw_tabIn (tgt := 1439) (off := 1406) dL_law_33 (by decide) (by decide) (by decide) (by decide) (lc_37 hL hge kk H G)
      | 38, _ => exact aw_tabIn (tgt := 1472) (off := 1439) dL_law_33 (by decide) (by decide) (by decide) (by decide) (lc_38 hL hge kk H G)
      | 39, _ => exact aw_tabIn (tgt := 1515) (off := 1482) dL_law_33 (by decide) (by decide) (by decide) (by decide) (lc_39 hL hge kk H G)
      | 40, _ => exact aw_tabIn (tgt := 1558) (off := 1525) dL_law_33 (by decide) (by decide) (by decide) (by decide) (lc_40 hL hge kk H G)
      | 41, _ => exact aw_tabIn (tgt := 1591) (off := 1558) dL_law_33 (by decide) (by decide) (by decide) (by decide) (lc_41 hL hge kk H G)
      | 42, _ => exact aw_tabIn (tgt := 1634) (off := 1601) dL_law_33 (by decide) (by decide) (by decide) (by decide) (lc_42 hL hge kk H G)
      | 43, _ => exact aw_tabIn (tgt := 1657) (off := 1624) dL_law_33 (by decide) (by decide) (by decide) (by decide) (lc_43 hL hge kk H G)
      | 44, _ => exact aw_tabIn (tgt := 1690) (off := 1657) dL_law_33 (by decide) (by decide) (by decide) (by decide) (lc_44 hL hge kk H G)
      | 45, _ => exact aw_tabIn (tgt := 1713) (off := 1680) dL_law_33 (by decide) (by decide) (by decide) (by decide) (lc_45 hL hge kk H G)
      | 46, _ => exact aw_tabIn (tgt := 1756) (off := 1723) dL_law_33 (by decide) (by decide) (by decide) (by decide) (lc_46 hL hge kk H G)
      | 47, _ => exact aw_tabIn (tgt := 1779) (off := 1746) dL_law_33 (by decide) (by decide) (by decide) (by decide) (lc_47 hL hge kk H G)
      | 48, _ => exact aw_tabIn (tgt := 1812) (off := 1779) dL_law_33 (by decide) (by decide) (by decide) (by decide) (lc_48 hL hge kk H G)
      | 49, _ => exact aw_tabIn (tgt := 1855) (off := 1822) dL_law_33 (by decide) (by decide) (by decide) (by decide) (lc_49 hL hge kk H G)
      | 50, _ => exact aw_tabIn (tgt := 1928) (off := 1895) dL_law_33 (by decide) (by decide) (by decide) (by decide) (lc_50 hL hge kk H G)
      | 51, _ => exact aw_tabIn (tgt := 1961) (off := 1928) dL_law_33 (by decide) (by decide) (by decide) (by decide) (lc_51 hL hge kk H G)
      | 52, _ => exact aw_tabIn (tgt := 1994) (off := 1961) dL_law_33 (by decide) (by decide) (by decide) (by decide) (lc_52 hL hge kk H G)
      | 53, _ => exact aw_tabIn (tgt := 2057) (off := 2024) dL_law_33 (by decide) (by decide) (by decide) (by decide) (lc_53 hL hge kk H G)
      | 54, _ => exact aw_tabIn (tgt := 2090) (off := 2057) dL_law_33 (by decide) (by decide) (by decide) (by decide) (lc_54 hL hge kk H G)
      | n + 55, hn =>
        refine aw_tabOut (tgt := 2113) dL_law_33 (Or.inr ?_) (by decide) (AW.widen (nc' := 130 + 4 * c) (ns' := 60200 + 200 * c) (by omega) (by omega) (kk s h H G.rd))
        rw [nI_toInt (by omega)]
        omega
set_option maxRecDepth 10000 in
theorem law_all {L : Nat} (hL : L ≤ 3072) (xs : Nat → Int32) : AW mLaw room_1 (sF L xs lawF) 0 [some (.ref 0), none, none, none] [] [] 0 0 := by
  refine aw_new clsAll (ci := 11) (r := 8) (fs := [.null, .null, .null, .null, .null, .int 0, .null, .null, .int 0, .null, .null, .null, .null, .null, .int 0, .int 0, .int 0, .int 0, .int 0]) (h' := [.inr (11, [.null, .null, .null, .null, .null, .int 0, .null, .null, .int 0, .null, .null, .null, .null, .null, .int 0, .int 0, .int 0, .int 0, .int 0])]) (pc' := 3) dL_law_0 rfl rfl cl_RL_7 ins_RX11 ini_RX11 tyX11_ok (by decide) (fun _ => rfl) (by decide) (by decide) rfl rfl (AW.toN (nc' := 1) (ns' := 19) rfl rfl ?_)
  refine aw_dup (pc' := 4) dL_law_3 rfl rfl ?_
  refine aw_callIv (M' := mX11_init) (nc' := 59) (ns' := 8192) (pc' := 7) dL_law_4 rfl ml_RL_9 kX11_init (ci_X11_init [] [] 0 rfl) rfl rfl (Nat.le_of_ble_eq_true rfl) (rok rfl) rfl rfl (fun h1 q1 => ?_)
  obtain rfl : h1 = hX := q1
  refine aw_astore_n (lv' := [_, _, _, _]) (pc' := 8) dL_law_7 rfl (Nat.le_of_ble_eq_true rfl) rfl rfl ?_
  refine aw_new clsAll (ci := 12) (r := 67) (fs := [.int 0, .int 0, .null, .null, .int 0, .null, .null, .null, .null, .null, .null, .null, .null, .null, .null, .null, .null, .null, .null, .null, .null, .int 0, .int 0, .int 0, .int 0, .int 0, .null, .null, .null, .int 0, .int 0, .null, .null, .null, .null, .null, .null, .int 0, .int 0, .null, .null, .null, .null, .null, .null, .null, .null, .int 0, .int 0, .int 0, .int 0, .int 0, .null, .null, .int 0, .int 0, .int 0, .null, .null, .null, .null, .null, .int 0, .null, .null, .null, .null, .int 0, .null, .null, .null, .null, .int 0, .null, .int 0, .null, .int 0, .null, .null, .int 0, .null, .null, .int 0, .int 0, .null, .null, .null, .int 0, .null, .null, .null, .null, .null, .null, .null]) (h' := hX ++ [.inr (12, [.int 0, .int 0, .null, .null, .int 0, .null, .null, .null, .null, .null, .null, .null, .null, .null, .null, .null, .null, .null, .null, .null, .null, .int 0, .int 0, .int 0, .int 0, .int 0, .null, .null, .null, .int 0, .int 0, .null, .null, .null, .null, .null, .null, .int 0, .int 0, .null, .null, .null, .null, .null, .null, .null, .null, .int 0, .int 0, .int 0, .int 0, .int 0, .null, .null, .int 0, .int 0, .int 0, .null, .null, .null, .null, .null, .int 0, .null, .null, .null, .null, .int 0, .null, .null, .null, .null, .int 0, .null, .int 0, .null, .int 0, .null, .null, .int 0, .null, .null, .int 0, .int 0, .null, .null, .null, .int 0, .null, .null, .null, .null, .null, .null, .null])]) (pc' := 11) dL_law_8 rfl rfl cl_RL_10 ins_RX12 ini_RX12 tyX12_ok (by decide) (fun _ => rfl) (by decide) (by decide) rfl rfl (AW.toN (nc' := 60) (ns' := 8287) rfl rfl ?_)
  refine aw_dup (pc' := 12) dL_law_11 rfl rfl ?_
  refine aw_callIv (M' := mX12_init) (nc' := 126) (ns' := 55548) (pc' := 15) dL_law_12 rfl ml_RL_12 kX12_init (ci_X12_init hX [] 59 rfl) rfl rfl (Nat.le_of_ble_eq_true rfl) (rok rfl) rfl rfl (fun h2 q2 => ?_)
  obtain rfl : h2 = hX ++ hM0 := q2
  refine aw_exti (q := 78) (g := fun _ => 20) rfl (by decide) ?_
  refine aw_exti (q := 79) (g := fun _ => (-1)) rfl (by decide) ?_
  refine aw_exti (q := 80) (g := fun _ => (-1)) rfl (by decide) ?_
  refine aw_exti (q := 113) (g := fun _ => 1) rfl (by decide) ?_
  refine aw_exti (q := 120) (g := fun _ => (-1)) rfl (by decide) ?_
  refine AW.heq (h' := h0) rfl ?_
  refine aw_astore_n (lv' := [_, _, _, _]) (pc' := 16) dL_law_15 rfl (Nat.le_of_ble_eq_true rfl) rfl rfl ?_
  refine aw_iconst (v := 0) (pc' := 17) dL_law_16 rfl (by decide) ?_
  refine aw_istore_n (lv' := [_, _, _, _]) (pc' := 18) dL_law_17 rfl (Nat.le_of_ble_eq_true rfl) rfl ?_
  refine AW.widen (nc' := 126 + 4 * 0) (ns' := 60000 + 200 * 0) (by decide) (by decide) ?_
  exact law_loop hL 513 0 (by omega) (by omega) sFr h0 HH_fr GW_fr
