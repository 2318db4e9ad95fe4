abbrev lw_hd (l : Launch) (E : bE) (Ln : Nat) (xs : Int → Int) (kn : Nat × Nat) (i : Int) (M : bM) : Prop := VL l E x_law b_full kn 18 [(0, bR 2100), (1, bR 0), (2, bR 11), (3, bI i)] [] M (G_law E Ln xs)
def lw_c (kn : Nat × Nat) (Ln : Nat) (i : Int) : Prop := Ln ≤ 4096 ∧ 0 ≤ i ∧ kn.1 + (Ln - i).toNat + 16 ≤ 600000 ∧ kn.2 + 200 * (Ln - i).toNat + 3200 ≤ 7302250
theorem law_0 {l : Launch} {E : bE} {Ln : Nat} {xs : Int → Int} {kn : Nat × Nat} {i : Int} {M : bM} (hfg : b_fg E) (hc : lw_c kn Ln i) (hi : i + 8 ≤ Ln) (h : b_wp (F_X11_feed (xs (i + 1)) (xs (i + 2)) (xs (i + 3)) (xs (i + 4)) (xs (i + 5)) M) (fun o => b_wp (F_X12_feed (xs (i + 1)) (xs (i + 2)) (xs (i + 3)) (xs (i + 4)) (xs (i + 5)) o.2) (fun o2 => o.1 = o2.1 ∧ lw_hd l E Ln xs (kn.1 + 8, kn.2 + 1600) (i + 8) o2.2))) : VL l E x_law b_full kn 256 [(0, bR 2100), (1, bR 0), (2, bR 11), (3, bI i)] [] M (G_law E Ln xs) := by
  unfold lw_c at hc
  refine v_aload_n (f := 1) 1 rfl dL_law_256 ?_
  refine v_aload_n (f := 0) 0 rfl dL_law_257 ?_
  refine v_iload_n (f := 3) 3 rfl dL_law_258 ?_
  refine v_iconst ⟨by decide, by decide⟩ dL_law_259 ?_
  refine v_iaddN (by unfold b_r32; omega) dL_law_260 ?_
  refine f_sld hc.1 (by omega) dL_law_261 ?_
  refine v_aload_n (f := 0) 0 rfl dL_law_262 ?_
  refine v_iload_n (f := 3) 3 rfl dL_law_263 ?_
  refine v_iconst ⟨by decide, by decide⟩ dL_law_264 ?_
  refine v_iaddN (by unfold b_r32; omega) dL_law_265 ?_
  refine f_sld hc.1 (by omega) dL_law_266 ?_
  refine v_aload_n (f := 0) 0 rfl dL_law_267 ?_
  refine v_iload_n (f := 3) 3 rfl dL_law_268 ?_
  refine v_iconst ⟨by decide, by decide⟩ dL_law_269 ?_
  refine v_iaddN (by unfold b_r32; omega) dL_law_270 ?_
  refine f_sld hc.1 (by omega) dL_law_271 ?_
  refine v_aload_n (f := 0) 0 rfl dL_law_272 ?_
  refine v_iload_n (f := 3) 3 rfl dL_law_273 ?_
  refine v_iconst ⟨by decide, by decide⟩ dL_law_274 ?_
  refine v_iaddN (by unfold b_r32; omega) dL_law_275 ?_
  refine f_sld hc.1 (by omega) dL_law_276 ?_
  refine v_aload_n (f := 0) 0 rfl dL_law_277 ?_
  refine v_iload_n (f := 3) 3 rfl dL_law_278 ?_
  refine v_iconst ⟨by decide, by decide⟩ dL_law_279 ?_
  refine v_iaddN (by unfold b_r32; omega) dL_law_280 ?_
  refine f_sld hc.1 (by omega) dL_law_281 ?_
  refine v_cVI (nA := 5) (As := [bI _, bI _, bI _, bI _, bI _]) (ix := 13) (cf_X11_feed h) rfl kd_0 rfl rfl wc_X11_feed wm_BurntHallLaw_13 wi_X11_feed ws_X11_feed wn_11 ⟨by decide, by decide, by decide⟩ rfl ⟨by decide, by decide⟩ ⟨show kn.1 + 0 ≤ 600000 by omega, show kn.2 + 0 ≤ 7302250 by omega⟩ (Nat.le_of_ble_eq_true rfl) dL_law_282 (fun x1 M1 h => ?_)
  refine v_aload_n (f := 2) 2 rfl dL_law_285 ?_
  refine v_aload_n (f := 0) 0 rfl dL_law_286 ?_
  refine v_iload_n (f := 3) 3 rfl dL_law_287 ?_
  refine v_iconst ⟨by decide, by decide⟩ dL_law_288 ?_
  refine v_iaddN (by unfold b_r32; omega) dL_law_289 ?_
  refine f_sld hc.1 (by omega) dL_law_290 ?_
  refine v_aload_n (f := 0) 0 rfl dL_law_291 ?_
  refine v_iload_n (f := 3) 3 rfl dL_law_292 ?_
  refine v_iconst ⟨by decide, by decide⟩ dL_law_293 ?_
  refine v_iaddN (by unfold b_r32; omega) dL_law_294 ?_
  refine f_sld hc.1 (by omega) dL_law_295 ?_
  refine v_aload_n (f := 0) 0 rfl dL_law_296 ?_
  refine v_iload_n (f := 3) 3 rfl dL_law_297 ?_
  refine v_iconst ⟨by decide, by decide⟩ dL_law_298 ?_
  refine v_iaddN (by unfold b_r32; omega) dL_law_299 ?_
  refine f_sld hc.1 (by omega) dL_law_300 ?_
  refine v_aload_n (f := 0) 0 rfl dL_law_301 ?_
  refine v_iload_n (f := 3) 3 rfl dL_law_302 ?_
  refine v_iconst ⟨by decide, by decide⟩ dL_law_303 ?_
  refine v_iaddN (by unfold b_r32; omega) dL_law_304 ?_
  refine f_sld hc.1 (by omega) dL_law_305 ?_
  refine v_aload_n (f := 0) 0 rfl dL_law_306 ?_
  refine v_iload_n (f := 3) 3 rfl dL_law_307 ?_
  refine v_iconst ⟨by decide, by decide⟩ dL_law_308 ?_
  refine v_iaddN (by unfold b_r32; omega) dL_law_309 ?_
  refine f_sld hc.1 (by omega) dL_law_310 ?_
  refine v_cVI (nA := 5) (As := [bI _, bI _, bI _, bI _, bI _]) (ix := 17) (cf_X12_feed h) rfl kd_11 rfl rfl wc_X12_feed wm_BurntHallLaw_17 wi_X12_feed ws_X12_feed wn_12 ⟨by decide, by decide, by decide⟩ rfl ⟨by decide, by decide⟩ ⟨show kn.1 + 0 + 0 ≤ 600000 by omega, show kn.2 + 0 + 0 ≤ 7302250 by omega⟩ (Nat.le_of_ble_eq_true rfl) dL_law_311 (fun x2 M2 h => ?_)
  obtain ⟨he, h⟩ := h
  refine v_icmp_eq (tgt := 2105) dL_law_314 (by decide) (fun _ => ?_) (fun q => absurd he q)
  refine v_iincN (ls' := [(3, bI _), (0, bR _), (1, bR _), (2, bR _)]) 3 rfl (by decide) (by unfold b_r32; omega) dL_law_2105 rfl ?_
  refine v_goto (tgt := 18) dL_law_2108 (by decide) ?_
  refine v_sub (ls2 := [(0, bR _), (1, bR _), (2, bR _), (3, bI _)]) [1, 2, 3, 0] rfl ?_
  exact v_widen (k2 := (kn.1 + 8, kn.2 + 1600)) ⟨show kn.1 + 0 + 0 ≤ kn.1 + 8 by omega, show kn.2 + 0 + 0 ≤ kn.2 + 1600 by omega⟩ h
theorem law_1 {l : Launch} {E : bE} {Ln : Nat} {xs : Int → Int} {kn : Nat × Nat} {i : Int} {M : bM} (hfg : b_fg E) (hc : lw_c kn Ln i) (hi : i + 8 ≤ Ln) (h : b_wp (F_X11_end (xs (i + 1)) M) (fun o => b_wp (F_X12_end (xs (i + 1)) o.2) (fun o2 => o.1 = o2.1 ∧ lw_hd l E Ln xs (kn.1 + 8, kn.2 + 1600) (i + 8) o2.2))) : VL l E x_law b_full kn 319 [(0, bR 2100), (1, bR 0), (2, bR 11), (3, bI i)] [] M (G_law E Ln xs) := by
  unfold lw_c at hc
  refine v_aload_n (f := 1) 1 rfl dL_law_319 ?_
  refine v_aload_n (f := 0) 0 rfl dL_law_320 ?_
  refine v_iload_n (f := 3) 3 rfl dL_law_321 ?_
  refine v_iconst ⟨by decide, by decide⟩ dL_law_322 ?_
  refine v_iaddN (by unfold b_r32; omega) dL_law_323 ?_
  refine f_sld hc.1 (by omega) dL_law_324 ?_
  refine v_cVI (nA := 1) (As := [bI _]) (ix := 18) (cf_X11_end h) rfl kd_0 rfl rfl wc_X11_end wm_BurntHallLaw_18 wi_X11_end ws_X11_end wn_11 ⟨by decide, by decide, by decide⟩ rfl ⟨by decide, by decide⟩ ⟨show kn.1 + 0 ≤ 600000 by omega, show kn.2 + 0 ≤ 7302250 by omega⟩ (Nat.le_of_ble_eq_true rfl) dL_law_325 (fun x1 M1 h => ?_)
  refine v_aload_n (f := 2) 2 rfl dL_law_328 ?_
  refine v_aload_n (f := 0) 0 rfl dL_law_329 ?_
  refine v_iload_n (f := 3) 3 rfl dL_law_330 ?_
  refine v_iconst ⟨by decide, by decide⟩ dL_law_331 ?_
  refine v_iaddN (by unfold b_r32; omega) dL_law_332 ?_
  refine f_sld hc.1 (by omega) dL_law_333 ?_
  refine v_cVI (nA := 1) (As := [bI _]) (ix := 22) (cf_X12_end h) rfl kd_11 rfl rfl wc_X12_end wm_BurntHallLaw_22 wi_X12_end ws_X12_end wn_12 ⟨by decide, by decide, by decide⟩ rfl ⟨by decide, by decide⟩ ⟨show kn.1 + 0 + 0 ≤ 600000 by omega, show kn.2 + 0 + 0 ≤ 7302250 by omega⟩ (Nat.le_of_ble_eq_true rfl) dL_law_334 (fun x2 M2 h => ?_)
  obtain ⟨he, h⟩ := h
  refine v_icmp_eq (tgt := 2105) dL_law_337 (by decide) (fun _ => ?_) (fun q => absurd he q)
  refine v_iincN (ls' := [(3, bI _), (0, bR _), (1, bR _), (2, bR _)]) 3 rfl (by decide) (by unfold b_r32; omega) dL_law_2105 rfl ?_
  refine v_goto (tgt := 18) dL_law_2108 (by decide) ?_
  refine v_sub (ls2 := [(0, bR _), (1, bR _), (2, bR _), (3, bI _)]) [1, 2, 3, 0] rfl ?_
  exact v_widen (k2 := (kn.1 + 8, kn.2 + 1600)) ⟨show kn.1 + 0 + 0 ≤ kn.1 + 8 by omega, show kn.2 + 0 + 0 ≤ kn.2 + 1600 by omega⟩ h
theorem law_2 {l : Launch} {E : bE} {Ln : Nat} {xs : Int → Int} {kn : Nat × Nat} {i : Int} {M : bM} (hfg : b_fg E) (hc : lw_c kn Ln i) (hi : i + 8 ≤ Ln) (h : b_wp (F_X11_pass (xs (i + 1)) M) (fun o => b_wp (F_X12_pass (xs (i + 1)) o.2) (fun o2 => o.1 = o2.1 ∧ lw_hd l E Ln xs (kn.1 + 8, kn.2 + 1600) (i + 8) o2.2))) : VL l E x_law b_full kn 342 [(0, bR 2100), (1, bR 0), (2, bR 11), (3, bI i)] [] M (G_law E Ln xs) := by
  unfold lw_c at hc
  refine v_aload_n (f := 1) 1 rfl dL_law_342 ?_
  refine v_aload_n (f := 0) 0 rfl dL_law_343 ?_
  refine v_iload_n (f := 3) 3 rfl dL_law_344 ?_
  refine v_iconst ⟨by decide, by decide⟩ dL_law_345 ?_
  refine v_iaddN (by unfold b_r32; omega) dL_law_346 ?_
  refine f_sld hc.1 (by omega) dL_law_347 ?_
  refine v_cVI (nA := 1) (As := [bI _]) (ix := 23) (cf_X11_pass h) rfl kd_0 rfl rfl wc_X11_pass wm_BurntHallLaw_23 wi_X11_pass ws_X11_pass wn_11 ⟨by decide, by decide, by decide⟩ rfl ⟨by decide, by decide⟩ ⟨show kn.1 + 0 ≤ 600000 by omega, show kn.2 + 0 ≤ 7302250 by omega⟩ (Nat.le_of_ble_eq_true rfl) dL_law_348 (fun x1 M1 h => ?_)
  refine v_aload_n (f := 2) 2 rfl dL_law_351 ?_
  refine v_aload_n (f := 0) 0 rfl dL_law_352 ?_
  refine v_iload_n (f := 3) 3 rfl dL_law_353 ?_
  refine v_iconst ⟨by decide, by decide⟩ dL_law_354 ?_
  refine v_iaddN (by unfold b_r32; omega) dL_law_355 ?_
  refine f_sld hc.1 (by omega) dL_law_356 ?_
  refine v_cVI (nA := 1) (As := [bI _]) (ix := 26) (cf_X12_pass h) rfl kd_11 rfl rfl wc_X12_pass wm_BurntHallLaw_26 wi_X12_pass ws_X12_pass wn_12 ⟨by decide, by decide, by decide⟩ rfl ⟨by decide, by decide⟩ ⟨show kn.1 + 0 + 0 ≤ 600000 by omega, show kn.2 + 0 + 0 ≤ 7302250 by omega⟩ (Nat.le_of_ble_eq_true rfl) dL_law_357 (fun x2 M2 h => ?_)
  obtain ⟨he, h⟩ := h
  refine v_icmp_eq (tgt := 2105) dL_law_360 (by decide) (fun _ => ?_) (fun q => absurd he q)
  refine v_iincN (ls' := [(3, bI _), (0, bR _), (1, bR _), (2, bR _)]) 3 rfl (by decide) (by unfold b_r32; omega) dL_law_2105 rfl ?_
  refine v_goto (tgt := 18) dL_law_2108 (by decide) ?_
  refine v_sub (ls2 := [(0, bR _), (1, bR _), (2, bR _), (3, bI _)]) [1, 2, 3, 0] rfl ?_
  exact v_widen (k2 := (kn.1 + 8, kn.2 + 1600)) ⟨show kn.1 + 0 + 0 ≤ kn.1 + 8 by omega, show kn.2 + 0 + 0 ≤ kn.2 + 1600 by omega⟩ h
theorem law_3 {l : Launch} {E : bE} {Ln : Nat} {xs : Int → Int} {kn : Nat × Nat} {i : Int} {M : bM} (hfg : b_fg E) (hc : lw_c kn Ln i) (hi : i + 8 ≤ Ln) (h : b_wp (F_X11_person (xs (i + 1)) M) (fun o => b_wp (F_X12_person (xs (i + 1)) o.2) (fun o2 => o.1 = o2.1 ∧ lw_hd l E Ln xs (kn.1 + 8, kn.2 + 1600) (i + 8) o2.2))) : VL l E x_law b_full kn 365 [(0, bR 2100), (1, bR 0), (2, bR 11), (3, bI i)] [] M (G_law E Ln xs) := by
  unfold lw_c at hc
  refine v_aload_n (f := 1) 1 rfl dL_law_365 ?_
  refine v_aload_n (f := 0) 0 rfl dL_law_366 ?_
  refine v_iload_n (f := 3) 3 rfl dL_law_367 ?_
  refine v_iconst ⟨by decide, by decide⟩ dL_law_368 ?_
  refine v_iaddN (by unfold b_r32; omega) dL_law_369 ?_
  refine f_sld hc.1 (by omega) dL_law_370 ?_
  refine v_cVI (nA := 1) (As := [bI _]) (ix := 27) (cf_X11_person h) rfl kd_0 rfl rfl wc_X11_person wm_BurntHallLaw_27 wi_X11_person ws_X11_person wn_11 ⟨by decide, by decide, by decide⟩ rfl ⟨by decide, by decide⟩ ⟨show kn.1 + 0 ≤ 600000 by omega, show kn.2 + 0 ≤ 7302250 by omega⟩ (Nat.le_of_ble_eq_true rfl) dL_law_371 (fun x1 M1 h => ?_)
  refine v_aload_n (f := 2) 2 rfl dL_law_374 ?_
  refine v_aload_n (f := 0) 0 rfl dL_law_375 ?_
  refine v_iload_n (f := 3) 3 rfl dL_law_376 ?_
  refine v_iconst ⟨by decide, by decide⟩ dL_law_377 ?_
  refine v_iaddN (by unfold b_r32; omega) dL_law_378 ?_
  refine f_sld hc.1 (by omega) dL_law_379 ?_
  refine v_cVI (nA := 1) (As := [bI _]) (ix := 30) (cf_X12_person h) rfl kd_11 rfl rfl wc_X12_person wm_BurntHallLaw_30 wi_X12_person ws_X12_person wn_12 ⟨by decide, by decide, by decide⟩ rfl ⟨by decide, by decide⟩ ⟨show kn.1 + 0 + 0 ≤ 600000 by omega, show kn.2 + 0 + 0 ≤ 7302250 by omega⟩ (Nat.le_of_ble_eq_true rfl) dL_law_380 (fun x2 M2 h => ?_)
  obtain ⟨he, h⟩ := h
  refine v_icmp_eq (tgt := 2105) dL_law_383 (by decide) (fun _ => ?_) (fun q => absurd he q)
  refine v_iincN (ls' := [(3, bI _), (0, bR _), (1, bR _), (2, bR _)]) 3 rfl (by decide) (by unfold b_r32; omega) dL_law_2105 rfl ?_
  refine v_goto (tgt := 18) dL_law_2108 (by decide) ?_
  refine v_sub (ls2 := [(0, bR _), (1, bR _), (2, bR _), (3, bI _)]) [1, 2, 3, 0] rfl ?_
  exact v_widen (k2 := (kn.1 + 8, kn.2 + 1600)) ⟨show kn.1 + 0 + 0 ≤ kn.1 + 8 by omega, show kn.2 + 0 + 0 ≤ kn.2 + 1600 by omega⟩ h
theorem law_4 {l : Launch} {E : bE} {Ln : Nat} {xs : Int → Int} {kn : Nat × Nat} {i : Int} {M : bM} (hfg : b_fg E) (hc : lw_c kn Ln i) (hi : i + 8 ≤ Ln) (h : b_wp (F_X11_dead (xs (i + 1)) (xs (i + 2)) M) (fun o => b_wp (F_X12_dead (xs (i + 1)) (xs (i + 2)) o.2) (fun o2 => o.1 = o2.1 ∧ lw_hd l E Ln xs (kn.1 + 8, kn.2 + 1600) (i + 8) o2.2))) : VL l E x_law b_full kn 388 [(0, bR 2100), (1, bR 0), (2, bR 11), (3, bI i)] [] M (G_law E Ln xs) := by
  unfold lw_c at hc
  refine v_aload_n (f := 1) 1 rfl dL_law_388 ?_
  refine v_aload_n (f := 0) 0 rfl dL_law_389 ?_
  refine v_iload_n (f := 3) 3 rfl dL_law_390 ?_
  refine v_iconst ⟨by decide, by decide⟩ dL_law_391 ?_
  refine v_iaddN (by unfold b_r32; omega) dL_law_392 ?_
  refine f_sld hc.1 (by omega) dL_law_393 ?_
  refine v_aload_n (f := 0) 0 rfl dL_law_394 ?_
  refine v_iload_n (f := 3) 3 rfl dL_law_395 ?_
  refine v_iconst ⟨by decide, by decide⟩ dL_law_396 ?_
  refine v_iaddN (by unfold b_r32; omega) dL_law_397 ?_
  refine f_sld hc.1 (by omega) dL_law_398 ?_
  refine v_cVI (nA := 2) (As := [bI _, bI _]) (ix := 31) (cf_X11_dead h) rfl kd_0 rfl rfl wc_X11_dead wm_BurntHallLaw_31 wi_X11_dead ws_X11_dead wn_11 ⟨by decide, by decide, by decide⟩ rfl ⟨by decide, by decide⟩ ⟨show kn.1 + 0 ≤ 600000 by omega, show kn.2 + 0 ≤ 7302250 by omega⟩ (Nat.le_of_ble_eq_true rfl) dL_law_399 (fun x1 M1 h => ?_)
  refine v_aload_n (f := 2) 2 rfl dL_law_402 ?_
  refine v_aload_n (f := 0) 0 rfl dL_law_403 ?_
  refine v_iload_n (f := 3) 3 rfl dL_law_404 ?_
  refine v_iconst ⟨by decide, by decide⟩ dL_law_405 ?_
  refine v_iaddN (by unfold b_r32; omega) dL_law_406 ?_
  refine f_sld hc.1 (by omega) dL_law_407 ?_
  refine v_aload_n (f := 0) 0 rfl dL_law_408 ?_
  refine v_iload_n (f := 3) 3 rfl dL_law_409 ?_
  refine v_iconst ⟨by decide, by decide⟩ dL_law_410 ?_
  refine v_iaddN (by unfold b_r32; omega) dL_law_411 ?_
  refine f_sld hc.1 (by omega) dL_law_412 ?_
  refine v_cVI (nA := 2) (As := [bI _, bI _]) (ix := 35) (cf_X12_dead h) rfl kd_11 rfl rfl wc_X12_dead wm_BurntHallLaw_35 wi_X12_dead ws_X12_dead wn_12 ⟨by decide, by decide, by decide⟩ rfl ⟨by decide, by decide⟩ ⟨show kn.1 + 0 + 0 ≤ 600000 by omega, show kn.2 + 0 + 0 ≤ 7302250 by omega⟩ (Nat.le_of_ble_eq_true rfl) dL_law_413 (fun x2 M2 h => ?_)
  obtain ⟨he, h⟩ := h
  refine v_icmp_eq (tgt := 2105) dL_law_416 (by decide) (fun _ => ?_) (fun q => absurd he q)
  refine v_iincN (ls' := [(3, bI _), (0, bR _), (1, bR _), (2, bR _)]) 3 rfl (by decide) (by unfold b_r32; omega) dL_law_2105 rfl ?_
  refine v_goto (tgt := 18) dL_law_2108 (by decide) ?_
  refine v_sub (ls2 := [(0, bR _), (1, bR _), (2, bR _), (3, bI _)]) [1, 2, 3, 0] rfl ?_
  exact v_widen (k2 := (kn.1 + 8, kn.2 + 1600)) ⟨show kn.1 + 0 + 0 ≤ kn.1 + 8 by omega, show kn.2 + 0 + 0 ≤ kn.2 + 1600 by omega⟩ h
theorem law_5 {l : Launch} {E : bE} {Ln : Nat} {xs : Int → Int} {kn : Nat × Nat} {i : Int} {M : bM} (hfg : b_fg E) (hc : lw_c kn Ln i) (hi : i + 8 ≤ Ln) (h : b_wp (F_X11_same (xs (i + 1)) (xs (i + 2)) M) (fun o => b_wp (F_X12_same (xs (i + 1)) (xs (i + 2)) o.2) (fun o2 => o.1 = o2.1 ∧ lw_hd l E Ln xs (kn.1 + 8, kn.2 + 1600) (i + 8) o2.2))) : VL l E x_law b_full kn 421 [(0, bR 2100), (1, bR 0), (2, bR 11), (3, bI i)] [] M (G_law E Ln xs) := by
  unfold lw_c at hc
  refine v_aload_n (f := 1) 1 rfl dL_law_421 ?_
  refine v_aload_n (f := 0) 0 rfl dL_law_422 ?_
  refine v_iload_n (f := 3) 3 rfl dL_law_423 ?_
  refine v_iconst ⟨by decide, by decide⟩ dL_law_424 ?_
  refine v_iaddN (by unfold b_r32; omega) dL_law_425 ?_
  refine f_sld hc.1 (by omega) dL_law_426 ?_
  refine v_aload_n (f := 0) 0 rfl dL_law_427 ?_
  refine v_iload_n (f := 3) 3 rfl dL_law_428 ?_
  refine v_iconst ⟨by decide, by decide⟩ dL_law_429 ?_
  refine v_iaddN (by unfold b_r32; omega) dL_law_430 ?_
  refine f_sld hc.1 (by omega) dL_law_431 ?_
  refine v_cVI (nA := 2) (As := [bI _, bI _]) (ix := 36) (cf_X11_same h) rfl kd_0 rfl rfl wc_X11_same wm_BurntHallLaw_36 wi_X11_same ws_X11_same wn_11 ⟨by decide, by decide, by decide⟩ rfl ⟨by decide, by decide⟩ ⟨show kn.1 + 0 ≤ 600000 by omega, show kn.2 + 0 ≤ 7302250 by omega⟩ (Nat.le_of_ble_eq_true rfl) dL_law_432 (fun x1 M1 h => ?_)
  refine v_aload_n (f := 2) 2 rfl dL_law_435 ?_
  refine v_aload_n (f := 0) 0 rfl dL_law_436 ?_
  refine v_iload_n (f := 3) 3 rfl dL_law_437 ?_
  refine v_iconst ⟨by decide, by decide⟩ dL_law_438 ?_
  refine v_iaddN (by unfold b_r32; omega) dL_law_439 ?_
  refine f_sld hc.1 (by omega) dL_law_440 ?_
  refine v_aload_n (f := 0) 0 rfl dL_law_441 ?_
  refine v_iload_n (f := 3) 3 rfl dL_law_442 ?_
  refine v_iconst ⟨by decide, by decide⟩ dL_law_443 ?_
  refine v_iaddN (by unfold b_r32; omega) dL_law_444 ?_
  refine f_sld hc.1 (by omega) dL_law_445 ?_
  refine v_cVI (nA := 2) (As := [bI _, bI _]) (ix := 39) (cf_X12_same h) rfl kd_11 rfl rfl wc_X12_same wm_BurntHallLaw_39 wi_X12_same ws_X12_same wn_12 ⟨by decide, by decide, by decide⟩ rfl ⟨by decide, by decide⟩ ⟨show kn.1 + 0 + 0 ≤ 600000 by omega, show kn.2 + 0 + 0 ≤ 7302250 by omega⟩ (Nat.le_of_ble_eq_true rfl) dL_law_446 (fun x2 M2 h => ?_)
  obtain ⟨he, h⟩ := h
  refine v_icmp_eq (tgt := 2105) dL_law_449 (by decide) (fun _ => ?_) (fun q => absurd he q)
  refine v_iincN (ls' := [(3, bI _), (0, bR _), (1, bR _), (2, bR _)]) 3 rfl (by decide) (by unfold b_r32; omega) dL_law_2105 rfl ?_
  refine v_goto (tgt := 18) dL_law_2108 (by decide) ?_
  refine v_sub (ls2 := [(0, bR _), (1, bR _), (2, bR _), (3, bI _)]) [1, 2, 3, 0] rfl ?_
  exact v_widen (k2 := (kn.1 + 8, kn.2 + 1600)) ⟨show kn.1 + 0 + 0 ≤ kn.1 + 8 by omega, show kn.2 + 0 + 0 ≤ kn.2 + 1600 by omega⟩ h
theorem law_6 {l : Launch} {E : bE} {Ln : Nat} {xs : Int → Int} {kn : Nat × Nat} {i : Int} {M : bM} (hfg : b_fg E) (hc : lw_c kn Ln i) (hi : i + 8 ≤ Ln) (h : b_wp (F_X11_apart (xs (i + 1)) (xs (i + 2)) M) (fun o => b_wp (F_X12_apart (xs (i + 1)) (xs (i + 2)) o.2) (fun o2 => o.1 = o2.1 ∧ lw_hd l E Ln xs (kn.1 + 8, kn.2 + 1600) (i + 8) o2.2))) : VL l E x_law b_full kn 454 [(0, bR 2100), (1, bR 0), (2, bR 11), (3, bI i)] [] M (G_law E Ln xs) := by
  unfold lw_c at hc
  refine v_aload_n (f := 1) 1 rfl dL_law_454 ?_
  refine v_aload_n (f := 0) 0 rfl dL_law_455 ?_
  refine v_iload_n (f := 3) 3 rfl dL_law_456 ?_
  refine v_iconst ⟨by decide, by decide⟩ dL_law_457 ?_
  refine v_iaddN (by unfold b_r32; omega) dL_law_458 ?_
  refine f_sld hc.1 (by omega) dL_law_459 ?_
  refine v_aload_n (f := 0) 0 rfl dL_law_460 ?_
  refine v_iload_n (f := 3) 3 rfl dL_law_461 ?_
  refine v_iconst ⟨by decide, by decide⟩ dL_law_462 ?_
  refine v_iaddN (by unfold b_r32; omega) dL_law_463 ?_
  refine f_sld hc.1 (by omega) dL_law_464 ?_
  refine v_cVI (nA := 2) (As := [bI _, bI _]) (ix := 40) (cf_X11_apart h) rfl kd_0 rfl rfl wc_X11_apart wm_BurntHallLaw_40 wi_X11_apart ws_X11_apart wn_11 ⟨by decide, by decide, by decide⟩ rfl ⟨by decide, by decide⟩ ⟨show kn.1 + 0 ≤ 600000 by omega, show kn.2 + 0 ≤ 7302250 by omega⟩ (Nat.le_of_ble_eq_true rfl) dL_law_465 (fun x1 M1 h => ?_)
  refine v_aload_n (f := 2) 2 rfl dL_law_468 ?_
  refine v_aload_n (f := 0) 0 rfl dL_law_469 ?_
  refine v_iload_n (f := 3) 3 rfl dL_law_470 ?_
  refine v_iconst ⟨by decide, by decide⟩ dL_law_471 ?_
  refine v_iaddN (by unfold b_r32; omega) dL_law_472 ?_
  refine f_sld hc.1 (by omega) dL_law_473 ?_
  refine v_aload_n (f := 0) 0 rfl dL_law_474 ?_
  refine v_iload_n (f := 3) 3 rfl dL_law_475 ?_
  refine v_iconst ⟨by decide, by decide⟩ dL_law_476 ?_
  refine v_iaddN (by unfold b_r32; omega) dL_law_477 ?_
  refine f_sld hc.1 (by omega) dL_law_478 ?_
  refine v_cVI (nA := 2) (As := [bI _, bI _]) (ix := 43) (cf_X12_apart h) rfl kd_11 rfl rfl wc_X12_apart wm_BurntHallLaw_43 wi_X12_apart ws_X12_apart wn_12 ⟨by decide, by decide, by decide⟩ rfl ⟨by decide, by decide⟩ ⟨show kn.1 + 0 + 0 ≤ 600000 by omega, show kn.2 + 0 + 0 ≤ 7302250 by omega⟩ (Nat.le_of_ble_eq_true rfl) dL_law_479 (fun x2 M2 h => ?_)
  obtain ⟨he, h⟩ := h
  refine v_icmp_eq (tgt := 2105) dL_law_482 (by decide) (fun _ => ?_) (fun q => absurd he q)
  refine v_iincN (ls' := [(3, bI _), (0, bR _), (1, bR _), (2, bR _)]) 3 rfl (by decide) (by unfold b_r32; omega) dL_law_2105 rfl ?_
  refine v_goto (tgt := 18) dL_law_2108 (by decide) ?_
  refine v_sub (ls2 := [(0, bR _), (1, bR _), (2, bR _), (3, bI _)]) [1, 2, 3, 0] rfl ?_
  exact v_widen (k2 := (kn.1 + 8, kn.2 + 1600)) ⟨show kn.1 + 0 + 0 ≤ kn.1 + 8 by omega, show kn.2 + 0 + 0 ≤ kn.2 + 1600 by omega⟩ h
theorem law_7 {l : Launch} {E : bE} {Ln : Nat} {xs : Int → Int} {kn : Nat × Nat} {i : Int} {M : bM} (hfg : b_fg E) (hc : lw_c kn Ln i) (hi : i + 8 ≤ Ln) (h : b_wp (F_X11_child (xs (i + 1)) (xs (i + 2)) M) (fun o => b_wp (F_X12_child (xs (i + 1)) (xs (i + 2)) o.2) (fun o2 => o.1 = o2.1 ∧ lw_hd l E Ln xs (kn.1 + 8, kn.2 + 1600) (i + 8) o2.2))) : VL l E x_law b_full kn 487 [(0, bR 2100), (1, bR 0), (2, bR 11), (3, bI i)] [] M (G_law E Ln xs) := by
  unfold lw_c at hc
  refine v_aload_n (f := 1) 1 rfl dL_law_487 ?_
  refine v_aload_n (f := 0) 0 rfl dL_law_488 ?_
  refine v_iload_n (f := 3) 3 rfl dL_law_489 ?_
  refine v_iconst ⟨by decide, by decide⟩ dL_law_490 ?_
  refine v_iaddN (by unfold b_r32; omega) dL_law_491 ?_
  refine f_sld hc.1 (by omega) dL_law_492 ?_
  refine v_aload_n (f := 0) 0 rfl dL_law_493 ?_
  refine v_iload_n (f := 3) 3 rfl dL_law_494 ?_
  refine v_iconst ⟨by decide, by decide⟩ dL_law_495 ?_
  refine v_iaddN (by unfold b_r32; omega) dL_law_496 ?_
  refine f_sld hc.1 (by omega) dL_law_497 ?_
  refine v_cVI (nA := 2) (As := [bI _, bI _]) (ix := 44) (cf_X11_child h) rfl kd_0 rfl rfl wc_X11_child wm_BurntHallLaw_44 wi_X11_child ws_X11_child wn_11 ⟨by decide, by decide, by decide⟩ rfl ⟨by decide, by decide⟩ ⟨show kn.1 + 0 ≤ 600000 by omega, show kn.2 + 0 ≤ 7302250 by omega⟩ (Nat.le_of_ble_eq_true rfl) dL_law_498 (fun x1 M1 h => ?_)
  refine v_aload_n (f := 2) 2 rfl dL_law_501 ?_
  refine v_aload_n (f := 0) 0 rfl dL_law_502 ?_
  refine v_iload_n (f := 3) 3 rfl dL_law_503 ?_
  refine v_iconst ⟨by decide, by decide⟩ dL_law_504 ?_
  refine v_iaddN (by unfold b_r32; omega) dL_law_505 ?_
  refine f_sld hc.1 (by omega) dL_law_506 ?_
  refine v_aload_n (f := 0) 0 rfl dL_law_507 ?_
  refine v_iload_n (f := 3) 3 rfl dL_law_508 ?_
  refine v_iconst ⟨by decide, by decide⟩ dL_law_509 ?_
  refine v_iaddN (by unfold b_r32; omega) dL_law_510 ?_
  refine f_sld hc.1 (by omega) dL_law_511 ?_
  refine v_cVI (nA := 2) (As := [bI _, bI _]) (ix := 47) (cf_X12_child h) rfl kd_11 rfl rfl wc_X12_child wm_BurntHallLaw_47 wi_X12_child ws_X12_child wn_12 ⟨by decide, by decide, by decide⟩ rfl ⟨by decide, by decide⟩ ⟨show kn.1 + 0 + 0 ≤ 600000 by omega, show kn.2 + 0 + 0 ≤ 7302250 by omega⟩ (Nat.le_of_ble_eq_true rfl) dL_law_512 (fun x2 M2 h => ?_)
  obtain ⟨he, h⟩ := h
  refine v_icmp_eq (tgt := 2105) dL_law_515 (by decide) (fun _ => ?_) (fun q => absurd he q)
  refine v_iincN (ls' := [(3, bI _), (0, bR _), (1, bR _), (2, bR _)]) 3 rfl (by decide) (by unfold b_r32; omega) dL_law_2105 rfl ?_
  refine v_goto (tgt := 18) dL_law_2108 (by decide) ?_
  refine v_sub (ls2 := [(0, bR _), (1, bR _), (2, bR _), (3, bI _)]) [1, 2, 3, 0] rfl ?_
  exact v_widen (k2 := (kn.1 + 8, kn.2 + 1600)) ⟨show kn.1 + 0 + 0 ≤ kn.1 + 8 by omega, show kn.2 + 0 + 0 ≤ kn.2 + 1600 by omega⟩ h
theorem law_8 {l : Launch} {E : bE} {Ln : Nat} {xs : Int → Int} {kn : Nat × Nat} {i : Int} {M : bM} (hfg : b_fg E) (hc : lw_c kn Ln i) (hi : i + 8 ≤ Ln) (h : b_wp (F_X11_deadOn (xs (i + 1)) (xs (i + 2)) M) (fun o => b_wp (F_X12_deadOn (xs (i + 1)) (xs (i + 2)) o.2) (fun o2 => o.1 = o2.1 ∧ lw_hd l E Ln xs (kn.1 + 8, kn.2 + 1600) (i + 8) o2.2))) : VL l E x_law b_full kn 520 [(0, bR 2100), (1, bR 0), (2, bR 11), (3, bI i)] [] M (G_law E Ln xs) := by
  unfold lw_c at hc
  refine v_aload_n (f := 1) 1 rfl dL_law_520 ?_
  refine v_aload_n (f := 0) 0 rfl dL_law_521 ?_
  refine v_iload_n (f := 3) 3 rfl dL_law_522 ?_
  refine v_iconst ⟨by decide, by decide⟩ dL_law_523 ?_
  refine v_iaddN (by unfold b_r32; omega) dL_law_524 ?_
  refine f_sld hc.1 (by omega) dL_law_525 ?_
  refine v_aload_n (f := 0) 0 rfl dL_law_526 ?_
  refine v_iload_n (f := 3) 3 rfl dL_law_527 ?_
  refine v_iconst ⟨by decide, by decide⟩ dL_law_528 ?_
  refine v_iaddN (by unfold b_r32; omega) dL_law_529 ?_
  refine f_sld hc.1 (by omega) dL_law_530 ?_
  refine v_cVI (nA := 2) (As := [bI _, bI _]) (ix := 48) (cf_X11_deadOn h) rfl kd_0 rfl rfl wc_X11_deadOn wm_BurntHallLaw_48 wi_X11_deadOn ws_X11_deadOn wn_11 ⟨by decide, by decide, by decide⟩ rfl ⟨by decide, by decide⟩ ⟨show kn.1 + 0 ≤ 600000 by omega, show kn.2 + 0 ≤ 7302250 by omega⟩ (Nat.le_of_ble_eq_true rfl) dL_law_531 (fun x1 M1 h => ?_)
  refine v_aload_n (f := 2) 2 rfl dL_law_534 ?_
  refine v_aload_n (f := 0) 0 rfl dL_law_535 ?_
  refine v_iload_n (f := 3) 3 rfl dL_law_536 ?_
  refine v_iconst ⟨by decide, by decide⟩ dL_law_537 ?_
  refine v_iaddN (by unfold b_r32; omega) dL_law_538 ?_
  refine f_sld hc.1 (by omega) dL_law_539 ?_
  refine v_aload_n (f := 0) 0 rfl dL_law_540 ?_
  refine v_iload_n (f := 3) 3 rfl dL_law_541 ?_
  refine v_iconst ⟨by decide, by decide⟩ dL_law_542 ?_
  refine v_iaddN (by unfold b_r32; omega) dL_law_543 ?_
  refine f_sld hc.1 (by omega) dL_law_544 ?_
  refine v_cVI (nA := 2) (As := [bI _, bI _]) (ix := 51) (cf_X12_deadOn h) rfl kd_11 rfl rfl wc_X12_deadOn wm_BurntHallLaw_51 wi_X12_deadOn ws_X12_deadOn wn_12 ⟨by decide, by decide, by decide⟩ rfl ⟨by decide, by decide⟩ ⟨show kn.1 + 0 + 0 ≤ 600000 by omega, show kn.2 + 0 + 0 ≤ 7302250 by omega⟩ (Nat.le_of_ble_eq_true rfl) dL_law_545 (fun x2 M2 h => ?_)
  obtain ⟨he, h⟩ := h
  refine v_icmp_eq (tgt := 2105) dL_law_548 (by decide) (fun _ => ?_) (fun q => absurd he q)
  refine v_iincN (ls' := [(3, bI _), (0, bR _), (1, bR _), (2, bR _)]) 3 rfl (by decide) (by unfold b_r32; omega) dL_law_2105 rfl ?_
  refine v_goto (tgt := 18) dL_law_2108 (by decide) ?_
  refine v_sub (ls2 := [(0, bR _), (1, bR _), (2, bR _), (3, bI _)]) [1, 2, 3, 0] rfl ?_
  exact v_widen (k2 := (kn.1 + 8, kn.2 + 1600)) ⟨show kn.1 + 0 + 0 ≤ kn.1 + 8 by omega, show kn.2 + 0 + 0 ≤ kn.2 + 1600 by omega⟩ h
theorem law_9 {l : Launch} {E : bE} {Ln : Nat} {xs : Int → Int} {kn : Nat × Nat} {i : Int} {M : bM} (hfg : b_fg E) (hc : lw_c kn Ln i) (hi : i + 8 ≤ Ln) (h : b_wp (F_X11_one (xs (i + 1)) (xs (i + 2)) (xs (i + 3)) M) (fun o => b_wp (F_X12_one (xs (i + 1)) (xs (i + 2)) (xs (i + 3)) o.2) (fun o2 => o.1 = o2.1 ∧ lw_hd l E Ln xs (kn.1 + 8, kn.2 + 1600) (i + 8) o2.2))) : VL l E x_law b_full kn 553 [(0, bR 2100), (1, bR 0), (2, bR 11), (3, bI i)] [] M (G_law E Ln xs) := by
  unfold lw_c at hc
  refine v_aload_n (f := 1) 1 rfl dL_law_553 ?_
  refine v_aload_n (f := 0) 0 rfl dL_law_554 ?_
  refine v_iload_n (f := 3) 3 rfl dL_law_555 ?_
  refine v_iconst ⟨by decide, by decide⟩ dL_law_556 ?_
  refine v_iaddN (by unfold b_r32; omega) dL_law_557 ?_
  refine f_sld hc.1 (by omega) dL_law_558 ?_
  refine v_aload_n (f := 0) 0 rfl dL_law_559 ?_
  refine v_iload_n (f := 3) 3 rfl dL_law_560 ?_
  refine v_iconst ⟨by decide, by decide⟩ dL_law_561 ?_
  refine v_iaddN (by unfold b_r32; omega) dL_law_562 ?_
  refine f_sld hc.1 (by omega) dL_law_563 ?_
  refine v_aload_n (f := 0) 0 rfl dL_law_564 ?_
  refine v_iload_n (f := 3) 3 rfl dL_law_565 ?_
  refine v_iconst ⟨by decide, by decide⟩ dL_law_566 ?_
  refine v_iaddN (by unfold b_r32; omega) dL_law_567 ?_
  refine f_sld hc.1 (by omega) dL_law_568 ?_
  refine v_cVI (nA := 3) (As := [bI _, bI _, bI _]) (ix := 52) (cf_X11_one h) rfl kd_0 rfl rfl wc_X11_one wm_BurntHallLaw_52 wi_X11_one ws_X11_one wn_11 ⟨by decide, by decide, by decide⟩ rfl ⟨by decide, by decide⟩ ⟨show kn.1 + 0 ≤ 600000 by omega, show kn.2 + 0 ≤ 7302250 by omega⟩ (Nat.le_of_ble_eq_true rfl) dL_law_569 (fun x1 M1 h => ?_)
  refine v_aload_n (f := 2) 2 rfl dL_law_572 ?_
  refine v_aload_n (f := 0) 0 rfl dL_law_573 ?_
  refine v_iload_n (f := 3) 3 rfl dL_law_574 ?_
  refine v_iconst ⟨by decide, by decide⟩ dL_law_575 ?_
  refine v_iaddN (by unfold b_r32; omega) dL_law_576 ?_
  refine f_sld hc.1 (by omega) dL_law_577 ?_
  refine v_aload_n (f := 0) 0 rfl dL_law_578 ?_
  refine v_iload_n (f := 3) 3 rfl dL_law_579 ?_
  refine v_iconst ⟨by decide, by decide⟩ dL_law_580 ?_
  refine v_iaddN (by unfold b_r32; omega) dL_law_581 ?_
  refine f_sld hc.1 (by omega) dL_law_582 ?_
  refine v_aload_n (f := 0) 0 rfl dL_law_583 ?_
  refine v_iload_n (f := 3) 3 rfl dL_law_584 ?_
  refine v_iconst ⟨by decide, by decide⟩ dL_law_585 ?_
  refine v_iaddN (by unfold b_r32; omega) dL_law_586 ?_
  refine f_sld hc.1 (by omega) dL_law_587 ?_
  refine v_cVI (nA := 3) (As := [bI _, bI _, bI _]) (ix := 56) (cf_X12_one h) rfl kd_11 rfl rfl wc_X12_one wm_BurntHallLaw_56 wi_X12_one ws_X12_one wn_12 ⟨by decide, by decide, by decide⟩ rfl ⟨by decide, by decide⟩ ⟨show kn.1 + 0 + 0 ≤ 600000 by omega, show kn.2 + 0 + 0 ≤ 7302250 by omega⟩ (Nat.le_of_ble_eq_true rfl) dL_law_588 (fun x2 M2 h => ?_)
  obtain ⟨he, h⟩ := h
  refine v_icmp_eq (tgt := 2105) dL_law_591 (by decide) (fun _ => ?_) (fun q => absurd he q)
  refine v_iincN (ls' := [(3, bI _), (0, bR _), (1, bR _), (2, bR _)]) 3 rfl (by decide) (by unfold b_r32; omega) dL_law_2105 rfl ?_
  refine v_goto (tgt := 18) dL_law_2108 (by decide) ?_
  refine v_sub (ls2 := [(0, bR _), (1, bR _), (2, bR _), (3, bI _)]) [1, 2, 3, 0] rfl ?_
  exact v_widen (k2 := (kn.1 + 8, kn.2 + 1600)) ⟨show kn.1 + 0 + 0 ≤ kn.1 + 8 by omega, show kn.2 + 0 + 0 ≤ kn.2 + 1600 by omega⟩ h
theorem law_10 {l : Launch} {E : bE} {Ln : Nat} {xs : Int → Int} {kn : Nat × Nat} {i : Int} {M : bM} (hfg : b_fg E) (hc : lw_c kn Ln i) (hi : i + 8 ≤ Ln) (h : b_wp (F_X11_names (xs (i + 1)) M) (fun o => b_wp (F_X12_names (xs (i + 1)) o.2) (fun o2 => o.1 = o2.1 ∧ lw_hd l E Ln xs (kn.1 + 8, kn.2 + 1600) (i + 8) o2.2))) : VL l E x_law b_full kn 596 [(0, bR 2100), (1, bR 0), (2, bR 11), (3, bI i)] [] M (G_law E Ln xs) := by
  unfold lw_c at hc
  refine v_aload_n (f := 1) 1 rfl dL_law_596 ?_
  refine v_aload_n (f := 0) 0 rfl dL_law_597 ?_
  refine v_iload_n (f := 3) 3 rfl dL_law_598 ?_
  refine v_iconst ⟨by decide, by decide⟩ dL_law_599 ?_
  refine v_iaddN (by unfold b_r32; omega) dL_law_600 ?_
  refine f_sld hc.1 (by omega) dL_law_601 ?_
  refine v_cVI (nA := 1) (As := [bI _]) (ix := 57) (cf_X11_names h) rfl kd_0 rfl rfl wc_X11_names wm_BurntHallLaw_57 wi_X11_names ws_X11_names wn_11 ⟨by decide, by decide, by decide⟩ rfl ⟨by decide, by decide⟩ ⟨show kn.1 + 0 ≤ 600000 by omega, show kn.2 + 0 ≤ 7302250 by omega⟩ (Nat.le_of_ble_eq_true rfl) dL_law_602 (fun x1 M1 h => ?_)
  refine v_aload_n (f := 2) 2 rfl dL_law_605 ?_
  refine v_aload_n (f := 0) 0 rfl dL_law_606 ?_
  refine v_iload_n (f := 3) 3 rfl dL_law_607 ?_
  refine v_iconst ⟨by decide, by decide⟩ dL_law_608 ?_
  refine v_iaddN (by unfold b_r32; omega) dL_law_609 ?_
  refine f_sld hc.1 (by omega) dL_law_610 ?_
  refine v_cVI (nA := 1) (As := [bI _]) (ix := 60) (cf_X12_names h) rfl kd_11 rfl rfl wc_X12_names wm_BurntHallLaw_60 wi_X12_names ws_X12_names wn_12 ⟨by decide, by decide, by decide⟩ rfl ⟨by decide, by decide⟩ ⟨show kn.1 + 0 + 0 ≤ 600000 by omega, show kn.2 + 0 + 0 ≤ 7302250 by omega⟩ (Nat.le_of_ble_eq_true rfl) dL_law_611 (fun x2 M2 h => ?_)
  obtain ⟨he, h⟩ := h
  refine v_icmp_eq (tgt := 2105) dL_law_614 (by decide) (fun _ => ?_) (fun q => absurd he q)
  refine v_iincN (ls' := [(3, bI _), (0, bR _), (1, bR _), (2, bR _)]) 3 rfl (by decide) (by unfold b_r32; omega) dL_law_2105 rfl ?_
  refine v_goto (tgt := 18) dL_law_2108 (by decide) ?_
  refine v_sub (ls2 := [(0, bR _), (1, bR _), (2, bR _), (3, bI _)]) [1, 2, 3, 0] rfl ?_
  exact v_widen (k2 := (kn.1 + 8, kn.2 + 1600)) ⟨show kn.1 + 0 + 0 ≤ kn.1 + 8 by omega, show kn.2 + 0 + 0 ≤ kn.2 + 1600 by omega⟩ h
theorem law_11 {l : Launch} {E : bE} {Ln : Nat} {xs : Int → Int} {kn : Nat × Nat} {i : Int} {M : bM} (hfg : b_fg E) (hc : lw_c kn Ln i) (hi : i + 8 ≤ Ln) (h : b_wp (F_X11_lot (xs (i + 1)) (xs (i + 2)) M) (fun o => b_wp (F_X12_lot (xs (i + 1)) (xs (i + 2)) o.2) (fun o2 => o.1 = o2.1 ∧ lw_hd l E Ln xs (kn.1 + 8, kn.2 + 1600) (i + 8) o2.2))) : VL l E x_law b_full kn 619 [(0, bR 2100), (1, bR 0), (2, bR 11), (3, bI i)] [] M (G_law E Ln xs) := by
  unfold lw_c at hc
  refine v_aload_n (f := 1) 1 rfl dL_law_619 ?_
  refine v_aload_n (f := 0) 0 rfl dL_law_620 ?_
  refine v_iload_n (f := 3) 3 rfl dL_law_621 ?_
  refine v_iconst ⟨by decide, by decide⟩ dL_law_622 ?_
  refine v_iaddN (by unfold b_r32; omega) dL_law_623 ?_
  refine f_sld hc.1 (by omega) dL_law_624 ?_
  refine v_aload_n (f := 0) 0 rfl dL_law_625 ?_
  refine v_iload_n (f := 3) 3 rfl dL_law_626 ?_
  refine v_iconst ⟨by decide, by decide⟩ dL_law_627 ?_
  refine v_iaddN (by unfold b_r32; omega) dL_law_628 ?_
  refine f_sld hc.1 (by omega) dL_law_629 ?_
  refine v_cVI (nA := 2) (As := [bI _, bI _]) (ix := 61) (cf_X11_lot h) rfl kd_0 rfl rfl wc_X11_lot wm_BurntHallLaw_61 wi_X11_lot ws_X11_lot wn_11 ⟨by decide, by decide, by decide⟩ rfl ⟨by decide, by decide⟩ ⟨show kn.1 + 0 ≤ 600000 by omega, show kn.2 + 0 ≤ 7302250 by omega⟩ (Nat.le_of_ble_eq_true rfl) dL_law_630 (fun x1 M1 h => ?_)
  refine v_aload_n (f := 2) 2 rfl dL_law_633 ?_
  refine v_aload_n (f := 0) 0 rfl dL_law_634 ?_
  refine v_iload_n (f := 3) 3 rfl dL_law_635 ?_
  refine v_iconst ⟨by decide, by decide⟩ dL_law_636 ?_
  refine v_iaddN (by unfold b_r32; omega) dL_law_637 ?_
  refine f_sld hc.1 (by omega) dL_law_638 ?_
  refine v_aload_n (f := 0) 0 rfl dL_law_639 ?_
  refine v_iload_n (f := 3) 3 rfl dL_law_640 ?_
  refine v_iconst ⟨by decide, by decide⟩ dL_law_641 ?_
  refine v_iaddN (by unfold b_r32; omega) dL_law_642 ?_
  refine f_sld hc.1 (by omega) dL_law_643 ?_
  refine v_cVI (nA := 2) (As := [bI _, bI _]) (ix := 64) (cf_X12_lot h) rfl kd_11 rfl rfl wc_X12_lot wm_BurntHallLaw_64 wi_X12_lot ws_X12_lot wn_12 ⟨by decide, by decide, by decide⟩ rfl ⟨by decide, by decide⟩ ⟨show kn.1 + 0 + 0 ≤ 600000 by omega, show kn.2 + 0 + 0 ≤ 7302250 by omega⟩ (Nat.le_of_ble_eq_true rfl) dL_law_644 (fun x2 M2 h => ?_)
  obtain ⟨he, h⟩ := h
  refine v_icmp_eq (tgt := 2105) dL_law_647 (by decide) (fun _ => ?_) (fun q => absurd he q)
  refine v_iincN (ls' := [(3, bI _), (0, bR _), (1, bR _), (2, bR _)]) 3 rfl (by decide) (by unfold b_r32; omega) dL_law_2105 rfl ?_
  refine v_goto (tgt := 18) dL_law_2108 (by decide) ?_
  refine v_sub (ls2 := [(0, bR _), (1, bR _), (2, bR _), (3, bI _)]) [1, 2, 3, 0] rfl ?_
  exact v_widen (k2 := (kn.1 + 8, kn.2 + 1600)) ⟨show kn.1 + 0 + 0 ≤ kn.1 + 8 by omega, show kn.2 + 0 + 0 ≤ kn.2 + 1600 by omega⟩ h
theorem law_12 {l : Launch} {E : bE} {Ln : Nat} {xs : Int → Int} {kn : Nat × Nat} {i : Int} {M : bM} (hfg : b_fg E) (hc : lw_c kn Ln i) (hi : i + 8 ≤ Ln) (h : b_wp (F_X11_split (xs (i + 1)) (xs (i + 2)) (xs (i + 3)) (xs (i + 4)) (xs (i + 5)) (xs (i + 6)) (xs (i + 7)) M) (fun o => b_wp (F_X12_split (xs (i + 1)) (xs (i + 2)) (xs (i + 3)) (xs (i + 4)) (xs (i + 5)) (xs (i + 6)) (xs (i + 7)) o.2) (fun o2 => o.1 = o2.1 ∧ lw_hd l E Ln xs (kn.1 + 8, kn.2 + 1600) (i + 8) o2.2))) : VL l E x_law b_full kn 652 [(0, bR 2100), (1, bR 0), (2, bR 11), (3, bI i)] [] M (G_law E Ln xs) := by
  unfold lw_c at hc
  refine v_aload_n (f := 1) 1 rfl dL_law_652 ?_
  refine v_aload_n (f := 0) 0 rfl dL_law_653 ?_
  refine v_iload_n (f := 3) 3 rfl dL_law_654 ?_
  refine v_iconst ⟨by decide, by decide⟩ dL_law_655 ?_
  refine v_iaddN (by unfold b_r32; omega) dL_law_656 ?_
  refine f_sld hc.1 (by omega) dL_law_657 ?_
  refine v_aload_n (f := 0) 0 rfl dL_law_658 ?_
  refine v_iload_n (f := 3) 3 rfl dL_law_659 ?_
  refine v_iconst ⟨by decide, by decide⟩ dL_law_660 ?_
  refine v_iaddN (by unfold b_r32; omega) dL_law_661 ?_
  refine f_sld hc.1 (by omega) dL_law_662 ?_
  refine v_aload_n (f := 0) 0 rfl dL_law_663 ?_
  refine v_iload_n (f := 3) 3 rfl dL_law_664 ?_
  refine v_iconst ⟨by decide, by decide⟩ dL_law_665 ?_
  refine v_iaddN (by unfold b_r32; omega) dL_law_666 ?_
  refine f_sld hc.1 (by omega) dL_law_667 ?_
  refine v_aload_n (f := 0) 0 rfl dL_law_668 ?_
  refine v_iload_n (f := 3) 3 rfl dL_law_669 ?_
  refine v_iconst ⟨by decide, by decide⟩ dL_law_670 ?_
  refine v_iaddN (by unfold b_r32; omega) dL_law_671 ?_
  refine f_sld hc.1 (by omega) dL_law_672 ?_
  refine v_aload_n (f := 0) 0 rfl dL_law_673 ?_
  refine v_iload_n (f := 3) 3 rfl dL_law_674 ?_
  refine v_iconst ⟨by decide, by decide⟩ dL_law_675 ?_
  refine v_iaddN (by unfold b_r32; omega) dL_law_676 ?_
  refine f_sld hc.1 (by omega) dL_law_677 ?_
  refine v_aload_n (f := 0) 0 rfl dL_law_678 ?_
  refine v_iload_n (f := 3) 3 rfl dL_law_679 ?_
  refine v_bipush ⟨by decide, by decide⟩ (by decide) dL_law_680 ?_
  refine v_iaddN (by unfold b_r32; omega) dL_law_682 ?_
  refine f_sld hc.1 (by omega) dL_law_683 ?_
  refine v_aload_n (f := 0) 0 rfl dL_law_684 ?_
  refine v_iload_n (f := 3) 3 rfl dL_law_685 ?_
  refine v_bipush ⟨by decide, by decide⟩ (by decide) dL_law_686 ?_
  refine v_iaddN (by unfold b_r32; omega) dL_law_688 ?_
  refine f_sld hc.1 (by omega) dL_law_689 ?_
  refine v_cVI (nA := 7) (As := [bI _, bI _, bI _, bI _, bI _, bI _, bI _]) (ix := 65) (cf_X11_split h) rfl kd_0 rfl rfl wc_X11_split wm_BurntHallLaw_65 wi_X11_split ws_X11_split wn_11 ⟨by decide, by decide, by decide⟩ rfl ⟨by decide, by decide⟩ ⟨show kn.1 + 0 ≤ 600000 by omega, show kn.2 + 0 ≤ 7302250 by omega⟩ (Nat.le_of_ble_eq_true rfl) dL_law_690 (fun x1 M1 h => ?_)
  refine v_aload_n (f := 2) 2 rfl dL_law_693 ?_
  refine v_aload_n (f := 0) 0 rfl dL_law_694 ?_
  refine v_iload_n (f := 3) 3 rfl dL_law_695 ?_
  refine v_iconst ⟨by decide, by decide⟩ dL_law_696 ?_
  refine v_iaddN (by unfold b_r32; omega) dL_law_697 ?_
  refine f_sld hc.1 (by omega) dL_law_698 ?_
  refine v_aload_n (f := 0) 0 rfl dL_law_699 ?_
  refine v_iload_n (f := 3) 3 rfl dL_law_700 ?_
  refine v_iconst ⟨by decide, by decide⟩ dL_law_701 ?_
  refine v_iaddN (by unfold b_r32; omega) dL_law_702 ?_
  refine f_sld hc.1 (by omega) dL_law_703 ?_
  refine v_aload_n (f := 0) 0 rfl dL_law_704 ?_
  refine v_iload_n (f := 3) 3 rfl dL_law_705 ?_
  refine v_iconst ⟨by decide, by decide⟩ dL_law_706 ?_
  refine v_iaddN (by unfold b_r32; omega) dL_law_707 ?_
  refine f_sld hc.1 (by omega) dL_law_708 ?_
  refine v_aload_n (f := 0) 0 rfl dL_law_709 ?_
  refine v_iload_n (f := 3) 3 rfl dL_law_710 ?_
  refine v_iconst ⟨by decide, by decide⟩ dL_law_711 ?_
  refine v_iaddN (by unfold b_r32; omega) dL_law_712 ?_
  refine f_sld hc.1 (by omega) dL_law_713 ?_
  refine v_aload_n (f := 0) 0 rfl dL_law_714 ?_
  refine v_iload_n (f := 3) 3 rfl dL_law_715 ?_
  refine v_iconst ⟨by decide, by decide⟩ dL_law_716 ?_
  refine v_iaddN (by unfold b_r32; omega) dL_law_717 ?_
  refine f_sld hc.1 (by omega) dL_law_718 ?_
  refine v_aload_n (f := 0) 0 rfl dL_law_719 ?_
  refine v_iload_n (f := 3) 3 rfl dL_law_720 ?_
  refine v_bipush ⟨by decide, by decide⟩ (by decide) dL_law_721 ?_
  refine v_iaddN (by unfold b_r32; omega) dL_law_723 ?_
  refine f_sld hc.1 (by omega) dL_law_724 ?_
  refine v_aload_n (f := 0) 0 rfl dL_law_725 ?_
  refine v_iload_n (f := 3) 3 rfl dL_law_726 ?_
  refine v_bipush ⟨by decide, by decide⟩ (by decide) dL_law_727 ?_
  refine v_iaddN (by unfold b_r32; omega) dL_law_729 ?_
  refine f_sld hc.1 (by omega) dL_law_730 ?_
  refine v_cVI (nA := 7) (As := [bI _, bI _, bI _, bI _, bI _, bI _, bI _]) (ix := 69) (cf_X12_split h) rfl kd_11 rfl rfl wc_X12_split wm_BurntHallLaw_69 wi_X12_split ws_X12_split wn_12 ⟨by decide, by decide, by decide⟩ rfl ⟨by decide, by decide⟩ ⟨show kn.1 + 0 + 0 ≤ 600000 by omega, show kn.2 + 0 + 0 ≤ 7302250 by omega⟩ (Nat.le_of_ble_eq_true rfl) dL_law_731 (fun x2 M2 h => ?_)
  obtain ⟨he, h⟩ := h
  refine v_icmp_eq (tgt := 2105) dL_law_734 (by decide) (fun _ => ?_) (fun q => absurd he q)
  refine v_iincN (ls' := [(3, bI _), (0, bR _), (1, bR _), (2, bR _)]) 3 rfl (by decide) (by unfold b_r32; omega) dL_law_2105 rfl ?_
  refine v_goto (tgt := 18) dL_law_2108 (by decide) ?_
  refine v_sub (ls2 := [(0, bR _), (1, bR _), (2, bR _), (3, bI _)]) [1, 2, 3, 0] rfl ?_
  exact v_widen (k2 := (kn.1 + 8, kn.2 + 1600)) ⟨show kn.1 + 0 + 0 ≤ kn.1 + 8 by omega, show kn.2 + 0 + 0 ≤ kn.2 + 1600 by omega⟩ h
theorem law_13 {l : Launch} {E : bE} {Ln : Nat} {xs : Int → Int} {kn : Nat × Nat} {i : Int} {M : bM} (hfg : b_fg E) (hc : lw_c kn Ln i) (hi : i + 8 ≤ Ln) (h : b_wp (F_X11_join (xs (i + 1)) (xs (i + 2)) (xs (i + 3)) (xs (i + 4)) (xs (i + 5)) (xs (i + 6)) (xs (i + 7)) M) (fun o => b_wp (F_X12_join (xs (i + 1)) (xs (i + 2)) (xs (i + 3)) (xs (i + 4)) (xs (i + 5)) (xs (i + 6)) (xs (i + 7)) o.2) (fun o2 => o.1 = o2.1 ∧ lw_hd l E Ln xs (kn.1 + 8, kn.2 + 1600) (i + 8) o2.2))) : VL l E x_law b_full kn 739 [(0, bR 2100), (1, bR 0), (2, bR 11), (3, bI i)] [] M (G_law E Ln xs) := by
  unfold lw_c at hc
  refine v_aload_n (f := 1) 1 rfl dL_law_739 ?_
  refine v_aload_n (f := 0) 0 rfl dL_law_740 ?_
  refine v_iload_n (f := 3) 3 rfl dL_law_741 ?_
  refine v_iconst ⟨by decide, by decide⟩ dL_law_742 ?_
  refine v_iaddN (by unfold b_r32; omega) dL_law_743 ?_
  refine f_sld hc.1 (by omega) dL_law_744 ?_
  refine v_aload_n (f := 0) 0 rfl dL_law_745 ?_
  refine v_iload_n (f := 3) 3 rfl dL_law_746 ?_
  refine v_iconst ⟨by decide, by decide⟩ dL_law_747 ?_
  refine v_iaddN (by unfold b_r32; omega) dL_law_748 ?_
  refine f_sld hc.1 (by omega) dL_law_749 ?_
  refine v_aload_n (f := 0) 0 rfl dL_law_750 ?_
  refine v_iload_n (f := 3) 3 rfl dL_law_751 ?_
  refine v_iconst ⟨by decide, by decide⟩ dL_law_752 ?_
  refine v_iaddN (by unfold b_r32; omega) dL_law_753 ?_
  refine f_sld hc.1 (by omega) dL_law_754 ?_
  refine v_aload_n (f := 0) 0 rfl dL_law_755 ?_
  refine v_iload_n (f := 3) 3 rfl dL_law_756 ?_
  refine v_iconst ⟨by decide, by decide⟩ dL_law_757 ?_
  refine v_iaddN (by unfold b_r32; omega) dL_law_758 ?_
  refine f_sld hc.1 (by omega) dL_law_759 ?_
  refine v_aload_n (f := 0) 0 rfl dL_law_760 ?_
  refine v_iload_n (f := 3) 3 rfl dL_law_761 ?_
  refine v_iconst ⟨by decide, by decide⟩ dL_law_762 ?_
  refine v_iaddN (by unfold b_r32; omega) dL_law_763 ?_
  refine f_sld hc.1 (by omega) dL_law_764 ?_
  refine v_aload_n (f := 0) 0 rfl dL_law_765 ?_
  refine v_iload_n (f := 3) 3 rfl dL_law_766 ?_
  refine v_bipush ⟨by decide, by decide⟩ (by decide) dL_law_767 ?_
  refine v_iaddN (by unfold b_r32; omega) dL_law_769 ?_
  refine f_sld hc.1 (by omega) dL_law_770 ?_
  refine v_aload_n (f := 0) 0 rfl dL_law_771 ?_
  refine v_iload_n (f := 3) 3 rfl dL_law_772 ?_
  refine v_bipush ⟨by decide, by decide⟩ (by decide) dL_law_773 ?_
  refine v_iaddN (by unfold b_r32; omega) dL_law_775 ?_
  refine f_sld hc.1 (by omega) dL_law_776 ?_
  refine v_cVI (nA := 7) (As := [bI _, bI _, bI _, bI _, bI _, bI _, bI _]) (ix := 70) (cf_X11_join h) rfl kd_0 rfl rfl wc_X11_join wm_BurntHallLaw_70 wi_X11_join ws_X11_join wn_11 ⟨by decide, by decide, by decide⟩ rfl ⟨by decide, by decide⟩ ⟨show kn.1 + 0 ≤ 600000 by omega, show kn.2 + 0 ≤ 7302250 by omega⟩ (Nat.le_of_ble_eq_true rfl) dL_law_777 (fun x1 M1 h => ?_)
  refine v_aload_n (f := 2) 2 rfl dL_law_780 ?_
  refine v_aload_n (f := 0) 0 rfl dL_law_781 ?_
  refine v_iload_n (f := 3) 3 rfl dL_law_782 ?_
  refine v_iconst ⟨by decide, by decide⟩ dL_law_783 ?_
  refine v_iaddN (by unfold b_r32; omega) dL_law_784 ?_
  refine f_sld hc.1 (by omega) dL_law_785 ?_
  refine v_aload_n (f := 0) 0 rfl dL_law_786 ?_
  refine v_iload_n (f := 3) 3 rfl dL_law_787 ?_
  refine v_iconst ⟨by decide, by decide⟩ dL_law_788 ?_
  refine v_iaddN (by unfold b_r32; omega) dL_law_789 ?_
  refine f_sld hc.1 (by omega) dL_law_790 ?_
  refine v_aload_n (f := 0) 0 rfl dL_law_791 ?_
  refine v_iload_n (f := 3) 3 rfl dL_law_792 ?_
  refine v_iconst ⟨by decide, by decide⟩ dL_law_793 ?_
  refine v_iaddN (by unfold b_r32; omega) dL_law_794 ?_
  refine f_sld hc.1 (by omega) dL_law_795 ?_
  refine v_aload_n (f := 0) 0 rfl dL_law_796 ?_
  refine v_iload_n (f := 3) 3 rfl dL_law_797 ?_
  refine v_iconst ⟨by decide, by decide⟩ dL_law_798 ?_
  refine v_iaddN (by unfold b_r32; omega) dL_law_799 ?_
  refine f_sld hc.1 (by omega) dL_law_800 ?_
  refine v_aload_n (f := 0) 0 rfl dL_law_801 ?_
  refine v_iload_n (f := 3) 3 rfl dL_law_802 ?_
  refine v_iconst ⟨by decide, by decide⟩ dL_law_803 ?_
  refine v_iaddN (by unfold b_r32; omega) dL_law_804 ?_
  refine f_sld hc.1 (by omega) dL_law_805 ?_
  refine v_aload_n (f := 0) 0 rfl dL_law_806 ?_
  refine v_iload_n (f := 3) 3 rfl dL_law_807 ?_
  refine v_bipush ⟨by decide, by decide⟩ (by decide) dL_law_808 ?_
  refine v_iaddN (by unfold b_r32; omega) dL_law_810 ?_
  refine f_sld hc.1 (by omega) dL_law_811 ?_
  refine v_aload_n (f := 0) 0 rfl dL_law_812 ?_
  refine v_iload_n (f := 3) 3 rfl dL_law_813 ?_
  refine v_bipush ⟨by decide, by decide⟩ (by decide) dL_law_814 ?_
  refine v_iaddN (by unfold b_r32; omega) dL_law_816 ?_
  refine f_sld hc.1 (by omega) dL_law_817 ?_
  refine v_cVI (nA := 7) (As := [bI _, bI _, bI _, bI _, bI _, bI _, bI _]) (ix := 73) (cf_X12_join h) rfl kd_11 rfl rfl wc_X12_join wm_BurntHallLaw_73 wi_X12_join ws_X12_join wn_12 ⟨by decide, by decide, by decide⟩ rfl ⟨by decide, by decide⟩ ⟨show kn.1 + 0 + 0 ≤ 600000 by omega, show kn.2 + 0 + 0 ≤ 7302250 by omega⟩ (Nat.le_of_ble_eq_true rfl) dL_law_818 (fun x2 M2 h => ?_)
  obtain ⟨he, h⟩ := h
  refine v_icmp_eq (tgt := 2105) dL_law_821 (by decide) (fun _ => ?_) (fun q => absurd he q)
  refine v_iincN (ls' := [(3, bI _), (0, bR _), (1, bR _), (2, bR _)]) 3 rfl (by decide) (by unfold b_r32; omega) dL_law_2105 rfl ?_
  refine v_goto (tgt := 18) dL_law_2108 (by decide) ?_
  refine v_sub (ls2 := [(0, bR _), (1, bR _), (2, bR _), (3, bI _)]) [1, 2, 3, 0] rfl ?_
  exact v_widen (k2 := (kn.1 + 8, kn.2 + 1600)) ⟨show kn.1 + 0 + 0 ≤ kn.1 + 8 by omega, show kn.2 + 0 + 0 ≤ kn.2 + 1600 by omega⟩ h
theorem law_14 {l : Launch} {E : bE} {Ln : Nat} {xs : Int → Int} {kn : Nat × Nat} {i : Int} {M : bM} (hfg : b_fg E) (hc : lw_c kn Ln i) (hi : i + 8 ≤ Ln) (h : b_wp (F_X11_about (xs (i + 1)) (xs (i + 2)) M) (fun o => b_wp (F_X12_about (xs (i + 1)) (xs (i + 2)) M) (fun o2 => o = o2 ∧ lw_hd l E Ln xs (kn.1 + 8, kn.2 + 1600) (i + 8) M))) : VL l E x_law b_full kn 826 [(0, bR 2100), (1, bR 0), (2, bR 11), (3, bI i)] [] M (G_law E Ln xs) := by
  unfold lw_c at hc
  refine v_aload_n (f := 1) 1 rfl dL_law_826 ?_
  refine v_aload_n (f := 0) 0 rfl dL_law_827 ?_
  refine v_iload_n (f := 3) 3 rfl dL_law_828 ?_
  refine v_iconst ⟨by decide, by decide⟩ dL_law_829 ?_
  refine v_iaddN (by unfold b_r32; omega) dL_law_830 ?_
  refine f_sld hc.1 (by omega) dL_law_831 ?_
  refine v_aload_n (f := 0) 0 rfl dL_law_832 ?_
  refine v_iload_n (f := 3) 3 rfl dL_law_833 ?_
  refine v_iconst ⟨by decide, by decide⟩ dL_law_834 ?_
  refine v_iaddN (by unfold b_r32; omega) dL_law_835 ?_
  refine f_sld hc.1 (by omega) dL_law_836 ?_
  refine v_cVIp (nA := 2) (As := [bI _, bI _]) (ix := 74) (cf_X11_about h) rfl kd_0 rfl rfl wc_X11_about wm_BurntHallLaw_74 wi_X11_about ws_X11_about wn_11 ⟨by decide, by decide, by decide⟩ rfl ⟨by decide, by decide⟩ ⟨show kn.1 + 0 ≤ 600000 by omega, show kn.2 + 0 ≤ 7302250 by omega⟩ (Nat.le_of_ble_eq_true rfl) dL_law_837 (fun x1 h => ?_)
  refine v_aload_n (f := 2) 2 rfl dL_law_840 ?_
  refine v_aload_n (f := 0) 0 rfl dL_law_841 ?_
  refine v_iload_n (f := 3) 3 rfl dL_law_842 ?_
  refine v_iconst ⟨by decide, by decide⟩ dL_law_843 ?_
  refine v_iaddN (by unfold b_r32; omega) dL_law_844 ?_
  refine f_sld hc.1 (by omega) dL_law_845 ?_
  refine v_aload_n (f := 0) 0 rfl dL_law_846 ?_
  refine v_iload_n (f := 3) 3 rfl dL_law_847 ?_
  refine v_iconst ⟨by decide, by decide⟩ dL_law_848 ?_
  refine v_iaddN (by unfold b_r32; omega) dL_law_849 ?_
  refine f_sld hc.1 (by omega) dL_law_850 ?_
  refine v_cVIp (nA := 2) (As := [bI _, bI _]) (ix := 77) (cf_X12_about h) rfl kd_11 rfl rfl wc_X12_about wm_BurntHallLaw_77 wi_X12_about ws_X12_about wn_12 ⟨by decide, by decide, by decide⟩ rfl ⟨by decide, by decide⟩ ⟨show kn.1 + 0 + 0 ≤ 600000 by omega, show kn.2 + 0 + 0 ≤ 7302250 by omega⟩ (Nat.le_of_ble_eq_true rfl) dL_law_851 (fun x2 h => ?_)
  obtain ⟨he, h⟩ := h
  refine v_icmp_eq (tgt := 2105) dL_law_854 (by decide) (fun _ => ?_) (fun q => absurd he q)
  refine v_iincN (ls' := [(3, bI _), (0, bR _), (1, bR _), (2, bR _)]) 3 rfl (by decide) (by unfold b_r32; omega) dL_law_2105 rfl ?_
  refine v_goto (tgt := 18) dL_law_2108 (by decide) ?_
  refine v_sub (ls2 := [(0, bR _), (1, bR _), (2, bR _), (3, bI _)]) [1, 2, 3, 0] rfl ?_
  exact v_widen (k2 := (kn.1 + 8, kn.2 + 1600)) ⟨show kn.1 + 0 + 0 ≤ kn.1 + 8 by omega, show kn.2 + 0 + 0 ≤ kn.2 + 1600 by omega⟩ h
theorem law_15 {l : Launch} {E : bE} {Ln : Nat} {xs : Int → Int} {kn : Nat × Nat} {i : Int} {M : bM} (hfg : b_fg E) (hc : lw_c kn Ln i) (hi : i + 8 ≤ Ln) (h : b_wp (F_X11_line (xs (i + 1)) M) (fun o => b_wp (F_X12_line (xs (i + 1)) M) (fun o2 => o = o2 ∧ lw_hd l E Ln xs (kn.1 + 8, kn.2 + 1600) (i + 8) M))) : VL l E x_law b_full kn 859 [(0, bR 2100), (1, bR 0), (2, bR 11), (3, bI i)] [] M (G_law E Ln xs) := by
  unfold lw_c at hc
  refine v_aload_n (f := 1) 1 rfl dL_law_859 ?_
  refine v_aload_n (f := 0) 0 rfl dL_law_860 ?_
  refine v_iload_n (f := 3) 3 rfl dL_law_861 ?_
  refine v_iconst ⟨by decide, by decide⟩ dL_law_862 ?_
  refine v_iaddN (by unfold b_r32; omega) dL_law_863 ?_
  refine f_sld hc.1 (by omega) dL_law_864 ?_
  refine v_cVJp (nA := 1) (As := [bI _]) (ix := 78) (cf_X11_line h) rfl kd_0 rfl rfl wc_X11_line wm_BurntHallLaw_78 wi_X11_line ws_X11_line wn_11 ⟨by decide, by decide, by decide⟩ rfl ⟨by decide, by decide⟩ ⟨show kn.1 + 0 ≤ 600000 by omega, show kn.2 + 0 ≤ 7302250 by omega⟩ (Nat.le_of_ble_eq_true rfl) dL_law_865 (fun x1 h => ?_)
  refine v_aload_n (f := 2) 2 rfl dL_law_868 ?_
  refine v_aload_n (f := 0) 0 rfl dL_law_869 ?_
  refine v_iload_n (f := 3) 3 rfl dL_law_870 ?_
  refine v_iconst ⟨by decide, by decide⟩ dL_law_871 ?_
  refine v_iaddN (by unfold b_r32; omega) dL_law_872 ?_
  refine f_sld hc.1 (by omega) dL_law_873 ?_
  refine v_cVJp (nA := 1) (As := [bI _]) (ix := 82) (cf_X12_line h) rfl kd_11 rfl rfl wc_X12_line wm_BurntHallLaw_82 wi_X12_line ws_X12_line wn_12 ⟨by decide, by decide, by decide⟩ rfl ⟨by decide, by decide⟩ ⟨show kn.1 + 0 + 0 ≤ 600000 by omega, show kn.2 + 0 + 0 ≤ 7302250 by omega⟩ (Nat.le_of_ble_eq_true rfl) dL_law_874 (fun x2 h => ?_)
  refine v_lcmpN dL_law_877 ?_
  obtain ⟨he, h⟩ := h
  refine v_if_eq (tgt := 2105) dL_law_878 (by decide) (fun _ => ?_) (fun q => absurd (by rw [he]; unfold j_cmp; simp) q)
  refine v_iincN (ls' := [(3, bI _), (0, bR _), (1, bR _), (2, bR _)]) 3 rfl (by decide) (by unfold b_r32; omega) dL_law_2105 rfl ?_
  refine v_goto (tgt := 18) dL_law_2108 (by decide) ?_
  refine v_sub (ls2 := [(0, bR _), (1, bR _), (2, bR _), (3, bI _)]) [1, 2, 3, 0] rfl ?_
  exact v_widen (k2 := (kn.1 + 8, kn.2 + 1600)) ⟨show kn.1 + 0 + 0 ≤ kn.1 + 8 by omega, show kn.2 + 0 + 0 ≤ kn.2 + 1600 by omega⟩ h
theorem law_16 {l : Launch} {E : bE} {Ln : Nat} {xs : Int → Int} {kn : Nat × Nat} {i : Int} {M : bM} (hfg : b_fg E) (hc : lw_c kn Ln i) (hi : i + 8 ≤ Ln) (h : b_wp (F_X11_bounds (xs (i + 1)) (xs (i + 2)) (xs (i + 3)) M) (fun o => b_wp (F_X12_bounds (xs (i + 1)) (xs (i + 2)) (xs (i + 3)) o.2) (fun o2 => o.1 = o2.1 ∧ lw_hd l E Ln xs (kn.1 + 8, kn.2 + 1600) (i + 8) o2.2))) : VL l E x_law b_full kn 883 [(0, bR 2100), (1, bR 0), (2, bR 11), (3, bI i)] [] M (G_law E Ln xs) := by
  unfold lw_c at hc
  refine v_aload_n (f := 1) 1 rfl dL_law_883 ?_
  refine v_aload_n (f := 0) 0 rfl dL_law_884 ?_
  refine v_iload_n (f := 3) 3 rfl dL_law_885 ?_
  refine v_iconst ⟨by decide, by decide⟩ dL_law_886 ?_
  refine v_iaddN (by unfold b_r32; omega) dL_law_887 ?_
  refine f_sld hc.1 (by omega) dL_law_888 ?_
  refine v_aload_n (f := 0) 0 rfl dL_law_889 ?_
  refine v_iload_n (f := 3) 3 rfl dL_law_890 ?_
  refine v_iconst ⟨by decide, by decide⟩ dL_law_891 ?_
  refine v_iaddN (by unfold b_r32; omega) dL_law_892 ?_
  refine f_sld hc.1 (by omega) dL_law_893 ?_
  refine v_aload_n (f := 0) 0 rfl dL_law_894 ?_
  refine v_iload_n (f := 3) 3 rfl dL_law_895 ?_
  refine v_iconst ⟨by decide, by decide⟩ dL_law_896 ?_
  refine v_iaddN (by unfold b_r32; omega) dL_law_897 ?_
  refine f_sld hc.1 (by omega) dL_law_898 ?_
  refine v_cVI (nA := 3) (As := [bI _, bI _, bI _]) (ix := 83) (cf_X11_bounds h) rfl kd_0 rfl rfl wc_X11_bounds wm_BurntHallLaw_83 wi_X11_bounds ws_X11_bounds wn_11 ⟨by decide, by decide, by decide⟩ rfl ⟨by decide, by decide⟩ ⟨show kn.1 + 0 ≤ 600000 by omega, show kn.2 + 0 ≤ 7302250 by omega⟩ (Nat.le_of_ble_eq_true rfl) dL_law_899 (fun x1 M1 h => ?_)
  refine v_aload_n (f := 2) 2 rfl dL_law_902 ?_
  refine v_aload_n (f := 0) 0 rfl dL_law_903 ?_
  refine v_iload_n (f := 3) 3 rfl dL_law_904 ?_
  refine v_iconst ⟨by decide, by decide⟩ dL_law_905 ?_
  refine v_iaddN (by unfold b_r32; omega) dL_law_906 ?_
  refine f_sld hc.1 (by omega) dL_law_907 ?_
  refine v_aload_n (f := 0) 0 rfl dL_law_908 ?_
  refine v_iload_n (f := 3) 3 rfl dL_law_909 ?_
  refine v_iconst ⟨by decide, by decide⟩ dL_law_910 ?_
  refine v_iaddN (by unfold b_r32; omega) dL_law_911 ?_
  refine f_sld hc.1 (by omega) dL_law_912 ?_
  refine v_aload_n (f := 0) 0 rfl dL_law_913 ?_
  refine v_iload_n (f := 3) 3 rfl dL_law_914 ?_
  refine v_iconst ⟨by decide, by decide⟩ dL_law_915 ?_
  refine v_iaddN (by unfold b_r32; omega) dL_law_916 ?_
  refine f_sld hc.1 (by omega) dL_law_917 ?_
  refine v_cVI (nA := 3) (As := [bI _, bI _, bI _]) (ix := 86) (cf_X12_bounds hfg h) rfl kd_11 rfl rfl wc_X12_bounds wm_BurntHallLaw_86 wi_X12_bounds ws_X12_bounds wn_12 ⟨by decide, by decide, by decide⟩ rfl ⟨by decide, by decide⟩ ⟨show kn.1 + 0 + 0 ≤ 600000 by omega, show kn.2 + 0 + 0 ≤ 7302250 by omega⟩ (Nat.le_of_ble_eq_true rfl) dL_law_918 (fun x2 M2 h => ?_)
  obtain ⟨he, h⟩ := h
  refine v_icmp_eq (tgt := 2105) dL_law_921 (by decide) (fun _ => ?_) (fun q => absurd he q)
  refine v_iincN (ls' := [(3, bI _), (0, bR _), (1, bR _), (2, bR _)]) 3 rfl (by decide) (by unfold b_r32; omega) dL_law_2105 rfl ?_
  refine v_goto (tgt := 18) dL_law_2108 (by decide) ?_
  refine v_sub (ls2 := [(0, bR _), (1, bR _), (2, bR _), (3, bI _)]) [1, 2, 3, 0] rfl ?_
  exact v_widen (k2 := (kn.1 + 8, kn.2 + 1600)) ⟨show kn.1 + 0 + 0 ≤ kn.1 + 8 by omega, show kn.2 + 0 + 0 ≤ kn.2 + 1600 by omega⟩ h
theorem law_17 {l : Launch} {E : bE} {Ln : Nat} {xs : Int → Int} {kn : Nat × Nat} {i : Int} {M : bM} (hfg : b_fg E) (hc : lw_c kn Ln i) (hi : i + 8 ≤ Ln) (h : b_wp (F_X11_error (xs (i + 1)) M) (fun o => b_wp (F_X12_error (xs (i + 1)) M) (fun o2 => o = o2 ∧ lw_hd l E Ln xs (kn.1 + 8, kn.2 + 1600) (i + 8) M))) : VL l E x_law b_full kn 926 [(0, bR 2100), (1, bR 0), (2, bR 11), (3, bI i)] [] M (G_law E Ln xs) := by
  unfold lw_c at hc
  refine v_aload_n (f := 1) 1 rfl dL_law_926 ?_
  refine v_aload_n (f := 0) 0 rfl dL_law_927 ?_
  refine v_iload_n (f := 3) 3 rfl dL_law_928 ?_
  refine v_iconst ⟨by decide, by decide⟩ dL_law_929 ?_
  refine v_iaddN (by unfold b_r32; omega) dL_law_930 ?_
  refine f_sld hc.1 (by omega) dL_law_931 ?_
  refine v_cVIp (nA := 1) (As := [bI _]) (ix := 87) (cf_X11_error h) rfl kd_0 rfl rfl wc_X11_error wm_BurntHallLaw_87 wi_X11_error ws_X11_error wn_11 ⟨by decide, by decide, by decide⟩ rfl ⟨by decide, by decide⟩ ⟨show kn.1 + 0 ≤ 600000 by omega, show kn.2 + 0 ≤ 7302250 by omega⟩ (Nat.le_of_ble_eq_true rfl) dL_law_932 (fun x1 h => ?_)
  refine v_aload_n (f := 2) 2 rfl dL_law_935 ?_
  refine v_aload_n (f := 0) 0 rfl dL_law_936 ?_
  refine v_iload_n (f := 3) 3 rfl dL_law_937 ?_
  refine v_iconst ⟨by decide, by decide⟩ dL_law_938 ?_
  refine v_iaddN (by unfold b_r32; omega) dL_law_939 ?_
  refine f_sld hc.1 (by omega) dL_law_940 ?_
  refine v_cVIp (nA := 1) (As := [bI _]) (ix := 90) (cf_X12_error h) rfl kd_11 rfl rfl wc_X12_error wm_BurntHallLaw_90 wi_X12_error ws_X12_error wn_12 ⟨by decide, by decide, by decide⟩ rfl ⟨by decide, by decide⟩ ⟨show kn.1 + 0 + 0 ≤ 600000 by omega, show kn.2 + 0 + 0 ≤ 7302250 by omega⟩ (Nat.le_of_ble_eq_true rfl) dL_law_941 (fun x2 h => ?_)
  obtain ⟨he, h⟩ := h
  refine v_icmp_eq (tgt := 2105) dL_law_944 (by decide) (fun _ => ?_) (fun q => absurd he q)
  refine v_iincN (ls' := [(3, bI _), (0, bR _), (1, bR _), (2, bR _)]) 3 rfl (by decide) (by unfold b_r32; omega) dL_law_2105 rfl ?_
  refine v_goto (tgt := 18) dL_law_2108 (by decide) ?_
  refine v_sub (ls2 := [(0, bR _), (1, bR _), (2, bR _), (3, bI _)]) [1, 2, 3, 0] rfl ?_
  exact v_widen (k2 := (kn.1 + 8, kn.2 + 1600)) ⟨show kn.1 + 0 + 0 ≤ kn.1 + 8 by omega, show kn.2 + 0 + 0 ≤ kn.2 + 1600 by omega⟩ h
theorem law_18 {l : Launch} {E : bE} {Ln : Nat} {xs : Int → Int} {kn : Nat × Nat} {i : Int} {M : bM} (hfg : b_fg E) (hc : lw_c kn Ln i) (hi : i + 8 ≤ Ln) (h : b_wp (F_X11_mend (xs (i + 1)) M) (fun o => b_wp (F_X12_mend (xs (i + 1)) o.2) (fun o2 => o.1 = o2.1 ∧ lw_hd l E Ln xs (kn.1 + 8, kn.2 + 1600) (i + 8) o2.2))) : VL l E x_law b_full kn 949 [(0, bR 2100), (1, bR 0), (2, bR 11), (3, bI i)] [] M (G_law E Ln xs) := by
  unfold lw_c at hc
  refine v_aload_n (f := 1) 1 rfl dL_law_949 ?_
  refine v_aload_n (f := 0) 0 rfl dL_law_950 ?_
  refine v_iload_n (f := 3) 3 rfl dL_law_951 ?_
  refine v_iconst ⟨by decide, by decide⟩ dL_law_952 ?_
  refine v_iaddN (by unfold b_r32; omega) dL_law_953 ?_
  refine f_sld hc.1 (by omega) dL_law_954 ?_
  refine v_cVI (nA := 1) (As := [bI _]) (ix := 91) (cf_X11_mend h) rfl kd_0 rfl rfl wc_X11_mend wm_BurntHallLaw_91 wi_X11_mend ws_X11_mend wn_11 ⟨by decide, by decide, by decide⟩ rfl ⟨by decide, by decide⟩ ⟨show kn.1 + 0 ≤ 600000 by omega, show kn.2 + 0 ≤ 7302250 by omega⟩ (Nat.le_of_ble_eq_true rfl) dL_law_955 (fun x1 M1 h => ?_)
  refine v_aload_n (f := 2) 2 rfl dL_law_958 ?_
  refine v_aload_n (f := 0) 0 rfl dL_law_959 ?_
  refine v_iload_n (f := 3) 3 rfl dL_law_960 ?_
  refine v_iconst ⟨by decide, by decide⟩ dL_law_961 ?_
  refine v_iaddN (by unfold b_r32; omega) dL_law_962 ?_
  refine f_sld hc.1 (by omega) dL_law_963 ?_
  refine v_cVI (nA := 1) (As := [bI _]) (ix := 94) (cf_X12_mend h) rfl kd_11 rfl rfl wc_X12_mend wm_BurntHallLaw_94 wi_X12_mend ws_X12_mend wn_12 ⟨by decide, by decide, by decide⟩ rfl ⟨by decide, by decide⟩ ⟨show kn.1 + 0 + 0 ≤ 600000 by omega, show kn.2 + 0 + 0 ≤ 7302250 by omega⟩ (Nat.le_of_ble_eq_true rfl) dL_law_964 (fun x2 M2 h => ?_)
  obtain ⟨he, h⟩ := h
  refine v_icmp_eq (tgt := 2105) dL_law_967 (by decide) (fun _ => ?_) (fun q => absurd he q)
  refine v_iincN (ls' := [(3, bI _), (0, bR _), (1, bR _), (2, bR _)]) 3 rfl (by decide) (by unfold b_r32; omega) dL_law_2105 rfl ?_
  refine v_goto (tgt := 18) dL_law_2108 (by decide) ?_
  refine v_sub (ls2 := [(0, bR _), (1, bR _), (2, bR _), (3, bI _)]) [1, 2, 3, 0] rfl ?_
  exact v_widen (k2 := (kn.1 + 8, kn.2 + 1600)) ⟨show kn.1 + 0 + 0 ≤ kn.1 + 8 by omega, show kn.2 + 0 + 0 ≤ kn.2 + 1600 by omega⟩ h
theorem law_19 {l : Launch} {E : bE} {Ln : Nat} {xs : Int → Int} {kn : Nat × Nat} {i : Int} {M : bM} (hfg : b_fg E) (hc : lw_c kn Ln i) (hi : i + 8 ≤ Ln) (h : b_wp (F_X11_area (xs (i + 1)) M) (fun o => b_wp (F_X12_area (xs (i + 1)) o.2) (fun o2 => o.1 = o2.1 ∧ lw_hd l E Ln xs (kn.1 + 8, kn.2 + 1600) (i + 8) o2.2))) : VL l E x_law b_full kn 972 [(0, bR 2100), (1, bR 0), (2, bR 11), (3, bI i)] [] M (G_law E Ln xs) := by
  unfold lw_c at hc
  refine v_aload_n (f := 1) 1 rfl dL_law_972 ?_
  refine v_aload_n (f := 0) 0 rfl dL_law_973 ?_
  refine v_iload_n (f := 3) 3 rfl dL_law_974 ?_
  refine v_iconst ⟨by decide, by decide⟩ dL_law_975 ?_
  refine v_iaddN (by unfold b_r32; omega) dL_law_976 ?_
  refine f_sld hc.1 (by omega) dL_law_977 ?_
  refine v_cVI (nA := 1) (As := [bI _]) (ix := 95) (cf_X11_area h) rfl kd_0 rfl rfl wc_X11_area wm_BurntHallLaw_95 wi_X11_area ws_X11_area wn_11 ⟨by decide, by decide, by decide⟩ rfl ⟨by decide, by decide⟩ ⟨show kn.1 + 0 ≤ 600000 by omega, show kn.2 + 0 ≤ 7302250 by omega⟩ (Nat.le_of_ble_eq_true rfl) dL_law_978 (fun x1 M1 h => ?_)
  refine v_aload_n (f := 2) 2 rfl dL_law_981 ?_
  refine v_aload_n (f := 0) 0 rfl dL_law_982 ?_
  refine v_iload_n (f := 3) 3 rfl dL_law_983 ?_
  refine v_iconst ⟨by decide, by decide⟩ dL_law_984 ?_
  refine v_iaddN (by unfold b_r32; omega) dL_law_985 ?_
  refine f_sld hc.1 (by omega) dL_law_986 ?_
  refine v_cVI (nA := 1) (As := [bI _]) (ix := 98) (cf_X12_area h) rfl kd_11 rfl rfl wc_X12_area wm_BurntHallLaw_98 wi_X12_area ws_X12_area wn_12 ⟨by decide, by decide, by decide⟩ rfl ⟨by decide, by decide⟩ ⟨show kn.1 + 0 + 0 ≤ 600000 by omega, show kn.2 + 0 + 0 ≤ 7302250 by omega⟩ (Nat.le_of_ble_eq_true rfl) dL_law_987 (fun x2 M2 h => ?_)
  obtain ⟨he, h⟩ := h
  refine v_icmp_eq (tgt := 2105) dL_law_990 (by decide) (fun _ => ?_) (fun q => absurd he q)
  refine v_iincN (ls' := [(3, bI _), (0, bR _), (1, bR _), (2, bR _)]) 3 rfl (by decide) (by unfold b_r32; omega) dL_law_2105 rfl ?_
  refine v_goto (tgt := 18) dL_law_2108 (by decide) ?_
  refine v_sub (ls2 := [(0, bR _), (1, bR _), (2, bR _), (3, bI _)]) [1, 2, 3, 0] rfl ?_
  exact v_widen (k2 := (kn.1 + 8, kn.2 + 1600)) ⟨show kn.1 + 0 + 0 ≤ kn.1 + 8 by omega, show kn.2 + 0 + 0 ≤ kn.2 + 1600 by omega⟩ h
theorem law_20 {l : Launch} {E : bE} {Ln : Nat} {xs : Int → Int} {kn : Nat × Nat} {i : Int} {M : bM} (hfg : b_fg E) (hc : lw_c kn Ln i) (hi : i + 8 ≤ Ln) (h : b_wp (F_X11_strip (xs (i + 1)) (xs (i + 2)) M) (fun o => b_wp (F_X12_strip (xs (i + 1)) (xs (i + 2)) o.2) (fun o2 => o.1 = o2.1 ∧ lw_hd l E Ln xs (kn.1 + 8, kn.2 + 1600) (i + 8) o2.2))) : VL l E x_law b_full kn 995 [(0, bR 2100), (1, bR 0), (2, bR 11), (3, bI i)] [] M (G_law E Ln xs) := by
  unfold lw_c at hc
  refine v_aload_n (f := 1) 1 rfl dL_law_995 ?_
  refine v_aload_n (f := 0) 0 rfl dL_law_996 ?_
  refine v_iload_n (f := 3) 3 rfl dL_law_997 ?_
  refine v_iconst ⟨by decide, by decide⟩ dL_law_998 ?_
  refine v_iaddN (by unfold b_r32; omega) dL_law_999 ?_
  refine f_sld hc.1 (by omega) dL_law_1000 ?_
  refine v_aload_n (f := 0) 0 rfl dL_law_1001 ?_
  refine v_iload_n (f := 3) 3 rfl dL_law_1002 ?_
  refine v_iconst ⟨by decide, by decide⟩ dL_law_1003 ?_
  refine v_iaddN (by unfold b_r32; omega) dL_law_1004 ?_
  refine f_sld hc.1 (by omega) dL_law_1005 ?_
  refine v_cVI (nA := 2) (As := [bI _, bI _]) (ix := 99) (cf_X11_strip h) rfl kd_0 rfl rfl wc_X11_strip wm_BurntHallLaw_99 wi_X11_strip ws_X11_strip wn_11 ⟨by decide, by decide, by decide⟩ rfl ⟨by decide, by decide⟩ ⟨show kn.1 + 0 ≤ 600000 by omega, show kn.2 + 0 ≤ 7302250 by omega⟩ (Nat.le_of_ble_eq_true rfl) dL_law_1006 (fun x1 M1 h => ?_)
  refine v_aload_n (f := 2) 2 rfl dL_law_1009 ?_
  refine v_aload_n (f := 0) 0 rfl dL_law_1010 ?_
  refine v_iload_n (f := 3) 3 rfl dL_law_1011 ?_
  refine v_iconst ⟨by decide, by decide⟩ dL_law_1012 ?_
  refine v_iaddN (by unfold b_r32; omega) dL_law_1013 ?_
  refine f_sld hc.1 (by omega) dL_law_1014 ?_
  refine v_aload_n (f := 0) 0 rfl dL_law_1015 ?_
  refine v_iload_n (f := 3) 3 rfl dL_law_1016 ?_
  refine v_iconst ⟨by decide, by decide⟩ dL_law_1017 ?_
  refine v_iaddN (by unfold b_r32; omega) dL_law_1018 ?_
  refine f_sld hc.1 (by omega) dL_law_1019 ?_
  refine v_cVI (nA := 2) (As := [bI _, bI _]) (ix := 102) (cf_X12_strip h) rfl kd_11 rfl rfl wc_X12_strip wm_BurntHallLaw_102 wi_X12_strip ws_X12_strip wn_12 ⟨by decide, by decide, by decide⟩ rfl ⟨by decide, by decide⟩ ⟨show kn.1 + 0 + 0 ≤ 600000 by omega, show kn.2 + 0 + 0 ≤ 7302250 by omega⟩ (Nat.le_of_ble_eq_true rfl) dL_law_1020 (fun x2 M2 h => ?_)
  obtain ⟨he, h⟩ := h
  refine v_icmp_eq (tgt := 2105) dL_law_1023 (by decide) (fun _ => ?_) (fun q => absurd he q)
  refine v_iincN (ls' := [(3, bI _), (0, bR _), (1, bR _), (2, bR _)]) 3 rfl (by decide) (by unfold b_r32; omega) dL_law_2105 rfl ?_
  refine v_goto (tgt := 18) dL_law_2108 (by decide) ?_
  refine v_sub (ls2 := [(0, bR _), (1, bR _), (2, bR _), (3, bI _)]) [1, 2, 3, 0] rfl ?_
  exact v_widen (k2 := (kn.1 + 8, kn.2 + 1600)) ⟨show kn.1 + 0 + 0 ≤ kn.1 + 8 by omega, show kn.2 + 0 + 0 ≤ kn.2 + 1600 by omega⟩ h
theorem law_22 {l : Launch} {E : bE} {Ln : Nat} {xs : Int → Int} {kn : Nat × Nat} {i : Int} {M : bM} (hfg : b_fg E) (hc : lw_c kn Ln i) (hi : i + 8 ≤ Ln) (h : b_wp (F_X11_fault (xs (i + 1)) M) (fun o => b_wp (F_X12_fault (xs (i + 1)) M) (fun o2 => o = o2 ∧ lw_hd l E Ln xs (kn.1 + 8, kn.2 + 1600) (i + 8) M))) : VL l E x_law b_full kn 1041 [(0, bR 2100), (1, bR 0), (2, bR 11), (3, bI i)] [] M (G_law E Ln xs) := by
  unfold lw_c at hc
  refine v_aload_n (f := 1) 1 rfl dL_law_1041 ?_
  refine v_aload_n (f := 0) 0 rfl dL_law_1042 ?_
  refine v_iload_n (f := 3) 3 rfl dL_law_1043 ?_
  refine v_iconst ⟨by decide, by decide⟩ dL_law_1044 ?_
  refine v_iaddN (by unfold b_r32; omega) dL_law_1045 ?_
  refine f_sld hc.1 (by omega) dL_law_1046 ?_
  refine v_cVIp (nA := 1) (As := [bI _]) (ix := 108) (cf_X11_fault h) rfl kd_0 rfl rfl wc_X11_fault wm_BurntHallLaw_108 wi_X11_fault ws_X11_fault wn_11 ⟨by decide, by decide, by decide⟩ rfl ⟨by decide, by decide⟩ ⟨show kn.1 + 0 ≤ 600000 by omega, show kn.2 + 0 ≤ 7302250 by omega⟩ (Nat.le_of_ble_eq_true rfl) dL_law_1047 (fun x1 h => ?_)
  refine v_aload_n (f := 2) 2 rfl dL_law_1050 ?_
  refine v_aload_n (f := 0) 0 rfl dL_law_1051 ?_
  refine v_iload_n (f := 3) 3 rfl dL_law_1052 ?_
  refine v_iconst ⟨by decide, by decide⟩ dL_law_1053 ?_
  refine v_iaddN (by unfold b_r32; omega) dL_law_1054 ?_
  refine f_sld hc.1 (by omega) dL_law_1055 ?_
  refine v_cVIp (nA := 1) (As := [bI _]) (ix := 111) (cf_X12_fault h) rfl kd_11 rfl rfl wc_X12_fault wm_BurntHallLaw_111 wi_X12_fault ws_X12_fault wn_12 ⟨by decide, by decide, by decide⟩ rfl ⟨by decide, by decide⟩ ⟨show kn.1 + 0 + 0 ≤ 600000 by omega, show kn.2 + 0 + 0 ≤ 7302250 by omega⟩ (Nat.le_of_ble_eq_true rfl) dL_law_1056 (fun x2 h => ?_)
  obtain ⟨he, h⟩ := h
  refine v_icmp_eq (tgt := 2105) dL_law_1059 (by decide) (fun _ => ?_) (fun q => absurd he q)
  refine v_iincN (ls' := [(3, bI _), (0, bR _), (1, bR _), (2, bR _)]) 3 rfl (by decide) (by unfold b_r32; omega) dL_law_2105 rfl ?_
  refine v_goto (tgt := 18) dL_law_2108 (by decide) ?_
  refine v_sub (ls2 := [(0, bR _), (1, bR _), (2, bR _), (3, bI _)]) [1, 2, 3, 0] rfl ?_
  exact v_widen (k2 := (kn.1 + 8, kn.2 + 1600)) ⟨show kn.1 + 0 + 0 ≤ kn.1 + 8 by omega, show kn.2 + 0 + 0 ≤ kn.2 + 1600 by omega⟩ h
theorem law_23 {l : Launch} {E : bE} {Ln : Nat} {xs : Int → Int} {kn : Nat × Nat} {i : Int} {M : bM} (hfg : b_fg E) (hc : lw_c kn Ln i) (hi : i + 8 ≤ Ln) (h : b_wp (F_X11_rule (xs (i + 1)) (xs (i + 2)) M) (fun o => b_wp (F_X12_rule (xs (i + 1)) (xs (i + 2)) M) (fun o2 => o = o2 ∧ lw_hd l E Ln xs (kn.1 + 8, kn.2 + 1600) (i + 8) M))) : VL l E x_law b_full kn 1064 [(0, bR 2100), (1, bR 0), (2, bR 11), (3, bI i)] [] M (G_law E Ln xs) := by
  unfold lw_c at hc
  refine v_aload_n (f := 1) 1 rfl dL_law_1064 ?_
  refine v_aload_n (f := 0) 0 rfl dL_law_1065 ?_
  refine v_iload_n (f := 3) 3 rfl dL_law_1066 ?_
  refine v_iconst ⟨by decide, by decide⟩ dL_law_1067 ?_
  refine v_iaddN (by unfold b_r32; omega) dL_law_1068 ?_
  refine f_sld hc.1 (by omega) dL_law_1069 ?_
  refine v_aload_n (f := 0) 0 rfl dL_law_1070 ?_
  refine v_iload_n (f := 3) 3 rfl dL_law_1071 ?_
  refine v_iconst ⟨by decide, by decide⟩ dL_law_1072 ?_
  refine v_iaddN (by unfold b_r32; omega) dL_law_1073 ?_
  refine f_sld hc.1 (by omega) dL_law_1074 ?_
  refine v_cVIp (nA := 2) (As := [bI _, bI _]) (ix := 112) (cf_X11_rule h) rfl kd_0 rfl rfl wc_X11_rule wm_BurntHallLaw_112 wi_X11_rule ws_X11_rule wn_11 ⟨by decide, by decide, by decide⟩ rfl ⟨by decide, by decide⟩ ⟨show kn.1 + 0 ≤ 600000 by omega, show kn.2 + 0 ≤ 7302250 by omega⟩ (Nat.le_of_ble_eq_true rfl) dL_law_1075 (fun x1 h => ?_)
  refine v_aload_n (f := 2) 2 rfl dL_law_1078 ?_
  refine v_aload_n (f := 0) 0 rfl dL_law_1079 ?_
  refine v_iload_n (f := 3) 3 rfl dL_law_1080 ?_
  refine v_iconst ⟨by decide, by decide⟩ dL_law_1081 ?_
  refine v_iaddN (by unfold b_r32; omega) dL_law_1082 ?_
  refine f_sld hc.1 (by omega) dL_law_1083 ?_
  refine v_aload_n (f := 0) 0 rfl dL_law_1084 ?_
  refine v_iload_n (f := 3) 3 rfl dL_law_1085 ?_
  refine v_iconst ⟨by decide, by decide⟩ dL_law_1086 ?_
  refine v_iaddN (by unfold b_r32; omega) dL_law_1087 ?_
  refine f_sld hc.1 (by omega) dL_law_1088 ?_
  refine v_cVIp (nA := 2) (As := [bI _, bI _]) (ix := 115) (cf_X12_rule h) rfl kd_11 rfl rfl wc_X12_rule wm_BurntHallLaw_115 wi_X12_rule ws_X12_rule wn_12 ⟨by decide, by decide, by decide⟩ rfl ⟨by decide, by decide⟩ ⟨show kn.1 + 0 + 0 ≤ 600000 by omega, show kn.2 + 0 + 0 ≤ 7302250 by omega⟩ (Nat.le_of_ble_eq_true rfl) dL_law_1089 (fun x2 h => ?_)
  obtain ⟨he, h⟩ := h
  refine v_icmp_eq (tgt := 2105) dL_law_1092 (by decide) (fun _ => ?_) (fun q => absurd he q)
  refine v_iincN (ls' := [(3, bI _), (0, bR _), (1, bR _), (2, bR _)]) 3 rfl (by decide) (by unfold b_r32; omega) dL_law_2105 rfl ?_
  refine v_goto (tgt := 18) dL_law_2108 (by decide) ?_
  refine v_sub (ls2 := [(0, bR _), (1, bR _), (2, bR _), (3, bI _)]) [1, 2, 3, 0] rfl ?_
  exact v_widen (k2 := (kn.1 + 8, kn.2 + 1600)) ⟨show kn.1 + 0 + 0 ≤ kn.1 + 8 by omega, show kn.2 + 0 + 0 ≤ kn.2 + 1600 by omega⟩ h
theorem law_24 {l : Launch} {E : bE} {Ln : Nat} {xs : Int → Int} {kn : Nat × Nat} {i : Int} {M : bM} (hfg : b_fg E) (hc : lw_c kn Ln i) (hi : i + 8 ≤ Ln) (h : b_wp (F_X11_burnt M) (fun o => b_wp (F_X12_burnt o.2) (fun o2 => o.1 = o2.1 ∧ lw_hd l E Ln xs (kn.1 + 8, kn.2 + 1600) (i + 8) o2.2))) : VL l E x_law b_full kn 1097 [(0, bR 2100), (1, bR 0), (2, bR 11), (3, bI i)] [] M (G_law E Ln xs) := by
  unfold lw_c at hc
  refine v_aload_n (f := 1) 1 rfl dL_law_1097 ?_
  refine v_cVI (nA := 0) (As := []) (ix := 116) (cf_X11_burnt h) rfl kd_0 rfl rfl wc_X11_burnt wm_BurntHallLaw_116 wi_X11_burnt ws_X11_burnt wn_11 ⟨by decide, by decide, by decide⟩ rfl ⟨by decide, by decide⟩ ⟨show kn.1 + 0 ≤ 600000 by omega, show kn.2 + 0 ≤ 7302250 by omega⟩ (Nat.le_of_ble_eq_true rfl) dL_law_1098 (fun x1 M1 h => ?_)
  refine v_aload_n (f := 2) 2 rfl dL_law_1101 ?_
  refine v_cVI (nA := 0) (As := []) (ix := 119) (cf_X12_burnt h) rfl kd_11 rfl rfl wc_X12_burnt wm_BurntHallLaw_119 wi_X12_burnt ws_X12_burnt wn_12 ⟨by decide, by decide, by decide⟩ rfl ⟨by decide, by decide⟩ ⟨show kn.1 + 0 + 0 ≤ 600000 by omega, show kn.2 + 0 + 0 ≤ 7302250 by omega⟩ (Nat.le_of_ble_eq_true rfl) dL_law_1102 (fun x2 M2 h => ?_)
  obtain ⟨he, h⟩ := h
  refine v_icmp_eq (tgt := 2105) dL_law_1105 (by decide) (fun _ => ?_) (fun q => absurd he q)
  refine v_iincN (ls' := [(3, bI _), (0, bR _), (1, bR _), (2, bR _)]) 3 rfl (by decide) (by unfold b_r32; omega) dL_law_2105 rfl ?_
  refine v_goto (tgt := 18) dL_law_2108 (by decide) ?_
  refine v_sub (ls2 := [(0, bR _), (1, bR _), (2, bR _), (3, bI _)]) [1, 2, 3, 0] rfl ?_
  exact v_widen (k2 := (kn.1 + 8, kn.2 + 1600)) ⟨show kn.1 + 0 + 0 ≤ kn.1 + 8 by omega, show kn.2 + 0 + 0 ≤ kn.2 + 1600 by omega⟩ h
theorem law_25 {l : Launch} {E : bE} {Ln : Nat} {xs : Int → Int} {kn : Nat × Nat} {i : Int} {M : bM} (hfg : b_fg E) (hc : lw_c kn Ln i) (hi : i + 8 ≤ Ln) (h : b_wp (F_X11_paper (xs (i + 1)) (xs (i + 2)) (xs (i + 3)) (xs (i + 4)) (xs (i + 5)) (xs (i + 6)) (xs (i + 7)) M) (fun o => b_wp (F_X12_paper (xs (i + 1)) (xs (i + 2)) (xs (i + 3)) (xs (i + 4)) (xs (i + 5)) (xs (i + 6)) (xs (i + 7)) o.2) (fun o2 => o.1 = o2.1 ∧ lw_hd l E Ln xs (kn.1 + 8, kn.2 + 1600) (i + 8) o2.2))) : VL l E x_law b_full kn 1110 [(0, bR 2100), (1, bR 0), (2, bR 11), (3, bI i)] [] M (G_law E Ln xs) := by
  unfold lw_c at hc
  refine v_aload_n (f := 1) 1 rfl dL_law_1110 ?_
  refine v_aload_n (f := 0) 0 rfl dL_law_1111 ?_
  refine v_iload_n (f := 3) 3 rfl dL_law_1112 ?_
  refine v_iconst ⟨by decide, by decide⟩ dL_law_1113 ?_
  refine v_iaddN (by unfold b_r32; omega) dL_law_1114 ?_
  refine f_sld hc.1 (by omega) dL_law_1115 ?_
  refine v_aload_n (f := 0) 0 rfl dL_law_1116 ?_
  refine v_iload_n (f := 3) 3 rfl dL_law_1117 ?_
  refine v_iconst ⟨by decide, by decide⟩ dL_law_1118 ?_
  refine v_iaddN (by unfold b_r32; omega) dL_law_1119 ?_
  refine f_sld hc.1 (by omega) dL_law_1120 ?_
  refine v_aload_n (f := 0) 0 rfl dL_law_1121 ?_
  refine v_iload_n (f := 3) 3 rfl dL_law_1122 ?_
  refine v_iconst ⟨by decide, by decide⟩ dL_law_1123 ?_
  refine v_iaddN (by unfold b_r32; omega) dL_law_1124 ?_
  refine f_sld hc.1 (by omega) dL_law_1125 ?_
  refine v_aload_n (f := 0) 0 rfl dL_law_1126 ?_
  refine v_iload_n (f := 3) 3 rfl dL_law_1127 ?_
  refine v_iconst ⟨by decide, by decide⟩ dL_law_1128 ?_
  refine v_iaddN (by unfold b_r32; omega) dL_law_1129 ?_
  refine f_sld hc.1 (by omega) dL_law_1130 ?_
  refine v_aload_n (f := 0) 0 rfl dL_law_1131 ?_
  refine v_iload_n (f := 3) 3 rfl dL_law_1132 ?_
  refine v_iconst ⟨by decide, by decide⟩ dL_law_1133 ?_
  refine v_iaddN (by unfold b_r32; omega) dL_law_1134 ?_
  refine f_sld hc.1 (by omega) dL_law_1135 ?_
  refine v_aload_n (f := 0) 0 rfl dL_law_1136 ?_
  refine v_iload_n (f := 3) 3 rfl dL_law_1137 ?_
  refine v_bipush ⟨by decide, by decide⟩ (by decide) dL_law_1138 ?_
  refine v_iaddN (by unfold b_r32; omega) dL_law_1140 ?_
  refine f_sld hc.1 (by omega) dL_law_1141 ?_
  refine v_aload_n (f := 0) 0 rfl dL_law_1142 ?_
  refine v_iload_n (f := 3) 3 rfl dL_law_1143 ?_
  refine v_bipush ⟨by decide, by decide⟩ (by decide) dL_law_1144 ?_
  refine v_iaddN (by unfold b_r32; omega) dL_law_1146 ?_
  refine f_sld hc.1 (by omega) dL_law_1147 ?_
  refine v_cVI (nA := 7) (As := [bI _, bI _, bI _, bI _, bI _, bI _, bI _]) (ix := 120) (cf_X11_paper h) rfl kd_0 rfl rfl wc_X11_paper wm_BurntHallLaw_120 wi_X11_paper ws_X11_paper wn_11 ⟨by decide, by decide, by decide⟩ rfl ⟨by decide, by decide⟩ ⟨show kn.1 + 0 ≤ 600000 by omega, show kn.2 + 0 ≤ 7302250 by omega⟩ (Nat.le_of_ble_eq_true rfl) dL_law_1148 (fun x1 M1 h => ?_)
  refine v_aload_n (f := 2) 2 rfl dL_law_1151 ?_
  refine v_aload_n (f := 0) 0 rfl dL_law_1152 ?_
  refine v_iload_n (f := 3) 3 rfl dL_law_1153 ?_
  refine v_iconst ⟨by decide, by decide⟩ dL_law_1154 ?_
  refine v_iaddN (by unfold b_r32; omega) dL_law_1155 ?_
  refine f_sld hc.1 (by omega) dL_law_1156 ?_
  refine v_aload_n (f := 0) 0 rfl dL_law_1157 ?_
  refine v_iload_n (f := 3) 3 rfl dL_law_1158 ?_
  refine v_iconst ⟨by decide, by decide⟩ dL_law_1159 ?_
  refine v_iaddN (by unfold b_r32; omega) dL_law_1160 ?_
  refine f_sld hc.1 (by omega) dL_law_1161 ?_
  refine v_aload_n (f := 0) 0 rfl dL_law_1162 ?_
  refine v_iload_n (f := 3) 3 rfl dL_law_1163 ?_
  refine v_iconst ⟨by decide, by decide⟩ dL_law_1164 ?_
  refine v_iaddN (by unfold b_r32; omega) dL_law_1165 ?_
  refine f_sld hc.1 (by omega) dL_law_1166 ?_
  refine v_aload_n (f := 0) 0 rfl dL_law_1167 ?_
  refine v_iload_n (f := 3) 3 rfl dL_law_1168 ?_
  refine v_iconst ⟨by decide, by decide⟩ dL_law_1169 ?_
  refine v_iaddN (by unfold b_r32; omega) dL_law_1170 ?_
  refine f_sld hc.1 (by omega) dL_law_1171 ?_
  refine v_aload_n (f := 0) 0 rfl dL_law_1172 ?_
  refine v_iload_n (f := 3) 3 rfl dL_law_1173 ?_
  refine v_iconst ⟨by decide, by decide⟩ dL_law_1174 ?_
  refine v_iaddN (by unfold b_r32; omega) dL_law_1175 ?_
  refine f_sld hc.1 (by omega) dL_law_1176 ?_
  refine v_aload_n (f := 0) 0 rfl dL_law_1177 ?_
  refine v_iload_n (f := 3) 3 rfl dL_law_1178 ?_
  refine v_bipush ⟨by decide, by decide⟩ (by decide) dL_law_1179 ?_
  refine v_iaddN (by unfold b_r32; omega) dL_law_1181 ?_
  refine f_sld hc.1 (by omega) dL_law_1182 ?_
  refine v_aload_n (f := 0) 0 rfl dL_law_1183 ?_
  refine v_iload_n (f := 3) 3 rfl dL_law_1184 ?_
  refine v_bipush ⟨by decide, by decide⟩ (by decide) dL_law_1185 ?_
  refine v_iaddN (by unfold b_r32; omega) dL_law_1187 ?_
  refine f_sld hc.1 (by omega) dL_law_1188 ?_
  refine v_cVI (nA := 7) (As := [bI _, bI _, bI _, bI _, bI _, bI _, bI _]) (ix := 123) (cf_X12_paper hfg h) rfl kd_11 rfl rfl wc_X12_paper wm_BurntHallLaw_123 wi_X12_paper ws_X12_paper wn_12 ⟨by decide, by decide, by decide⟩ rfl ⟨by decide, by decide⟩ ⟨show kn.1 + 0 + 0 ≤ 600000 by omega, show kn.2 + 0 + 0 ≤ 7302250 by omega⟩ (Nat.le_of_ble_eq_true rfl) dL_law_1189 (fun x2 M2 h => ?_)
  obtain ⟨he, h⟩ := h
  refine v_icmp_eq (tgt := 2105) dL_law_1192 (by decide) (fun _ => ?_) (fun q => absurd he q)
  refine v_iincN (ls' := [(3, bI _), (0, bR _), (1, bR _), (2, bR _)]) 3 rfl (by decide) (by unfold b_r32; omega) dL_law_2105 rfl ?_
  refine v_goto (tgt := 18) dL_law_2108 (by decide) ?_
  refine v_sub (ls2 := [(0, bR _), (1, bR _), (2, bR _), (3, bI _)]) [1, 2, 3, 0] rfl ?_
  exact v_widen (k2 := (kn.1 + 8, kn.2 + 1600)) ⟨show kn.1 + 0 + 0 ≤ kn.1 + 8 by omega, show kn.2 + 0 + 0 ≤ kn.2 + 1600 by omega⟩ h
theorem law_26 {l : Launch} {E : bE} {Ln : Nat} {xs : Int → Int} {kn : Nat × Nat} {i : Int} {M : bM} (hfg : b_fg E) (hc : lw_c kn Ln i) (hi : i + 8 ≤ Ln) (h : b_wp (F_X11_written (xs (i + 1)) (xs (i + 2)) (xs (i + 3)) (xs (i + 4)) (xs (i + 5)) M) (fun o => b_wp (F_X12_written (xs (i + 1)) (xs (i + 2)) (xs (i + 3)) (xs (i + 4)) (xs (i + 5)) o.2) (fun o2 => o.1 = o2.1 ∧ lw_hd l E Ln xs (kn.1 + 8, kn.2 + 1600) (i + 8) o2.2))) : VL l E x_law b_full kn 1197 [(0, bR 2100), (1, bR 0), (2, bR 11), (3, bI i)] [] M (G_law E Ln xs) := by
  unfold lw_c at hc
  refine v_aload_n (f := 1) 1 rfl dL_law_1197 ?_
  refine v_aload_n (f := 0) 0 rfl dL_law_1198 ?_
  refine v_iload_n (f := 3) 3 rfl dL_law_1199 ?_
  refine v_iconst ⟨by decide, by decide⟩ dL_law_1200 ?_
  refine v_iaddN (by unfold b_r32; omega) dL_law_1201 ?_
  refine f_sld hc.1 (by omega) dL_law_1202 ?_
  refine v_aload_n (f := 0) 0 rfl dL_law_1203 ?_
  refine v_iload_n (f := 3) 3 rfl dL_law_1204 ?_
  refine v_iconst ⟨by decide, by decide⟩ dL_law_1205 ?_
  refine v_iaddN (by unfold b_r32; omega) dL_law_1206 ?_
  refine f_sld hc.1 (by omega) dL_law_1207 ?_
  refine v_aload_n (f := 0) 0 rfl dL_law_1208 ?_
  refine v_iload_n (f := 3) 3 rfl dL_law_1209 ?_
  refine v_iconst ⟨by decide, by decide⟩ dL_law_1210 ?_
  refine v_iaddN (by unfold b_r32; omega) dL_law_1211 ?_
  refine f_sld hc.1 (by omega) dL_law_1212 ?_
  refine v_aload_n (f := 0) 0 rfl dL_law_1213 ?_
  refine v_iload_n (f := 3) 3 rfl dL_law_1214 ?_
  refine v_iconst ⟨by decide, by decide⟩ dL_law_1215 ?_
  refine v_iaddN (by unfold b_r32; omega) dL_law_1216 ?_
  refine f_sld hc.1 (by omega) dL_law_1217 ?_
  refine v_aload_n (f := 0) 0 rfl dL_law_1218 ?_
  refine v_iload_n (f := 3) 3 rfl dL_law_1219 ?_
  refine v_iconst ⟨by decide, by decide⟩ dL_law_1220 ?_
  refine v_iaddN (by unfold b_r32; omega) dL_law_1221 ?_
  refine f_sld hc.1 (by omega) dL_law_1222 ?_
  refine v_cVI (nA := 5) (As := [bI _, bI _, bI _, bI _, bI _]) (ix := 124) (cf_X11_written h) rfl kd_0 rfl rfl wc_X11_written wm_BurntHallLaw_124 wi_X11_written ws_X11_written wn_11 ⟨by decide, by decide, by decide⟩ rfl ⟨by decide, by decide⟩ ⟨show kn.1 + 0 ≤ 600000 by omega, show kn.2 + 0 ≤ 7302250 by omega⟩ (Nat.le_of_ble_eq_true rfl) dL_law_1223 (fun x1 M1 h => ?_)
  refine v_aload_n (f := 2) 2 rfl dL_law_1226 ?_
  refine v_aload_n (f := 0) 0 rfl dL_law_1227 ?_
  refine v_iload_n (f := 3) 3 rfl dL_law_1228 ?_
  refine v_iconst ⟨by decide, by decide⟩ dL_law_1229 ?_
  refine v_iaddN (by unfold b_r32; omega) dL_law_1230 ?_
  refine f_sld hc.1 (by omega) dL_law_1231 ?_
  refine v_aload_n (f := 0) 0 rfl dL_law_1232 ?_
  refine v_iload_n (f := 3) 3 rfl dL_law_1233 ?_
  refine v_iconst ⟨by decide, by decide⟩ dL_law_1234 ?_
  refine v_iaddN (by unfold b_r32; omega) dL_law_1235 ?_
  refine f_sld hc.1 (by omega) dL_law_1236 ?_
  refine v_aload_n (f := 0) 0 rfl dL_law_1237 ?_
  refine v_iload_n (f := 3) 3 rfl dL_law_1238 ?_
  refine v_iconst ⟨by decide, by decide⟩ dL_law_1239 ?_
  refine v_iaddN (by unfold b_r32; omega) dL_law_1240 ?_
  refine f_sld hc.1 (by omega) dL_law_1241 ?_
  refine v_aload_n (f := 0) 0 rfl dL_law_1242 ?_
  refine v_iload_n (f := 3) 3 rfl dL_law_1243 ?_
  refine v_iconst ⟨by decide, by decide⟩ dL_law_1244 ?_
  refine v_iaddN (by unfold b_r32; omega) dL_law_1245 ?_
  refine f_sld hc.1 (by omega) dL_law_1246 ?_
  refine v_aload_n (f := 0) 0 rfl dL_law_1247 ?_
  refine v_iload_n (f := 3) 3 rfl dL_law_1248 ?_
  refine v_iconst ⟨by decide, by decide⟩ dL_law_1249 ?_
  refine v_iaddN (by unfold b_r32; omega) dL_law_1250 ?_
  refine f_sld hc.1 (by omega) dL_law_1251 ?_
  refine v_cVI (nA := 5) (As := [bI _, bI _, bI _, bI _, bI _]) (ix := 127) (cf_X12_written h) rfl kd_11 rfl rfl wc_X12_written wm_BurntHallLaw_127 wi_X12_written ws_X12_written wn_12 ⟨by decide, by decide, by decide⟩ rfl ⟨by decide, by decide⟩ ⟨show kn.1 + 0 + 0 ≤ 600000 by omega, show kn.2 + 0 + 0 ≤ 7302250 by omega⟩ (Nat.le_of_ble_eq_true rfl) dL_law_1252 (fun x2 M2 h => ?_)
  obtain ⟨he, h⟩ := h
  refine v_icmp_eq (tgt := 2105) dL_law_1255 (by decide) (fun _ => ?_) (fun q => absurd he q)
  refine v_iincN (ls' := [(3, bI _), (0, bR _), (1, bR _), (2, bR _)]) 3 rfl (by decide) (by unfold b_r32; omega) dL_law_2105 rfl ?_
  refine v_goto (tgt := 18) dL_law_2108 (by decide) ?_
  refine v_sub (ls2 := [(0, bR _), (1, bR _), (2, bR _), (3, bI _)]) [1, 2, 3, 0] rfl ?_
  exact v_widen (k2 := (kn.1 + 8, kn.2 + 1600)) ⟨show kn.1 + 0 + 0 ≤ kn.1 + 8 by omega, show kn.2 + 0 + 0 ≤ kn.2 + 1600 by omega⟩ h
theorem law_27 {l : Launch} {E : bE} {Ln : Nat} {xs : Int → Int} {kn : Nat × Nat} {i : Int} {M : bM} (hfg : b_fg E) (hc : lw_c kn Ln i) (hi : i + 8 ≤ Ln) (h : b_wp (F_X11_pages (xs (i + 1)) M) (fun o => b_wp (F_X12_pages (xs (i + 1)) o.2) (fun o2 => o.1 = o2.1 ∧ lw_hd l E Ln xs (kn.1 + 8, kn.2 + 1600) (i + 8) o2.2))) : VL l E x_law b_full kn 1260 [(0, bR 2100), (1, bR 0), (2, bR 11), (3, bI i)] [] M (G_law E Ln xs) := by
  unfold lw_c at hc
  refine v_aload_n (f := 1) 1 rfl dL_law_1260 ?_
  refine v_aload_n (f := 0) 0 rfl dL_law_1261 ?_
  refine v_iload_n (f := 3) 3 rfl dL_law_1262 ?_
  refine v_iconst ⟨by decide, by decide⟩ dL_law_1263 ?_
  refine v_iaddN (by unfold b_r32; omega) dL_law_1264 ?_
  refine f_sld hc.1 (by omega) dL_law_1265 ?_
  refine v_cVI (nA := 1) (As := [bI _]) (ix := 128) (cf_X11_pages h) rfl kd_0 rfl rfl wc_X11_pages wm_BurntHallLaw_128 wi_X11_pages ws_X11_pages wn_11 ⟨by decide, by decide, by decide⟩ rfl ⟨by decide, by decide⟩ ⟨show kn.1 + 0 ≤ 600000 by omega, show kn.2 + 0 ≤ 7302250 by omega⟩ (Nat.le_of_ble_eq_true rfl) dL_law_1266 (fun x1 M1 h => ?_)
  refine v_aload_n (f := 2) 2 rfl dL_law_1269 ?_
  refine v_aload_n (f := 0) 0 rfl dL_law_1270 ?_
  refine v_iload_n (f := 3) 3 rfl dL_law_1271 ?_
  refine v_iconst ⟨by decide, by decide⟩ dL_law_1272 ?_
  refine v_iaddN (by unfold b_r32; omega) dL_law_1273 ?_
  refine f_sld hc.1 (by omega) dL_law_1274 ?_
  refine v_cVI (nA := 1) (As := [bI _]) (ix := 131) (cf_X12_pages h) rfl kd_11 rfl rfl wc_X12_pages wm_BurntHallLaw_131 wi_X12_pages ws_X12_pages wn_12 ⟨by decide, by decide, by decide⟩ rfl ⟨by decide, by decide⟩ ⟨show kn.1 + 0 + 0 ≤ 600000 by omega, show kn.2 + 0 + 0 ≤ 7302250 by omega⟩ (Nat.le_of_ble_eq_true rfl) dL_law_1275 (fun x2 M2 h => ?_)
  obtain ⟨he, h⟩ := h
  refine v_icmp_eq (tgt := 2105) dL_law_1278 (by decide) (fun _ => ?_) (fun q => absurd he q)
  refine v_iincN (ls' := [(3, bI _), (0, bR _), (1, bR _), (2, bR _)]) 3 rfl (by decide) (by unfold b_r32; omega) dL_law_2105 rfl ?_
  refine v_goto (tgt := 18) dL_law_2108 (by decide) ?_
  refine v_sub (ls2 := [(0, bR _), (1, bR _), (2, bR _), (3, bI _)]) [1, 2, 3, 0] rfl ?_
  exact v_widen (k2 := (kn.1 + 8, kn.2 + 1600)) ⟨show kn.1 + 0 + 0 ≤ kn.1 + 8 by omega, show kn.2 + 0 + 0 ≤ kn.2 + 1600 by omega⟩ h
theorem law_28 {l : Launch} {E : bE} {Ln : Nat} {xs : Int → Int} {kn : Nat × Nat} {i : Int} {M : bM} (hfg : b_fg E) (hc : lw_c kn Ln i) (hi : i + 8 ≤ Ln) (h : b_wp (F_X11_weight (xs (i + 1)) (xs (i + 2)) M) (fun o => b_wp (F_X12_weight (xs (i + 1)) (xs (i + 2)) M) (fun o2 => o = o2.1 ∧ lw_hd l E Ln xs (kn.1 + 8, kn.2 + 1600) (i + 8) o2.2))) : VL l E x_law b_full kn 1283 [(0, bR 2100), (1, bR 0), (2, bR 11), (3, bI i)] [] M (G_law E Ln xs) := by
  unfold lw_c at hc
  refine v_aload_n (f := 1) 1 rfl dL_law_1283 ?_
  refine v_aload_n (f := 0) 0 rfl dL_law_1284 ?_
  refine v_iload_n (f := 3) 3 rfl dL_law_1285 ?_
  refine v_iconst ⟨by decide, by decide⟩ dL_law_1286 ?_
  refine v_iaddN (by unfold b_r32; omega) dL_law_1287 ?_
  refine f_sld hc.1 (by omega) dL_law_1288 ?_
  refine v_aload_n (f := 0) 0 rfl dL_law_1289 ?_
  refine v_iload_n (f := 3) 3 rfl dL_law_1290 ?_
  refine v_iconst ⟨by decide, by decide⟩ dL_law_1291 ?_
  refine v_iaddN (by unfold b_r32; omega) dL_law_1292 ?_
  refine f_sld hc.1 (by omega) dL_law_1293 ?_
  refine v_cVIp (nA := 2) (As := [bI _, bI _]) (ix := 132) (cf_X11_weight h) rfl kd_0 rfl rfl wc_X11_weight wm_BurntHallLaw_132 wi_X11_weight ws_X11_weight wn_11 ⟨by decide, by decide, by decide⟩ rfl ⟨by decide, by decide⟩ ⟨show kn.1 + 0 ≤ 600000 by omega, show kn.2 + 0 ≤ 7302250 by omega⟩ (Nat.le_of_ble_eq_true rfl) dL_law_1294 (fun x1 h => ?_)
  refine v_aload_n (f := 2) 2 rfl dL_law_1297 ?_
  refine v_aload_n (f := 0) 0 rfl dL_law_1298 ?_
  refine v_iload_n (f := 3) 3 rfl dL_law_1299 ?_
  refine v_iconst ⟨by decide, by decide⟩ dL_law_1300 ?_
  refine v_iaddN (by unfold b_r32; omega) dL_law_1301 ?_
  refine f_sld hc.1 (by omega) dL_law_1302 ?_
  refine v_aload_n (f := 0) 0 rfl dL_law_1303 ?_
  refine v_iload_n (f := 3) 3 rfl dL_law_1304 ?_
  refine v_iconst ⟨by decide, by decide⟩ dL_law_1305 ?_
  refine v_iaddN (by unfold b_r32; omega) dL_law_1306 ?_
  refine f_sld hc.1 (by omega) dL_law_1307 ?_
  refine v_cVI (nA := 2) (As := [bI _, bI _]) (ix := 135) (cf_X12_weight h) rfl kd_11 rfl rfl wc_X12_weight wm_BurntHallLaw_135 wi_X12_weight ws_X12_weight wn_12 ⟨by decide, by decide, by decide⟩ rfl ⟨by decide, by decide⟩ ⟨show kn.1 + 0 + 0 ≤ 600000 by omega, show kn.2 + 0 + 0 ≤ 7302250 by omega⟩ (Nat.le_of_ble_eq_true rfl) dL_law_1308 (fun x2 M2 h => ?_)
  obtain ⟨he, h⟩ := h
  refine v_icmp_eq (tgt := 2105) dL_law_1311 (by decide) (fun _ => ?_) (fun q => absurd he q)
  refine v_iincN (ls' := [(3, bI _), (0, bR _), (1, bR _), (2, bR _)]) 3 rfl (by decide) (by unfold b_r32; omega) dL_law_2105 rfl ?_
  refine v_goto (tgt := 18) dL_law_2108 (by decide) ?_
  refine v_sub (ls2 := [(0, bR _), (1, bR _), (2, bR _), (3, bI _)]) [1, 2, 3, 0] rfl ?_
  exact v_widen (k2 := (kn.1 + 8, kn.2 + 1600)) ⟨show kn.1 + 0 + 0 ≤ kn.1 + 8 by omega, show kn.2 + 0 + 0 ≤ kn.2 + 1600 by omega⟩ h
theorem law_29 {l : Launch} {E : bE} {Ln : Nat} {xs : Int → Int} {kn : Nat × Nat} {i : Int} {M : bM} (hfg : b_fg E) (hc : lw_c kn Ln i) (hi : i + 8 ≤ Ln) (h : b_wp (F_X11_cant (xs (i + 1)) (xs (i + 2)) M) (fun o => b_wp (F_X12_cant (xs (i + 1)) (xs (i + 2)) o.2) (fun o2 => o.1 = o2.1 ∧ lw_hd l E Ln xs (kn.1 + 8, kn.2 + 1600) (i + 8) o2.2))) : VL l E x_law b_full kn 1316 [(0, bR 2100), (1, bR 0), (2, bR 11), (3, bI i)] [] M (G_law E Ln xs) := by
  unfold lw_c at hc
  refine v_aload_n (f := 1) 1 rfl dL_law_1316 ?_
  refine v_aload_n (f := 0) 0 rfl dL_law_1317 ?_
  refine v_iload_n (f := 3) 3 rfl dL_law_1318 ?_
  refine v_iconst ⟨by decide, by decide⟩ dL_law_1319 ?_
  refine v_iaddN (by unfold b_r32; omega) dL_law_1320 ?_
  refine f_sld hc.1 (by omega) dL_law_1321 ?_
  refine v_aload_n (f := 0) 0 rfl dL_law_1322 ?_
  refine v_iload_n (f := 3) 3 rfl dL_law_1323 ?_
  refine v_iconst ⟨by decide, by decide⟩ dL_law_1324 ?_
  refine v_iaddN (by unfold b_r32; omega) dL_law_1325 ?_
  refine f_sld hc.1 (by omega) dL_law_1326 ?_
  refine v_cVI (nA := 2) (As := [bI _, bI _]) (ix := 136) (cf_X11_cant h) rfl kd_0 rfl rfl wc_X11_cant wm_BurntHallLaw_136 wi_X11_cant ws_X11_cant wn_11 ⟨by decide, by decide, by decide⟩ rfl ⟨by decide, by decide⟩ ⟨show kn.1 + 0 ≤ 600000 by omega, show kn.2 + 0 ≤ 7302250 by omega⟩ (Nat.le_of_ble_eq_true rfl) dL_law_1327 (fun x1 M1 h => ?_)
  refine v_aload_n (f := 2) 2 rfl dL_law_1330 ?_
  refine v_aload_n (f := 0) 0 rfl dL_law_1331 ?_
  refine v_iload_n (f := 3) 3 rfl dL_law_1332 ?_
  refine v_iconst ⟨by decide, by decide⟩ dL_law_1333 ?_
  refine v_iaddN (by unfold b_r32; omega) dL_law_1334 ?_
  refine f_sld hc.1 (by omega) dL_law_1335 ?_
  refine v_aload_n (f := 0) 0 rfl dL_law_1336 ?_
  refine v_iload_n (f := 3) 3 rfl dL_law_1337 ?_
  refine v_iconst ⟨by decide, by decide⟩ dL_law_1338 ?_
  refine v_iaddN (by unfold b_r32; omega) dL_law_1339 ?_
  refine f_sld hc.1 (by omega) dL_law_1340 ?_
  refine v_cVI (nA := 2) (As := [bI _, bI _]) (ix := 139) (cf_X12_cant h) rfl kd_11 rfl rfl wc_X12_cant wm_BurntHallLaw_139 wi_X12_cant ws_X12_cant wn_12 ⟨by decide, by decide, by decide⟩ rfl ⟨by decide, by decide⟩ ⟨show kn.1 + 0 + 0 ≤ 600000 by omega, show kn.2 + 0 + 0 ≤ 7302250 by omega⟩ (Nat.le_of_ble_eq_true rfl) dL_law_1341 (fun x2 M2 h => ?_)
  obtain ⟨he, h⟩ := h
  refine v_icmp_eq (tgt := 2105) dL_law_1344 (by decide) (fun _ => ?_) (fun q => absurd he q)
  refine v_iincN (ls' := [(3, bI _), (0, bR _), (1, bR _), (2, bR _)]) 3 rfl (by decide) (by unfold b_r32; omega) dL_law_2105 rfl ?_
  refine v_goto (tgt := 18) dL_law_2108 (by decide) ?_
  refine v_sub (ls2 := [(0, bR _), (1, bR _), (2, bR _), (3, bI _)]) [1, 2, 3, 0] rfl ?_
  exact v_widen (k2 := (kn.1 + 8, kn.2 + 1600)) ⟨show kn.1 + 0 + 0 ≤ kn.1 + 8 by omega, show kn.2 + 0 + 0 ≤ kn.2 + 1600 by omega⟩ h
theorem law_30 {l : Launch} {E : bE} {Ln : Nat} {xs : Int → Int} {kn : Nat × Nat} {i : Int} {M : bM} (hfg : b_fg E) (hc : lw_c kn Ln i) (hi : i + 8 ≤ Ln) (h : b_wp (F_X11_shown (xs (i + 1)) (xs (i + 2)) (xs (i + 3)) M) (fun o => b_wp (F_X12_shown (xs (i + 1)) (xs (i + 2)) (xs (i + 3)) o.2) (fun o2 => o.1 = o2.1 ∧ lw_hd l E Ln xs (kn.1 + 8, kn.2 + 1600) (i + 8) o2.2))) : VL l E x_law b_full kn 1349 [(0, bR 2100), (1, bR 0), (2, bR 11), (3, bI i)] [] M (G_law E Ln xs) := by
  unfold lw_c at hc
  refine v_aload_n (f := 1) 1 rfl dL_law_1349 ?_
  refine v_aload_n (f := 0) 0 rfl dL_law_1350 ?_
  refine v_iload_n (f := 3) 3 rfl dL_law_1351 ?_
  refine v_iconst ⟨by decide, by decide⟩ dL_law_1352 ?_
  refine v_iaddN (by unfold b_r32; omega) dL_law_1353 ?_
  refine f_sld hc.1 (by omega) dL_law_1354 ?_
  refine v_aload_n (f := 0) 0 rfl dL_law_1355 ?_
  refine v_iload_n (f := 3) 3 rfl dL_law_1356 ?_
  refine v_iconst ⟨by decide, by decide⟩ dL_law_1357 ?_
  refine v_iaddN (by unfold b_r32; omega) dL_law_1358 ?_
  refine f_sld hc.1 (by omega) dL_law_1359 ?_
  refine v_aload_n (f := 0) 0 rfl dL_law_1360 ?_
  refine v_iload_n (f := 3) 3 rfl dL_law_1361 ?_
  refine v_iconst ⟨by decide, by decide⟩ dL_law_1362 ?_
  refine v_iaddN (by unfold b_r32; omega) dL_law_1363 ?_
  refine f_sld hc.1 (by omega) dL_law_1364 ?_
  refine v_cVI (nA := 3) (As := [bI _, bI _, bI _]) (ix := 140) (cf_X11_shown h) rfl kd_0 rfl rfl wc_X11_shown wm_BurntHallLaw_140 wi_X11_shown ws_X11_shown wn_11 ⟨by decide, by decide, by decide⟩ rfl ⟨by decide, by decide⟩ ⟨show kn.1 + 0 ≤ 600000 by omega, show kn.2 + 0 ≤ 7302250 by omega⟩ (Nat.le_of_ble_eq_true rfl) dL_law_1365 (fun x1 M1 h => ?_)
  refine v_aload_n (f := 2) 2 rfl dL_law_1368 ?_
  refine v_aload_n (f := 0) 0 rfl dL_law_1369 ?_
  refine v_iload_n (f := 3) 3 rfl dL_law_1370 ?_
  refine v_iconst ⟨by decide, by decide⟩ dL_law_1371 ?_
  refine v_iaddN (by unfold b_r32; omega) dL_law_1372 ?_
  refine f_sld hc.1 (by omega) dL_law_1373 ?_
  refine v_aload_n (f := 0) 0 rfl dL_law_1374 ?_
  refine v_iload_n (f := 3) 3 rfl dL_law_1375 ?_
  refine v_iconst ⟨by decide, by decide⟩ dL_law_1376 ?_
  refine v_iaddN (by unfold b_r32; omega) dL_law_1377 ?_
  refine f_sld hc.1 (by omega) dL_law_1378 ?_
  refine v_aload_n (f := 0) 0 rfl dL_law_1379 ?_
  refine v_iload_n (f := 3) 3 rfl dL_law_1380 ?_
  refine v_iconst ⟨by decide, by decide⟩ dL_law_1381 ?_
  refine v_iaddN (by unfold b_r32; omega) dL_law_1382 ?_
  refine f_sld hc.1 (by omega) dL_law_1383 ?_
  refine v_cVI (nA := 3) (As := [bI _, bI _, bI _]) (ix := 143) (cf_X12_shown h) rfl kd_11 rfl rfl wc_X12_shown wm_BurntHallLaw_143 wi_X12_shown ws_X12_shown wn_12 ⟨by decide, by decide, by decide⟩ rfl ⟨by decide, by decide⟩ ⟨show kn.1 + 0 + 0 ≤ 600000 by omega, show kn.2 + 0 + 0 ≤ 7302250 by omega⟩ (Nat.le_of_ble_eq_true rfl) dL_law_1384 (fun x2 M2 h => ?_)
  obtain ⟨he, h⟩ := h
  refine v_icmp_eq (tgt := 2105) dL_law_1387 (by decide) (fun _ => ?_) (fun q => absurd he q)
  refine v_iincN (ls' := [(3, bI _), (0, bR _), (1, bR _), (2, bR _)]) 3 rfl (by decide) (by unfold b_r32; omega) dL_law_2105 rfl ?_
  refine v_goto (tgt := 18) dL_law_2108 (by decide) ?_
  refine v_sub (ls2 := [(0, bR _), (1, bR _), (2, bR _), (3, bI _)]) [1, 2, 3, 0] rfl ?_
  exact v_widen (k2 := (kn.1 + 8, kn.2 + 1600)) ⟨show kn.1 + 0 + 0 ≤ kn.1 + 8 by omega, show kn.2 + 0 + 0 ≤ kn.2 + 1600 by omega⟩ h
theorem law_31 {l : Launch} {E : bE} {Ln : Nat} {xs : Int → Int} {kn : Nat × Nat} {i : Int} {M : bM} (hfg : b_fg E) (hc : lw_c kn Ln i) (hi : i + 8 ≤ Ln) (h : b_wp (F_X11_root (xs (i + 1)) (xs (i + 2)) (xs (i + 3)) M) (fun o => b_wp (F_X12_root (xs (i + 1)) (xs (i + 2)) (xs (i + 3)) o.2) (fun o2 => o.1 = o2.1 ∧ lw_hd l E Ln xs (kn.1 + 8, kn.2 + 1600) (i + 8) o2.2))) : VL l E x_law b_full kn 1392 [(0, bR 2100), (1, bR 0), (2, bR 11), (3, bI i)] [] M (G_law E Ln xs) := by
  unfold lw_c at hc
  refine v_aload_n (f := 1) 1 rfl dL_law_1392 ?_
  refine v_aload_n (f := 0) 0 rfl dL_law_1393 ?_
  refine v_iload_n (f := 3) 3 rfl dL_law_1394 ?_
  refine v_iconst ⟨by decide, by decide⟩ dL_law_1395 ?_
  refine v_iaddN (by unfold b_r32; omega) dL_law_1396 ?_
  refine f_sld hc.1 (by omega) dL_law_1397 ?_
  refine v_aload_n (f := 0) 0 rfl dL_law_1398 ?_
  refine v_iload_n (f := 3) 3 rfl dL_law_1399 ?_
  refine v_iconst ⟨by decide, by decide⟩ dL_law_1400 ?_
  refine v_iaddN (by unfold b_r32; omega) dL_law_1401 ?_
  refine f_sld hc.1 (by omega) dL_law_1402 ?_
  refine v_aload_n (f := 0) 0 rfl dL_law_1403 ?_
  refine v_iload_n (f := 3) 3 rfl dL_law_1404 ?_
  refine v_iconst ⟨by decide, by decide⟩ dL_law_1405 ?_
  refine v_iaddN (by unfold b_r32; omega) dL_law_1406 ?_
  refine f_sld hc.1 (by omega) dL_law_1407 ?_
  refine v_cVI (nA := 3) (As := [bI _, bI _, bI _]) (ix := 144) (cf_X11_root h) rfl kd_0 rfl rfl wc_X11_root wm_BurntHallLaw_144 wi_X11_root ws_X11_root wn_11 ⟨by decide, by decide, by decide⟩ rfl ⟨by decide, by decide⟩ ⟨show kn.1 + 0 ≤ 600000 by omega, show kn.2 + 0 ≤ 7302250 by omega⟩ (Nat.le_of_ble_eq_true rfl) dL_law_1408 (fun x1 M1 h => ?_)
  refine v_aload_n (f := 2) 2 rfl dL_law_1411 ?_
  refine v_aload_n (f := 0) 0 rfl dL_law_1412 ?_
  refine v_iload_n (f := 3) 3 rfl dL_law_1413 ?_
  refine v_iconst ⟨by decide, by decide⟩ dL_law_1414 ?_
  refine v_iaddN (by unfold b_r32; omega) dL_law_1415 ?_
  refine f_sld hc.1 (by omega) dL_law_1416 ?_
  refine v_aload_n (f := 0) 0 rfl dL_law_1417 ?_
  refine v_iload_n (f := 3) 3 rfl dL_law_1418 ?_
  refine v_iconst ⟨by decide, by decide⟩ dL_law_1419 ?_
  refine v_iaddN (by unfold b_r32; omega) dL_law_1420 ?_
  refine f_sld hc.1 (by omega) dL_law_1421 ?_
  refine v_aload_n (f := 0) 0 rfl dL_law_1422 ?_
  refine v_iload_n (f := 3) 3 rfl dL_law_1423 ?_
  refine v_iconst ⟨by decide, by decide⟩ dL_law_1424 ?_
  refine v_iaddN (by unfold b_r32; omega) dL_law_1425 ?_
  refine f_sld hc.1 (by omega) dL_law_1426 ?_
  refine v_cVI (nA := 3) (As := [bI _, bI _, bI _]) (ix := 147) (cf_X12_root h) rfl kd_11 rfl rfl wc_X12_root wm_BurntHallLaw_147 wi_X12_root ws_X12_root wn_12 ⟨by decide, by decide, by decide⟩ rfl ⟨by decide, by decide⟩ ⟨show kn.1 + 0 + 0 ≤ 600000 by omega, show kn.2 + 0 + 0 ≤ 7302250 by omega⟩ (Nat.le_of_ble_eq_true rfl) dL_law_1427 (fun x2 M2 h => ?_)
  obtain ⟨he, h⟩ := h
  refine v_icmp_eq (tgt := 2105) dL_law_1430 (by decide) (fun _ => ?_) (fun q => absurd he q)
  refine v_iincN (ls' := [(3, bI _), (0, bR _), (1, bR _), (2, bR _)]) 3 rfl (by decide) (by unfold b_r32; omega) dL_law_2105 rfl ?_
  refine v_goto (tgt := 18) dL_law_2108 (by decide) ?_
  refine v_sub (ls2 := [(0, bR _), (1, bR _), (2, bR _), (3, bI _)]) [1, 2, 3, 0] rfl ?_
  exact v_widen (k2 := (kn.1 + 8, kn.2 + 1600)) ⟨show kn.1 + 0 + 0 ≤ kn.1 + 8 by omega, show kn.2 + 0 + 0 ≤ kn.2 + 1600 by omega⟩ h
theorem law_32 {l : Launch} {E : bE} {Ln : Nat} {xs : Int → Int} {kn : Nat × Nat} {i : Int} {M : bM} (hfg : b_fg E) (hc : lw_c kn Ln i) (hi : i + 8 ≤ Ln) (h : b_wp (F_X11_chain (xs (i + 1)) (xs (i + 2)) (xs (i + 3)) M) (fun o => b_wp (F_X12_chain (xs (i + 1)) (xs (i + 2)) (xs (i + 3)) o.2) (fun o2 => o.1 = o2.1 ∧ lw_hd l E Ln xs (kn.1 + 8, kn.2 + 1600) (i + 8) o2.2))) : VL l E x_law b_full kn 1435 [(0, bR 2100), (1, bR 0), (2, bR 11), (3, bI i)] [] M (G_law E Ln xs) := by
  unfold lw_c at hc
  refine v_aload_n (f := 1) 1 rfl dL_law_1435 ?_
  refine v_aload_n (f := 0) 0 rfl dL_law_1436 ?_
  refine v_iload_n (f := 3) 3 rfl dL_law_1437 ?_
  refine v_iconst ⟨by decide, by decide⟩ dL_law_1438 ?_
  refine v_iaddN (by unfold b_r32; omega) dL_law_1439 ?_
  refine f_sld hc.1 (by omega) dL_law_1440 ?_
  refine v_aload_n (f := 0) 0 rfl dL_law_1441 ?_
  refine v_iload_n (f := 3) 3 rfl dL_law_1442 ?_
  refine v_iconst ⟨by decide, by decide⟩ dL_law_1443 ?_
  refine v_iaddN (by unfold b_r32; omega) dL_law_1444 ?_
  refine f_sld hc.1 (by omega) dL_law_1445 ?_
  refine v_aload_n (f := 0) 0 rfl dL_law_1446 ?_
  refine v_iload_n (f := 3) 3 rfl dL_law_1447 ?_
  refine v_iconst ⟨by decide, by decide⟩ dL_law_1448 ?_
  refine v_iaddN (by unfold b_r32; omega) dL_law_1449 ?_
  refine f_sld hc.1 (by omega) dL_law_1450 ?_
  refine v_cVI (nA := 3) (As := [bI _, bI _, bI _]) (ix := 148) (cf_X11_chain h) rfl kd_0 rfl rfl wc_X11_chain wm_BurntHallLaw_148 wi_X11_chain ws_X11_chain wn_11 ⟨by decide, by decide, by decide⟩ rfl ⟨by decide, by decide⟩ ⟨show kn.1 + 0 ≤ 600000 by omega, show kn.2 + 0 ≤ 7302250 by omega⟩ (Nat.le_of_ble_eq_true rfl) dL_law_1451 (fun x1 M1 h => ?_)
  refine v_aload_n (f := 2) 2 rfl dL_law_1454 ?_
  refine v_aload_n (f := 0) 0 rfl dL_law_1455 ?_
  refine v_iload_n (f := 3) 3 rfl dL_law_1456 ?_
  refine v_iconst ⟨by decide, by decide⟩ dL_law_1457 ?_
  refine v_iaddN (by unfold b_r32; omega) dL_law_1458 ?_
  refine f_sld hc.1 (by omega) dL_law_1459 ?_
  refine v_aload_n (f := 0) 0 rfl dL_law_1460 ?_
  refine v_iload_n (f := 3) 3 rfl dL_law_1461 ?_
  refine v_iconst ⟨by decide, by decide⟩ dL_law_1462 ?_
  refine v_iaddN (by unfold b_r32; omega) dL_law_1463 ?_
  refine f_sld hc.1 (by omega) dL_law_1464 ?_
  refine v_aload_n (f := 0) 0 rfl dL_law_1465 ?_
  refine v_iload_n (f := 3) 3 rfl dL_law_1466 ?_
  refine v_iconst ⟨by decide, by decide⟩ dL_law_1467 ?_
  refine v_iaddN (by unfold b_r32; omega) dL_law_1468 ?_
  refine f_sld hc.1 (by omega) dL_law_1469 ?_
  refine v_cVI (nA := 3) (As := [bI _, bI _, bI _]) (ix := 151) (cf_X12_chain h) rfl kd_11 rfl rfl wc_X12_chain wm_BurntHallLaw_151 wi_X12_chain ws_X12_chain wn_12 ⟨by decide, by decide, by decide⟩ rfl ⟨by decide, by decide⟩ ⟨show kn.1 + 0 + 0 ≤ 600000 by omega, show kn.2 + 0 + 0 ≤ 7302250 by omega⟩ (Nat.le_of_ble_eq_true rfl) dL_law_1470 (fun x2 M2 h => ?_)
  obtain ⟨he, h⟩ := h
  refine v_icmp_eq (tgt := 2105) dL_law_1473 (by decide) (fun _ => ?_) (fun q => absurd he q)
  refine v_iincN (ls' := [(3, bI _), (0, bR _), (1, bR _), (2, bR _)]) 3 rfl (by decide) (by unfold b_r32; omega) dL_law_2105 rfl ?_
  refine v_goto (tgt := 18) dL_law_2108 (by decide) ?_
  refine v_sub (ls2 := [(0, bR _), (1, bR _), (2, bR _), (3, bI _)]) [1, 2, 3, 0] rfl ?_
  exact v_widen (k2 := (kn.1 + 8, kn.2 + 1600)) ⟨show kn.1 + 0 + 0 ≤ kn.1 + 8 by omega, show kn.2 + 0 + 0 ≤ kn.2 + 1600 by omega⟩ h
theorem law_33 {l : Launch} {E : bE} {Ln : Nat} {xs : Int → Int} {kn : Nat × Nat} {i : Int} {M : bM} (hfg : b_fg E) (hc : lw_c kn Ln i) (hi : i + 8 ≤ Ln) (h : b_wp (F_X11_linked (xs (i + 1)) M) (fun o => b_wp (F_X12_linked (xs (i + 1)) M) (fun o2 => o = o2 ∧ lw_hd l E Ln xs (kn.1 + 8, kn.2 + 1600) (i + 8) M))) : VL l E x_law b_full kn 1478 [(0, bR 2100), (1, bR 0), (2, bR 11), (3, bI i)] [] M (G_law E Ln xs) := by
  unfold lw_c at hc
  refine v_aload_n (f := 1) 1 rfl dL_law_1478 ?_
  refine v_aload_n (f := 0) 0 rfl dL_law_1479 ?_
  refine v_iload_n (f := 3) 3 rfl dL_law_1480 ?_
  refine v_iconst ⟨by decide, by decide⟩ dL_law_1481 ?_
  refine v_iaddN (by unfold b_r32; omega) dL_law_1482 ?_
  refine f_sld hc.1 (by omega) dL_law_1483 ?_
  refine v_cVIp (nA := 1) (As := [bI _]) (ix := 152) (cf_X11_linked h) rfl kd_0 rfl rfl wc_X11_linked wm_BurntHallLaw_152 wi_X11_linked ws_X11_linked wn_11 ⟨by decide, by decide, by decide⟩ rfl ⟨by decide, by decide⟩ ⟨show kn.1 + 0 ≤ 600000 by omega, show kn.2 + 0 ≤ 7302250 by omega⟩ (Nat.le_of_ble_eq_true rfl) dL_law_1484 (fun x1 h => ?_)
  refine v_aload_n (f := 2) 2 rfl dL_law_1487 ?_
  refine v_aload_n (f := 0) 0 rfl dL_law_1488 ?_
  refine v_iload_n (f := 3) 3 rfl dL_law_1489 ?_
  refine v_iconst ⟨by decide, by decide⟩ dL_law_1490 ?_
  refine v_iaddN (by unfold b_r32; omega) dL_law_1491 ?_
  refine f_sld hc.1 (by omega) dL_law_1492 ?_
  refine v_cVIp (nA := 1) (As := [bI _]) (ix := 155) (cf_X12_linked h) rfl kd_11 rfl rfl wc_X12_linked wm_BurntHallLaw_155 wi_X12_linked ws_X12_linked wn_12 ⟨by decide, by decide, by decide⟩ rfl ⟨by decide, by decide⟩ ⟨show kn.1 + 0 + 0 ≤ 600000 by omega, show kn.2 + 0 + 0 ≤ 7302250 by omega⟩ (Nat.le_of_ble_eq_true rfl) dL_law_1493 (fun x2 h => ?_)
  obtain ⟨he, h⟩ := h
  refine v_icmp_eq (tgt := 2105) dL_law_1496 (by decide) (fun _ => ?_) (fun q => absurd he q)
  refine v_iincN (ls' := [(3, bI _), (0, bR _), (1, bR _), (2, bR _)]) 3 rfl (by decide) (by unfold b_r32; omega) dL_law_2105 rfl ?_
  refine v_goto (tgt := 18) dL_law_2108 (by decide) ?_
  refine v_sub (ls2 := [(0, bR _), (1, bR _), (2, bR _), (3, bI _)]) [1, 2, 3, 0] rfl ?_
  exact v_widen (k2 := (kn.1 + 8, kn.2 + 1600)) ⟨show kn.1 + 0 + 0 ≤ kn.1 + 8 by omega, show kn.2 + 0 + 0 ≤ kn.2 + 1600 by omega⟩ h
theorem law_34 {l : Launch} {E : bE} {Ln : Nat} {xs : Int → Int} {kn : Nat × Nat} {i : Int} {M : bM} (hfg : b_fg E) (hc : lw_c kn Ln i) (hi : i + 8 ≤ Ln) (h : b_wp (F_X11_judge (xs (i + 1)) (xs (i + 2)) (xs (i + 3)) M) (fun o => b_wp (F_X12_judge (xs (i + 1)) (xs (i + 2)) (xs (i + 3)) o.2) (fun o2 => o.1 = o2.1 ∧ lw_hd l E Ln xs (kn.1 + 8, kn.2 + 1600) (i + 8) o2.2))) : VL l E x_law b_full kn 1501 [(0, bR 2100), (1, bR 0), (2, bR 11), (3, bI i)] [] M (G_law E Ln xs) := by
  unfold lw_c at hc
  refine v_aload_n (f := 1) 1 rfl dL_law_1501 ?_
  refine v_aload_n (f := 0) 0 rfl dL_law_1502 ?_
  refine v_iload_n (f := 3) 3 rfl dL_law_1503 ?_
  refine v_iconst ⟨by decide, by decide⟩ dL_law_1504 ?_
  refine v_iaddN (by unfold b_r32; omega) dL_law_1505 ?_
  refine f_sld hc.1 (by omega) dL_law_1506 ?_
  refine v_aload_n (f := 0) 0 rfl dL_law_1507 ?_
  refine v_iload_n (f := 3) 3 rfl dL_law_1508 ?_
  refine v_iconst ⟨by decide, by decide⟩ dL_law_1509 ?_
  refine v_iaddN (by unfold b_r32; omega) dL_law_1510 ?_
  refine f_sld hc.1 (by omega) dL_law_1511 ?_
  refine v_aload_n (f := 0) 0 rfl dL_law_1512 ?_
  refine v_iload_n (f := 3) 3 rfl dL_law_1513 ?_
  refine v_iconst ⟨by decide, by decide⟩ dL_law_1514 ?_
  refine v_iaddN (by unfold b_r32; omega) dL_law_1515 ?_
  refine f_sld hc.1 (by omega) dL_law_1516 ?_
  refine v_cVI (nA := 3) (As := [bI _, bI _, bI _]) (ix := 156) (cf_X11_judge h) rfl kd_0 rfl rfl wc_X11_judge wm_BurntHallLaw_156 wi_X11_judge ws_X11_judge wn_11 ⟨by decide, by decide, by decide⟩ rfl ⟨by decide, by decide⟩ ⟨show kn.1 + 0 ≤ 600000 by omega, show kn.2 + 0 ≤ 7302250 by omega⟩ (Nat.le_of_ble_eq_true rfl) dL_law_1517 (fun x1 M1 h => ?_)
  refine v_aload_n (f := 2) 2 rfl dL_law_1520 ?_
  refine v_aload_n (f := 0) 0 rfl dL_law_1521 ?_
  refine v_iload_n (f := 3) 3 rfl dL_law_1522 ?_
  refine v_iconst ⟨by decide, by decide⟩ dL_law_1523 ?_
  refine v_iaddN (by unfold b_r32; omega) dL_law_1524 ?_
  refine f_sld hc.1 (by omega) dL_law_1525 ?_
  refine v_aload_n (f := 0) 0 rfl dL_law_1526 ?_
  refine v_iload_n (f := 3) 3 rfl dL_law_1527 ?_
  refine v_iconst ⟨by decide, by decide⟩ dL_law_1528 ?_
  refine v_iaddN (by unfold b_r32; omega) dL_law_1529 ?_
  refine f_sld hc.1 (by omega) dL_law_1530 ?_
  refine v_aload_n (f := 0) 0 rfl dL_law_1531 ?_
  refine v_iload_n (f := 3) 3 rfl dL_law_1532 ?_
  refine v_iconst ⟨by decide, by decide⟩ dL_law_1533 ?_
  refine v_iaddN (by unfold b_r32; omega) dL_law_1534 ?_
  refine f_sld hc.1 (by omega) dL_law_1535 ?_
  refine v_cVI (nA := 3) (As := [bI _, bI _, bI _]) (ix := 159) (cf_X12_judge h) rfl kd_11 rfl rfl wc_X12_judge wm_BurntHallLaw_159 wi_X12_judge ws_X12_judge wn_12 ⟨by decide, by decide, by decide⟩ rfl ⟨by decide, by decide⟩ ⟨show kn.1 + 0 + 0 ≤ 600000 by omega, show kn.2 + 0 + 0 ≤ 7302250 by omega⟩ (Nat.le_of_ble_eq_true rfl) dL_law_1536 (fun x2 M2 h => ?_)
  obtain ⟨he, h⟩ := h
  refine v_icmp_eq (tgt := 2105) dL_law_1539 (by decide) (fun _ => ?_) (fun q => absurd he q)
  refine v_iincN (ls' := [(3, bI _), (0, bR _), (1, bR _), (2, bR _)]) 3 rfl (by decide) (by unfold b_r32; omega) dL_law_2105 rfl ?_
  refine v_goto (tgt := 18) dL_law_2108 (by decide) ?_
  refine v_sub (ls2 := [(0, bR _), (1, bR _), (2, bR _), (3, bI _)]) [1, 2, 3, 0] rfl ?_
  exact v_widen (k2 := (kn.1 + 8, kn.2 + 1600)) ⟨show kn.1 + 0 + 0 ≤ kn.1 + 8 by omega, show kn.2 + 0 + 0 ≤ kn.2 + 1600 by omega⟩ h
theorem law_35 {l : Launch} {E : bE} {Ln : Nat} {xs : Int → Int} {kn : Nat × Nat} {i : Int} {M : bM} (hfg : b_fg E) (hc : lw_c kn Ln i) (hi : i + 8 ≤ Ln) (h : b_wp (F_X11_held (xs (i + 1)) (xs (i + 2)) (xs (i + 3)) (xs (i + 4)) M) (fun o => b_wp (F_X12_held (xs (i + 1)) (xs (i + 2)) (xs (i + 3)) (xs (i + 4)) o.2) (fun o2 => o.1 = o2.1 ∧ lw_hd l E Ln xs (kn.1 + 8, kn.2 + 1600) (i + 8) o2.2))) : VL l E x_law b_full kn 1544 [(0, bR 2100), (1, bR 0), (2, bR 11), (3, bI i)] [] M (G_law E Ln xs) := by
  unfold lw_c at hc
  refine v_aload_n (f := 1) 1 rfl dL_law_1544 ?_
  refine v_aload_n (f := 0) 0 rfl dL_law_1545 ?_
  refine v_iload_n (f := 3) 3 rfl dL_law_1546 ?_
  refine v_iconst ⟨by decide, by decide⟩ dL_law_1547 ?_
  refine v_iaddN (by unfold b_r32; omega) dL_law_1548 ?_
  refine f_sld hc.1 (by omega) dL_law_1549 ?_
  refine v_aload_n (f := 0) 0 rfl dL_law_1550 ?_
  refine v_iload_n (f := 3) 3 rfl dL_law_1551 ?_
  refine v_iconst ⟨by decide, by decide⟩ dL_law_1552 ?_
  refine v_iaddN (by unfold b_r32; omega) dL_law_1553 ?_
  refine f_sld hc.1 (by omega) dL_law_1554 ?_
  refine v_aload_n (f := 0) 0 rfl dL_law_1555 ?_
  refine v_iload_n (f := 3) 3 rfl dL_law_1556 ?_
  refine v_iconst ⟨by decide, by decide⟩ dL_law_1557 ?_
  refine v_iaddN (by unfold b_r32; omega) dL_law_1558 ?_
  refine f_sld hc.1 (by omega) dL_law_1559 ?_
  refine v_aload_n (f := 0) 0 rfl dL_law_1560 ?_
  refine v_iload_n (f := 3) 3 rfl dL_law_1561 ?_
  refine v_iconst ⟨by decide, by decide⟩ dL_law_1562 ?_
  refine v_iaddN (by unfold b_r32; omega) dL_law_1563 ?_
  refine f_sld hc.1 (by omega) dL_law_1564 ?_
  refine v_cVI (nA := 4) (As := [bI _, bI _, bI _, bI _]) (ix := 160) (cf_X11_held h) rfl kd_0 rfl rfl wc_X11_held wm_BurntHallLaw_160 wi_X11_held ws_X11_held wn_11 ⟨by decide, by decide, by decide⟩ rfl ⟨by decide, by decide⟩ ⟨show kn.1 + 0 ≤ 600000 by omega, show kn.2 + 0 ≤ 7302250 by omega⟩ (Nat.le_of_ble_eq_true rfl) dL_law_1565 (fun x1 M1 h => ?_)
  refine v_aload_n (f := 2) 2 rfl dL_law_1568 ?_
  refine v_aload_n (f := 0) 0 rfl dL_law_1569 ?_
  refine v_iload_n (f := 3) 3 rfl dL_law_1570 ?_
  refine v_iconst ⟨by decide, by decide⟩ dL_law_1571 ?_
  refine v_iaddN (by unfold b_r32; omega) dL_law_1572 ?_
  refine f_sld hc.1 (by omega) dL_law_1573 ?_
  refine v_aload_n (f := 0) 0 rfl dL_law_1574 ?_
  refine v_iload_n (f := 3) 3 rfl dL_law_1575 ?_
  refine v_iconst ⟨by decide, by decide⟩ dL_law_1576 ?_
  refine v_iaddN (by unfold b_r32; omega) dL_law_1577 ?_
  refine f_sld hc.1 (by omega) dL_law_1578 ?_
  refine v_aload_n (f := 0) 0 rfl dL_law_1579 ?_
  refine v_iload_n (f := 3) 3 rfl dL_law_1580 ?_
  refine v_iconst ⟨by decide, by decide⟩ dL_law_1581 ?_
  refine v_iaddN (by unfold b_r32; omega) dL_law_1582 ?_
  refine f_sld hc.1 (by omega) dL_law_1583 ?_
  refine v_aload_n (f := 0) 0 rfl dL_law_1584 ?_
  refine v_iload_n (f := 3) 3 rfl dL_law_1585 ?_
  refine v_iconst ⟨by decide, by decide⟩ dL_law_1586 ?_
  refine v_iaddN (by unfold b_r32; omega) dL_law_1587 ?_
  refine f_sld hc.1 (by omega) dL_law_1588 ?_
  refine v_cVI (nA := 4) (As := [bI _, bI _, bI _, bI _]) (ix := 164) (cf_X12_held h) rfl kd_11 rfl rfl wc_X12_held wm_BurntHallLaw_164 wi_X12_held ws_X12_held wn_12 ⟨by decide, by decide, by decide⟩ rfl ⟨by decide, by decide⟩ ⟨show kn.1 + 0 + 0 ≤ 600000 by omega, show kn.2 + 0 + 0 ≤ 7302250 by omega⟩ (Nat.le_of_ble_eq_true rfl) dL_law_1589 (fun x2 M2 h => ?_)
  obtain ⟨he, h⟩ := h
  refine v_icmp_eq (tgt := 2105) dL_law_1592 (by decide) (fun _ => ?_) (fun q => absurd he q)
  refine v_iincN (ls' := [(3, bI _), (0, bR _), (1, bR _), (2, bR _)]) 3 rfl (by decide) (by unfold b_r32; omega) dL_law_2105 rfl ?_
  refine v_goto (tgt := 18) dL_law_2108 (by decide) ?_
  refine v_sub (ls2 := [(0, bR _), (1, bR _), (2, bR _), (3, bI _)]) [1, 2, 3, 0] rfl ?_
  exact v_widen (k2 := (kn.1 + 8, kn.2 + 1600)) ⟨show kn.1 + 0 + 0 ≤ kn.1 + 8 by omega, show kn.2 + 0 + 0 ≤ kn.2 + 1600 by omega⟩ h
theorem law_36 {l : Launch} {E : bE} {Ln : Nat} {xs : Int → Int} {kn : Nat × Nat} {i : Int} {M : bM} (hfg : b_fg E) (hc : lw_c kn Ln i) (hi : i + 8 ≤ Ln) (h : b_wp (F_X11_mortgage (xs (i + 1)) (xs (i + 2)) (xs (i + 3)) (xs (i + 4)) (xs (i + 5)) M) (fun o => b_wp (F_X12_mortgage (xs (i + 1)) (xs (i + 2)) (xs (i + 3)) (xs (i + 4)) (xs (i + 5)) o.2) (fun o2 => o.1 = o2.1 ∧ lw_hd l E Ln xs (kn.1 + 8, kn.2 + 1600) (i + 8) o2.2))) : VL l E x_law b_full kn 1597 [(0, bR 2100), (1, bR 0), (2, bR 11), (3, bI i)] [] M (G_law E Ln xs) := by
  unfold lw_c at hc
  refine v_aload_n (f := 1) 1 rfl dL_law_1597 ?_
  refine v_aload_n (f := 0) 0 rfl dL_law_1598 ?_
  refine v_iload_n (f := 3) 3 rfl dL_law_1599 ?_
  refine v_iconst ⟨by decide, by decide⟩ dL_law_1600 ?_
  refine v_iaddN (by unfold b_r32; omega) dL_law_1601 ?_
  refine f_sld hc.1 (by omega) dL_law_1602 ?_
  refine v_aload_n (f := 0) 0 rfl dL_law_1603 ?_
  refine v_iload_n (f := 3) 3 rfl dL_law_1604 ?_
  refine v_iconst ⟨by decide, by decide⟩ dL_law_1605 ?_
  refine v_iaddN (by unfold b_r32; omega) dL_law_1606 ?_
  refine f_sld hc.1 (by omega) dL_law_1607 ?_
  refine v_aload_n (f := 0) 0 rfl dL_law_1608 ?_
  refine v_iload_n (f := 3) 3 rfl dL_law_1609 ?_
  refine v_iconst ⟨by decide, by decide⟩ dL_law_1610 ?_
  refine v_iaddN (by unfold b_r32; omega) dL_law_1611 ?_
  refine f_sld hc.1 (by omega) dL_law_1612 ?_
  refine v_aload_n (f := 0) 0 rfl dL_law_1613 ?_
  refine v_iload_n (f := 3) 3 rfl dL_law_1614 ?_
  refine v_iconst ⟨by decide, by decide⟩ dL_law_1615 ?_
  refine v_iaddN (by unfold b_r32; omega) dL_law_1616 ?_
  refine f_sld hc.1 (by omega) dL_law_1617 ?_
  refine v_aload_n (f := 0) 0 rfl dL_law_1618 ?_
  refine v_iload_n (f := 3) 3 rfl dL_law_1619 ?_
  refine v_iconst ⟨by decide, by decide⟩ dL_law_1620 ?_
  refine v_iaddN (by unfold b_r32; omega) dL_law_1621 ?_
  refine f_sld hc.1 (by omega) dL_law_1622 ?_
  refine v_cVI (nA := 5) (As := [bI _, bI _, bI _, bI _, bI _]) (ix := 165) (cf_X11_mortgage h) rfl kd_0 rfl rfl wc_X11_mortgage wm_BurntHallLaw_165 wi_X11_mortgage ws_X11_mortgage wn_11 ⟨by decide, by decide, by decide⟩ rfl ⟨by decide, by decide⟩ ⟨show kn.1 + 0 ≤ 600000 by omega, show kn.2 + 0 ≤ 7302250 by omega⟩ (Nat.le_of_ble_eq_true rfl) dL_law_1623 (fun x1 M1 h => ?_)
  refine v_aload_n (f := 2) 2 rfl dL_law_1626 ?_
  refine v_aload_n (f := 0) 0 rfl dL_law_1627 ?_
  refine v_iload_n (f := 3) 3 rfl dL_law_1628 ?_
  refine v_iconst ⟨by decide, by decide⟩ dL_law_1629 ?_
  refine v_iaddN (by unfold b_r32; omega) dL_law_1630 ?_
  refine f_sld hc.1 (by omega) dL_law_1631 ?_
  refine v_aload_n (f := 0) 0 rfl dL_law_1632 ?_
  refine v_iload_n (f := 3) 3 rfl dL_law_1633 ?_
  refine v_iconst ⟨by decide, by decide⟩ dL_law_1634 ?_
  refine v_iaddN (by unfold b_r32; omega) dL_law_1635 ?_
  refine f_sld hc.1 (by omega) dL_law_1636 ?_
  refine v_aload_n (f := 0) 0 rfl dL_law_1637 ?_
  refine v_iload_n (f := 3) 3 rfl dL_law_1638 ?_
  refine v_iconst ⟨by decide, by decide⟩ dL_law_1639 ?_
  refine v_iaddN (by unfold b_r32; omega) dL_law_1640 ?_
  refine f_sld hc.1 (by omega) dL_law_1641 ?_
  refine v_aload_n (f := 0) 0 rfl dL_law_1642 ?_
  refine v_iload_n (f := 3) 3 rfl dL_law_1643 ?_
  refine v_iconst ⟨by decide, by decide⟩ dL_law_1644 ?_
  refine v_iaddN (by unfold b_r32; omega) dL_law_1645 ?_
  refine f_sld hc.1 (by omega) dL_law_1646 ?_
  refine v_aload_n (f := 0) 0 rfl dL_law_1647 ?_
  refine v_iload_n (f := 3) 3 rfl dL_law_1648 ?_
  refine v_iconst ⟨by decide, by decide⟩ dL_law_1649 ?_
  refine v_iaddN (by unfold b_r32; omega) dL_law_1650 ?_
  refine f_sld hc.1 (by omega) dL_law_1651 ?_
  refine v_cVI (nA := 5) (As := [bI _, bI _, bI _, bI _, bI _]) (ix := 168) (cf_X12_mortgage h) rfl kd_11 rfl rfl wc_X12_mortgage wm_BurntHallLaw_168 wi_X12_mortgage ws_X12_mortgage wn_12 ⟨by decide, by decide, by decide⟩ rfl ⟨by decide, by decide⟩ ⟨show kn.1 + 0 + 0 ≤ 600000 by omega, show kn.2 + 0 + 0 ≤ 7302250 by omega⟩ (Nat.le_of_ble_eq_true rfl) dL_law_1652 (fun x2 M2 h => ?_)
  obtain ⟨he, h⟩ := h
  refine v_icmp_eq (tgt := 2105) dL_law_1655 (by decide) (fun _ => ?_) (fun q => absurd he q)
  refine v_iincN (ls' := [(3, bI _), (0, bR _), (1, bR _), (2, bR _)]) 3 rfl (by decide) (by unfold b_r32; omega) dL_law_2105 rfl ?_
  refine v_goto (tgt := 18) dL_law_2108 (by decide) ?_
  refine v_sub (ls2 := [(0, bR _), (1, bR _), (2, bR _), (3, bI _)]) [1, 2, 3, 0] rfl ?_
  exact v_widen (k2 := (kn.1 + 8, kn.2 + 1600)) ⟨show kn.1 + 0 + 0 ≤ kn.1 + 8 by omega, show kn.2 + 0 + 0 ≤ kn.2 + 1600 by omega⟩ h
theorem law_37 {l : Launch} {E : bE} {Ln : Nat} {xs : Int → Int} {kn : Nat × Nat} {i : Int} {M : bM} (hfg : b_fg E) (hc : lw_c kn Ln i) (hi : i + 8 ≤ Ln) (h : b_wp (F_X11_paid (xs (i + 1)) (xs (i + 2)) M) (fun o => b_wp (F_X12_paid (xs (i + 1)) (xs (i + 2)) o.2) (fun o2 => o.1 = o2.1 ∧ lw_hd l E Ln xs (kn.1 + 8, kn.2 + 1600) (i + 8) o2.2))) : VL l E x_law b_full kn 1660 [(0, bR 2100), (1, bR 0), (2, bR 11), (3, bI i)] [] M (G_law E Ln xs) := by
  unfold lw_c at hc
  refine v_aload_n (f := 1) 1 rfl dL_law_1660 ?_
  refine v_aload_n (f := 0) 0 rfl dL_law_1661 ?_
  refine v_iload_n (f := 3) 3 rfl dL_law_1662 ?_
  refine v_iconst ⟨by decide, by decide⟩ dL_law_1663 ?_
  refine v_iaddN (by unfold b_r32; omega) dL_law_1664 ?_
  refine f_sld hc.1 (by omega) dL_law_1665 ?_
  refine v_aload_n (f := 0) 0 rfl dL_law_1666 ?_
  refine v_iload_n (f := 3) 3 rfl dL_law_1667 ?_
  refine v_iconst ⟨by decide, by decide⟩ dL_law_1668 ?_
  refine v_iaddN (by unfold b_r32; omega) dL_law_1669 ?_
  refine f_sld hc.1 (by omega) dL_law_1670 ?_
  refine v_cVI (nA := 2) (As := [bI _, bI _]) (ix := 169) (cf_X11_paid h) rfl kd_0 rfl rfl wc_X11_paid wm_BurntHallLaw_169 wi_X11_paid ws_X11_paid wn_11 ⟨by decide, by decide, by decide⟩ rfl ⟨by decide, by decide⟩ ⟨show kn.1 + 0 ≤ 600000 by omega, show kn.2 + 0 ≤ 7302250 by omega⟩ (Nat.le_of_ble_eq_true rfl) dL_law_1671 (fun x1 M1 h => ?_)
  refine v_aload_n (f := 2) 2 rfl dL_law_1674 ?_
  refine v_aload_n (f := 0) 0 rfl dL_law_1675 ?_
  refine v_iload_n (f := 3) 3 rfl dL_law_1676 ?_
  refine v_iconst ⟨by decide, by decide⟩ dL_law_1677 ?_
  refine v_iaddN (by unfold b_r32; omega) dL_law_1678 ?_
  refine f_sld hc.1 (by omega) dL_law_1679 ?_
  refine v_aload_n (f := 0) 0 rfl dL_law_1680 ?_
  refine v_iload_n (f := 3) 3 rfl dL_law_1681 ?_
  refine v_iconst ⟨by decide, by decide⟩ dL_law_1682 ?_
  refine v_iaddN (by unfold b_r32; omega) dL_law_1683 ?_
  refine f_sld hc.1 (by omega) dL_law_1684 ?_
  refine v_cVI (nA := 2) (As := [bI _, bI _]) (ix := 172) (cf_X12_paid h) rfl kd_11 rfl rfl wc_X12_paid wm_BurntHallLaw_172 wi_X12_paid ws_X12_paid wn_12 ⟨by decide, by decide, by decide⟩ rfl ⟨by decide, by decide⟩ ⟨show kn.1 + 0 + 0 ≤ 600000 by omega, show kn.2 + 0 + 0 ≤ 7302250 by omega⟩ (Nat.le_of_ble_eq_true rfl) dL_law_1685 (fun x2 M2 h => ?_)
  obtain ⟨he, h⟩ := h
  refine v_icmp_eq (tgt := 2105) dL_law_1688 (by decide) (fun _ => ?_) (fun q => absurd he q)
  refine v_iincN (ls' := [(3, bI _), (0, bR _), (1, bR _), (2, bR _)]) 3 rfl (by decide) (by unfold b_r32; omega) dL_law_2105 rfl ?_
  refine v_goto (tgt := 18) dL_law_2108 (by decide) ?_
  refine v_sub (ls2 := [(0, bR _), (1, bR _), (2, bR _), (3, bI _)]) [1, 2, 3, 0] rfl ?_
  exact v_widen (k2 := (kn.1 + 8, kn.2 + 1600)) ⟨show kn.1 + 0 + 0 ≤ kn.1 + 8 by omega, show kn.2 + 0 + 0 ≤ kn.2 + 1600 by omega⟩ h
theorem law_38 {l : Launch} {E : bE} {Ln : Nat} {xs : Int → Int} {kn : Nat × Nat} {i : Int} {M : bM} (hfg : b_fg E) (hc : lw_c kn Ln i) (hi : i + 8 ≤ Ln) (h : b_wp (F_X11_stands (xs (i + 1)) (xs (i + 2)) (xs (i + 3)) M) (fun o => b_wp (F_X12_stands (xs (i + 1)) (xs (i + 2)) (xs (i + 3)) M) (fun o2 => o = o2 ∧ lw_hd l E Ln xs (kn.1 + 8, kn.2 + 1600) (i + 8) M))) : VL l E x_law b_full kn 1693 [(0, bR 2100), (1, bR 0), (2, bR 11), (3, bI i)] [] M (G_law E Ln xs) := by
  unfold lw_c at hc
  refine v_aload_n (f := 1) 1 rfl dL_law_1693 ?_
  refine v_aload_n (f := 0) 0 rfl dL_law_1694 ?_
  refine v_iload_n (f := 3) 3 rfl dL_law_1695 ?_
  refine v_iconst ⟨by decide, by decide⟩ dL_law_1696 ?_
  refine v_iaddN (by unfold b_r32; omega) dL_law_1697 ?_
  refine f_sld hc.1 (by omega) dL_law_1698 ?_
  refine v_aload_n (f := 0) 0 rfl dL_law_1699 ?_
  refine v_iload_n (f := 3) 3 rfl dL_law_1700 ?_
  refine v_iconst ⟨by decide, by decide⟩ dL_law_1701 ?_
  refine v_iaddN (by unfold b_r32; omega) dL_law_1702 ?_
  refine f_sld hc.1 (by omega) dL_law_1703 ?_
  refine v_aload_n (f := 0) 0 rfl dL_law_1704 ?_
  refine v_iload_n (f := 3) 3 rfl dL_law_1705 ?_
  refine v_iconst ⟨by decide, by decide⟩ dL_law_1706 ?_
  refine v_iaddN (by unfold b_r32; omega) dL_law_1707 ?_
  refine f_sld hc.1 (by omega) dL_law_1708 ?_
  refine v_cVIp (nA := 3) (As := [bI _, bI _, bI _]) (ix := 173) (cf_X11_stands h) rfl kd_0 rfl rfl wc_X11_stands wm_BurntHallLaw_173 wi_X11_stands ws_X11_stands wn_11 ⟨by decide, by decide, by decide⟩ rfl ⟨by decide, by decide⟩ ⟨show kn.1 + 0 ≤ 600000 by omega, show kn.2 + 0 ≤ 7302250 by omega⟩ (Nat.le_of_ble_eq_true rfl) dL_law_1709 (fun x1 h => ?_)
  refine v_aload_n (f := 2) 2 rfl dL_law_1712 ?_
  refine v_aload_n (f := 0) 0 rfl dL_law_1713 ?_
  refine v_iload_n (f := 3) 3 rfl dL_law_1714 ?_
  refine v_iconst ⟨by decide, by decide⟩ dL_law_1715 ?_
  refine v_iaddN (by unfold b_r32; omega) dL_law_1716 ?_
  refine f_sld hc.1 (by omega) dL_law_1717 ?_
  refine v_aload_n (f := 0) 0 rfl dL_law_1718 ?_
  refine v_iload_n (f := 3) 3 rfl dL_law_1719 ?_
  refine v_iconst ⟨by decide, by decide⟩ dL_law_1720 ?_
  refine v_iaddN (by unfold b_r32; omega) dL_law_1721 ?_
  refine f_sld hc.1 (by omega) dL_law_1722 ?_
  refine v_aload_n (f := 0) 0 rfl dL_law_1723 ?_
  refine v_iload_n (f := 3) 3 rfl dL_law_1724 ?_
  refine v_iconst ⟨by decide, by decide⟩ dL_law_1725 ?_
  refine v_iaddN (by unfold b_r32; omega) dL_law_1726 ?_
  refine f_sld hc.1 (by omega) dL_law_1727 ?_
  refine v_cVIp (nA := 3) (As := [bI _, bI _, bI _]) (ix := 176) (cf_X12_stands h) rfl kd_11 rfl rfl wc_X12_stands wm_BurntHallLaw_176 wi_X12_stands ws_X12_stands wn_12 ⟨by decide, by decide, by decide⟩ rfl ⟨by decide, by decide⟩ ⟨show kn.1 + 0 + 0 ≤ 600000 by omega, show kn.2 + 0 + 0 ≤ 7302250 by omega⟩ (Nat.le_of_ble_eq_true rfl) dL_law_1728 (fun x2 h => ?_)
  obtain ⟨he, h⟩ := h
  refine v_icmp_eq (tgt := 2105) dL_law_1731 (by decide) (fun _ => ?_) (fun q => absurd he q)
  refine v_iincN (ls' := [(3, bI _), (0, bR _), (1, bR _), (2, bR _)]) 3 rfl (by decide) (by unfold b_r32; omega) dL_law_2105 rfl ?_
  refine v_goto (tgt := 18) dL_law_2108 (by decide) ?_
  refine v_sub (ls2 := [(0, bR _), (1, bR _), (2, bR _), (3, bI _)]) [1, 2, 3, 0] rfl ?_
  exact v_widen (k2 := (kn.1 + 8, kn.2 + 1600)) ⟨show kn.1 + 0 + 0 ≤ kn.1 + 8 by omega, show kn.2 + 0 + 0 ≤ kn.2 + 1600 by omega⟩ h
theorem law_39 {l : Launch} {E : bE} {Ln : Nat} {xs : Int → Int} {kn : Nat × Nat} {i : Int} {M : bM} (hfg : b_fg E) (hc : lw_c kn Ln i) (hi : i + 8 ≤ Ln) (h : b_wp (F_X11_rank (xs (i + 1)) (xs (i + 2)) (xs (i + 3)) M) (fun o => b_wp (F_X12_rank (xs (i + 1)) (xs (i + 2)) (xs (i + 3)) M) (fun o2 => o = o2 ∧ lw_hd l E Ln xs (kn.1 + 8, kn.2 + 1600) (i + 8) M))) : VL l E x_law b_full kn 1736 [(0, bR 2100), (1, bR 0), (2, bR 11), (3, bI i)] [] M (G_law E Ln xs) := by
  unfold lw_c at hc
  refine v_aload_n (f := 1) 1 rfl dL_law_1736 ?_
  refine v_aload_n (f := 0) 0 rfl dL_law_1737 ?_
  refine v_iload_n (f := 3) 3 rfl dL_law_1738 ?_
  refine v_iconst ⟨by decide, by decide⟩ dL_law_1739 ?_
  refine v_iaddN (by unfold b_r32; omega) dL_law_1740 ?_
  refine f_sld hc.1 (by omega) dL_law_1741 ?_
  refine v_aload_n (f := 0) 0 rfl dL_law_1742 ?_
  refine v_iload_n (f := 3) 3 rfl dL_law_1743 ?_
  refine v_iconst ⟨by decide, by decide⟩ dL_law_1744 ?_
  refine v_iaddN (by unfold b_r32; omega) dL_law_1745 ?_
  refine f_sld hc.1 (by omega) dL_law_1746 ?_
  refine v_aload_n (f := 0) 0 rfl dL_law_1747 ?_
  refine v_iload_n (f := 3) 3 rfl dL_law_1748 ?_
  refine v_iconst ⟨by decide, by decide⟩ dL_law_1749 ?_
  refine v_iaddN (by unfold b_r32; omega) dL_law_1750 ?_
  refine f_sld hc.1 (by omega) dL_law_1751 ?_
  refine v_cVIp (nA := 3) (As := [bI _, bI _, bI _]) (ix := 177) (cf_X11_rank h) rfl kd_0 rfl rfl wc_X11_rank wm_BurntHallLaw_177 wi_X11_rank ws_X11_rank wn_11 ⟨by decide, by decide, by decide⟩ rfl ⟨by decide, by decide⟩ ⟨show kn.1 + 0 ≤ 600000 by omega, show kn.2 + 0 ≤ 7302250 by omega⟩ (Nat.le_of_ble_eq_true rfl) dL_law_1752 (fun x1 h => ?_)
  refine v_aload_n (f := 2) 2 rfl dL_law_1755 ?_
  refine v_aload_n (f := 0) 0 rfl dL_law_1756 ?_
  refine v_iload_n (f := 3) 3 rfl dL_law_1757 ?_
  refine v_iconst ⟨by decide, by decide⟩ dL_law_1758 ?_
  refine v_iaddN (by unfold b_r32; omega) dL_law_1759 ?_
  refine f_sld hc.1 (by omega) dL_law_1760 ?_
  refine v_aload_n (f := 0) 0 rfl dL_law_1761 ?_
  refine v_iload_n (f := 3) 3 rfl dL_law_1762 ?_
  refine v_iconst ⟨by decide, by decide⟩ dL_law_1763 ?_
  refine v_iaddN (by unfold b_r32; omega) dL_law_1764 ?_
  refine f_sld hc.1 (by omega) dL_law_1765 ?_
  refine v_aload_n (f := 0) 0 rfl dL_law_1766 ?_
  refine v_iload_n (f := 3) 3 rfl dL_law_1767 ?_
  refine v_iconst ⟨by decide, by decide⟩ dL_law_1768 ?_
  refine v_iaddN (by unfold b_r32; omega) dL_law_1769 ?_
  refine f_sld hc.1 (by omega) dL_law_1770 ?_
  refine v_cVIp (nA := 3) (As := [bI _, bI _, bI _]) (ix := 180) (cf_X12_rank h) rfl kd_11 rfl rfl wc_X12_rank wm_BurntHallLaw_180 wi_X12_rank ws_X12_rank wn_12 ⟨by decide, by decide, by decide⟩ rfl ⟨by decide, by decide⟩ ⟨show kn.1 + 0 + 0 ≤ 600000 by omega, show kn.2 + 0 + 0 ≤ 7302250 by omega⟩ (Nat.le_of_ble_eq_true rfl) dL_law_1771 (fun x2 h => ?_)
  obtain ⟨he, h⟩ := h
  refine v_icmp_eq (tgt := 2105) dL_law_1774 (by decide) (fun _ => ?_) (fun q => absurd he q)
  refine v_iincN (ls' := [(3, bI _), (0, bR _), (1, bR _), (2, bR _)]) 3 rfl (by decide) (by unfold b_r32; omega) dL_law_2105 rfl ?_
  refine v_goto (tgt := 18) dL_law_2108 (by decide) ?_
  refine v_sub (ls2 := [(0, bR _), (1, bR _), (2, bR _), (3, bI _)]) [1, 2, 3, 0] rfl ?_
  exact v_widen (k2 := (kn.1 + 8, kn.2 + 1600)) ⟨show kn.1 + 0 + 0 ≤ kn.1 + 8 by omega, show kn.2 + 0 + 0 ≤ kn.2 + 1600 by omega⟩ h
theorem law_40 {l : Launch} {E : bE} {Ln : Nat} {xs : Int → Int} {kn : Nat × Nat} {i : Int} {M : bM} (hfg : b_fg E) (hc : lw_c kn Ln i) (hi : i + 8 ≤ Ln) (h : b_wp (F_X11_claim (xs (i + 1)) (xs (i + 2)) M) (fun o => b_wp (F_X12_claim (xs (i + 1)) (xs (i + 2)) o.2) (fun o2 => o.1 = o2.1 ∧ lw_hd l E Ln xs (kn.1 + 8, kn.2 + 1600) (i + 8) o2.2))) : VL l E x_law b_full kn 1779 [(0, bR 2100), (1, bR 0), (2, bR 11), (3, bI i)] [] M (G_law E Ln xs) := by
  unfold lw_c at hc
  refine v_aload_n (f := 1) 1 rfl dL_law_1779 ?_
  refine v_aload_n (f := 0) 0 rfl dL_law_1780 ?_
  refine v_iload_n (f := 3) 3 rfl dL_law_1781 ?_
  refine v_iconst ⟨by decide, by decide⟩ dL_law_1782 ?_
  refine v_iaddN (by unfold b_r32; omega) dL_law_1783 ?_
  refine f_sld hc.1 (by omega) dL_law_1784 ?_
  refine v_aload_n (f := 0) 0 rfl dL_law_1785 ?_
  refine v_iload_n (f := 3) 3 rfl dL_law_1786 ?_
  refine v_iconst ⟨by decide, by decide⟩ dL_law_1787 ?_
  refine v_iaddN (by unfold b_r32; omega) dL_law_1788 ?_
  refine f_sld hc.1 (by omega) dL_law_1789 ?_
  refine v_cVI (nA := 2) (As := [bI _, bI _]) (ix := 181) (cf_X11_claim h) rfl kd_0 rfl rfl wc_X11_claim wm_BurntHallLaw_181 wi_X11_claim ws_X11_claim wn_11 ⟨by decide, by decide, by decide⟩ rfl ⟨by decide, by decide⟩ ⟨show kn.1 + 0 ≤ 600000 by omega, show kn.2 + 0 ≤ 7302250 by omega⟩ (Nat.le_of_ble_eq_true rfl) dL_law_1790 (fun x1 M1 h => ?_)
  refine v_aload_n (f := 2) 2 rfl dL_law_1793 ?_
  refine v_aload_n (f := 0) 0 rfl dL_law_1794 ?_
  refine v_iload_n (f := 3) 3 rfl dL_law_1795 ?_
  refine v_iconst ⟨by decide, by decide⟩ dL_law_1796 ?_
  refine v_iaddN (by unfold b_r32; omega) dL_law_1797 ?_
  refine f_sld hc.1 (by omega) dL_law_1798 ?_
  refine v_aload_n (f := 0) 0 rfl dL_law_1799 ?_
  refine v_iload_n (f := 3) 3 rfl dL_law_1800 ?_
  refine v_iconst ⟨by decide, by decide⟩ dL_law_1801 ?_
  refine v_iaddN (by unfold b_r32; omega) dL_law_1802 ?_
  refine f_sld hc.1 (by omega) dL_law_1803 ?_
  refine v_cVI (nA := 2) (As := [bI _, bI _]) (ix := 184) (cf_X12_claim h) rfl kd_11 rfl rfl wc_X12_claim wm_BurntHallLaw_184 wi_X12_claim ws_X12_claim wn_12 ⟨by decide, by decide, by decide⟩ rfl ⟨by decide, by decide⟩ ⟨show kn.1 + 0 + 0 ≤ 600000 by omega, show kn.2 + 0 + 0 ≤ 7302250 by omega⟩ (Nat.le_of_ble_eq_true rfl) dL_law_1804 (fun x2 M2 h => ?_)
  obtain ⟨he, h⟩ := h
  refine v_icmp_eq (tgt := 2105) dL_law_1807 (by decide) (fun _ => ?_) (fun q => absurd he q)
  refine v_iincN (ls' := [(3, bI _), (0, bR _), (1, bR _), (2, bR _)]) 3 rfl (by decide) (by unfold b_r32; omega) dL_law_2105 rfl ?_
  refine v_goto (tgt := 18) dL_law_2108 (by decide) ?_
  refine v_sub (ls2 := [(0, bR _), (1, bR _), (2, bR _), (3, bI _)]) [1, 2, 3, 0] rfl ?_
  exact v_widen (k2 := (kn.1 + 8, kn.2 + 1600)) ⟨show kn.1 + 0 + 0 ≤ kn.1 + 8 by omega, show kn.2 + 0 + 0 ≤ kn.2 + 1600 by omega⟩ h
theorem law_41 {l : Launch} {E : bE} {Ln : Nat} {xs : Int → Int} {kn : Nat × Nat} {i : Int} {M : bM} (hfg : b_fg E) (hc : lw_c kn Ln i) (hi : i + 8 ≤ Ln) (h : b_wp (F_X11_sit (xs (i + 1)) M) (fun o => b_wp (F_X12_sit (xs (i + 1)) o.2) (fun o2 => o.1 = o2.1 ∧ lw_hd l E Ln xs (kn.1 + 8, kn.2 + 1600) (i + 8) o2.2))) : VL l E x_law b_full kn 1812 [(0, bR 2100), (1, bR 0), (2, bR 11), (3, bI i)] [] M (G_law E Ln xs) := by
  unfold lw_c at hc
  refine v_aload_n (f := 1) 1 rfl dL_law_1812 ?_
  refine v_aload_n (f := 0) 0 rfl dL_law_1813 ?_
  refine v_iload_n (f := 3) 3 rfl dL_law_1814 ?_
  refine v_iconst ⟨by decide, by decide⟩ dL_law_1815 ?_
  refine v_iaddN (by unfold b_r32; omega) dL_law_1816 ?_
  refine f_sld hc.1 (by omega) dL_law_1817 ?_
  refine v_cVI (nA := 1) (As := [bI _]) (ix := 185) (cf_X11_sit h) rfl kd_0 rfl rfl wc_X11_sit wm_BurntHallLaw_185 wi_X11_sit ws_X11_sit wn_11 ⟨by decide, by decide, by decide⟩ rfl ⟨by decide, by decide⟩ ⟨show kn.1 + 0 ≤ 600000 by omega, show kn.2 + 0 ≤ 7302250 by omega⟩ (Nat.le_of_ble_eq_true rfl) dL_law_1818 (fun x1 M1 h => ?_)
  refine v_aload_n (f := 2) 2 rfl dL_law_1821 ?_
  refine v_aload_n (f := 0) 0 rfl dL_law_1822 ?_
  refine v_iload_n (f := 3) 3 rfl dL_law_1823 ?_
  refine v_iconst ⟨by decide, by decide⟩ dL_law_1824 ?_
  refine v_iaddN (by unfold b_r32; omega) dL_law_1825 ?_
  refine f_sld hc.1 (by omega) dL_law_1826 ?_
  refine v_cVI (nA := 1) (As := [bI _]) (ix := 188) (cf_X12_sit h) rfl kd_11 rfl rfl wc_X12_sit wm_BurntHallLaw_188 wi_X12_sit ws_X12_sit wn_12 ⟨by decide, by decide, by decide⟩ rfl ⟨by decide, by decide⟩ ⟨show kn.1 + 0 + 0 ≤ 600000 by omega, show kn.2 + 0 + 0 ≤ 7302250 by omega⟩ (Nat.le_of_ble_eq_true rfl) dL_law_1827 (fun x2 M2 h => ?_)
  obtain ⟨he, h⟩ := h
  refine v_icmp_eq (tgt := 2105) dL_law_1830 (by decide) (fun _ => ?_) (fun q => absurd he q)
  refine v_iincN (ls' := [(3, bI _), (0, bR _), (1, bR _), (2, bR _)]) 3 rfl (by decide) (by unfold b_r32; omega) dL_law_2105 rfl ?_
  refine v_goto (tgt := 18) dL_law_2108 (by decide) ?_
  refine v_sub (ls2 := [(0, bR _), (1, bR _), (2, bR _), (3, bI _)]) [1, 2, 3, 0] rfl ?_
  exact v_widen (k2 := (kn.1 + 8, kn.2 + 1600)) ⟨show kn.1 + 0 + 0 ≤ kn.1 + 8 by omega, show kn.2 + 0 + 0 ≤ kn.2 + 1600 by omega⟩ h
theorem law_42 {l : Launch} {E : bE} {Ln : Nat} {xs : Int → Int} {kn : Nat × Nat} {i : Int} {M : bM} (hfg : b_fg E) (hc : lw_c kn Ln i) (hi : i + 8 ≤ Ln) (h : b_wp (F_X11_worth (xs (i + 1)) M) (fun o => b_wp (F_X12_worth (xs (i + 1)) o.2) (fun o2 => o.1 = o2.1 ∧ lw_hd l E Ln xs (kn.1 + 8, kn.2 + 1600) (i + 8) o2.2))) : VL l E x_law b_full kn 1835 [(0, bR 2100), (1, bR 0), (2, bR 11), (3, bI i)] [] M (G_law E Ln xs) := by
  unfold lw_c at hc
  refine v_aload_n (f := 1) 1 rfl dL_law_1835 ?_
  refine v_aload_n (f := 0) 0 rfl dL_law_1836 ?_
  refine v_iload_n (f := 3) 3 rfl dL_law_1837 ?_
  refine v_iconst ⟨by decide, by decide⟩ dL_law_1838 ?_
  refine v_iaddN (by unfold b_r32; omega) dL_law_1839 ?_
  refine f_sld hc.1 (by omega) dL_law_1840 ?_
  refine v_cVI (nA := 1) (As := [bI _]) (ix := 189) (cf_X11_worth h) rfl kd_0 rfl rfl wc_X11_worth wm_BurntHallLaw_189 wi_X11_worth ws_X11_worth wn_11 ⟨by decide, by decide, by decide⟩ rfl ⟨by decide, by decide⟩ ⟨show kn.1 + 0 ≤ 600000 by omega, show kn.2 + 0 ≤ 7302250 by omega⟩ (Nat.le_of_ble_eq_true rfl) dL_law_1841 (fun x1 M1 h => ?_)
  refine v_aload_n (f := 2) 2 rfl dL_law_1844 ?_
  refine v_aload_n (f := 0) 0 rfl dL_law_1845 ?_
  refine v_iload_n (f := 3) 3 rfl dL_law_1846 ?_
  refine v_iconst ⟨by decide, by decide⟩ dL_law_1847 ?_
  refine v_iaddN (by unfold b_r32; omega) dL_law_1848 ?_
  refine f_sld hc.1 (by omega) dL_law_1849 ?_
  refine v_cVI (nA := 1) (As := [bI _]) (ix := 192) (cf_X12_worth h) rfl kd_11 rfl rfl wc_X12_worth wm_BurntHallLaw_192 wi_X12_worth ws_X12_worth wn_12 ⟨by decide, by decide, by decide⟩ rfl ⟨by decide, by decide⟩ ⟨show kn.1 + 0 + 0 ≤ 600000 by omega, show kn.2 + 0 + 0 ≤ 7302250 by omega⟩ (Nat.le_of_ble_eq_true rfl) dL_law_1850 (fun x2 M2 h => ?_)
  obtain ⟨he, h⟩ := h
  refine v_icmp_eq (tgt := 2105) dL_law_1853 (by decide) (fun _ => ?_) (fun q => absurd he q)
  refine v_iincN (ls' := [(3, bI _), (0, bR _), (1, bR _), (2, bR _)]) 3 rfl (by decide) (by unfold b_r32; omega) dL_law_2105 rfl ?_
  refine v_goto (tgt := 18) dL_law_2108 (by decide) ?_
  refine v_sub (ls2 := [(0, bR _), (1, bR _), (2, bR _), (3, bI _)]) [1, 2, 3, 0] rfl ?_
  exact v_widen (k2 := (kn.1 + 8, kn.2 + 1600)) ⟨show kn.1 + 0 + 0 ≤ kn.1 + 8 by omega, show kn.2 + 0 + 0 ≤ kn.2 + 1600 by omega⟩ h
theorem law_43 {l : Launch} {E : bE} {Ln : Nat} {xs : Int → Int} {kn : Nat × Nat} {i : Int} {M : bM} (hfg : b_fg E) (hc : lw_c kn Ln i) (hi : i + 8 ≤ Ln) (h : b_wp (F_X11_claimed (xs (i + 1)) (xs (i + 2)) M) (fun o => b_wp (F_X12_claimed (xs (i + 1)) (xs (i + 2)) M) (fun o2 => o = o2 ∧ lw_hd l E Ln xs (kn.1 + 8, kn.2 + 1600) (i + 8) M))) : VL l E x_law b_full kn 1858 [(0, bR 2100), (1, bR 0), (2, bR 11), (3, bI i)] [] M (G_law E Ln xs) := by
  unfold lw_c at hc
  refine v_aload_n (f := 1) 1 rfl dL_law_1858 ?_
  refine v_aload_n (f := 0) 0 rfl dL_law_1859 ?_
  refine v_iload_n (f := 3) 3 rfl dL_law_1860 ?_
  refine v_iconst ⟨by decide, by decide⟩ dL_law_1861 ?_
  refine v_iaddN (by unfold b_r32; omega) dL_law_1862 ?_
  refine f_sld hc.1 (by omega) dL_law_1863 ?_
  refine v_aload_n (f := 0) 0 rfl dL_law_1864 ?_
  refine v_iload_n (f := 3) 3 rfl dL_law_1865 ?_
  refine v_iconst ⟨by decide, by decide⟩ dL_law_1866 ?_
  refine v_iaddN (by unfold b_r32; omega) dL_law_1867 ?_
  refine f_sld hc.1 (by omega) dL_law_1868 ?_
  refine v_cVIp (nA := 2) (As := [bI _, bI _]) (ix := 193) (cf_X11_claimed h) rfl kd_0 rfl rfl wc_X11_claimed wm_BurntHallLaw_193 wi_X11_claimed ws_X11_claimed wn_11 ⟨by decide, by decide, by decide⟩ rfl ⟨by decide, by decide⟩ ⟨show kn.1 + 0 ≤ 600000 by omega, show kn.2 + 0 ≤ 7302250 by omega⟩ (Nat.le_of_ble_eq_true rfl) dL_law_1869 (fun x1 h => ?_)
  refine v_aload_n (f := 2) 2 rfl dL_law_1872 ?_
  refine v_aload_n (f := 0) 0 rfl dL_law_1873 ?_
  refine v_iload_n (f := 3) 3 rfl dL_law_1874 ?_
  refine v_iconst ⟨by decide, by decide⟩ dL_law_1875 ?_
  refine v_iaddN (by unfold b_r32; omega) dL_law_1876 ?_
  refine f_sld hc.1 (by omega) dL_law_1877 ?_
  refine v_aload_n (f := 0) 0 rfl dL_law_1878 ?_
  refine v_iload_n (f := 3) 3 rfl dL_law_1879 ?_
  refine v_iconst ⟨by decide, by decide⟩ dL_law_1880 ?_
  refine v_iaddN (by unfold b_r32; omega) dL_law_1881 ?_
  refine f_sld hc.1 (by omega) dL_law_1882 ?_
  refine v_cVIp (nA := 2) (As := [bI _, bI _]) (ix := 196) (cf_X12_claimed h) rfl kd_11 rfl rfl wc_X12_claimed wm_BurntHallLaw_196 wi_X12_claimed ws_X12_claimed wn_12 ⟨by decide, by decide, by decide⟩ rfl ⟨by decide, by decide⟩ ⟨show kn.1 + 0 + 0 ≤ 600000 by omega, show kn.2 + 0 + 0 ≤ 7302250 by omega⟩ (Nat.le_of_ble_eq_true rfl) dL_law_1883 (fun x2 h => ?_)
  obtain ⟨he, h⟩ := h
  refine v_icmp_eq (tgt := 2105) dL_law_1886 (by decide) (fun _ => ?_) (fun q => absurd he q)
  refine v_iincN (ls' := [(3, bI _), (0, bR _), (1, bR _), (2, bR _)]) 3 rfl (by decide) (by unfold b_r32; omega) dL_law_2105 rfl ?_
  refine v_goto (tgt := 18) dL_law_2108 (by decide) ?_
  refine v_sub (ls2 := [(0, bR _), (1, bR _), (2, bR _), (3, bI _)]) [1, 2, 3, 0] rfl ?_
  exact v_widen (k2 := (kn.1 + 8, kn.2 + 1600)) ⟨show kn.1 + 0 + 0 ≤ kn.1 + 8 by omega, show kn.2 + 0 + 0 ≤ kn.2 + 1600 by omega⟩ h
theorem law_44 {l : Launch} {E : bE} {Ln : Nat} {xs : Int → Int} {kn : Nat × Nat} {i : Int} {M : bM} (hfg : b_fg E) (hc : lw_c kn Ln i) (hi : i + 8 ≤ Ln) (h : b_wp (F_X11_ruled (xs (i + 1)) (xs (i + 2)) M) (fun o => b_wp (F_X12_ruled (xs (i + 1)) (xs (i + 2)) M) (fun o2 => o = o2 ∧ lw_hd l E Ln xs (kn.1 + 8, kn.2 + 1600) (i + 8) M))) : VL l E x_law b_full kn 1891 [(0, bR 2100), (1, bR 0), (2, bR 11), (3, bI i)] [] M (G_law E Ln xs) := by
  unfold lw_c at hc
  refine v_aload_n (f := 1) 1 rfl dL_law_1891 ?_
  refine v_aload_n (f := 0) 0 rfl dL_law_1892 ?_
  refine v_iload_n (f := 3) 3 rfl dL_law_1893 ?_
  refine v_iconst ⟨by decide, by decide⟩ dL_law_1894 ?_
  refine v_iaddN (by unfold b_r32; omega) dL_law_1895 ?_
  refine f_sld hc.1 (by omega) dL_law_1896 ?_
  refine v_aload_n (f := 0) 0 rfl dL_law_1897 ?_
  refine v_iload_n (f := 3) 3 rfl dL_law_1898 ?_
  refine v_iconst ⟨by decide, by decide⟩ dL_law_1899 ?_
  refine v_iaddN (by unfold b_r32; omega) dL_law_1900 ?_
  refine f_sld hc.1 (by omega) dL_law_1901 ?_
  refine v_cVIp (nA := 2) (As := [bI _, bI _]) (ix := 197) (cf_X11_ruled h) rfl kd_0 rfl rfl wc_X11_ruled wm_BurntHallLaw_197 wi_X11_ruled ws_X11_ruled wn_11 ⟨by decide, by decide, by decide⟩ rfl ⟨by decide, by decide⟩ ⟨show kn.1 + 0 ≤ 600000 by omega, show kn.2 + 0 ≤ 7302250 by omega⟩ (Nat.le_of_ble_eq_true rfl) dL_law_1902 (fun x1 h => ?_)
  refine v_aload_n (f := 2) 2 rfl dL_law_1905 ?_
  refine v_aload_n (f := 0) 0 rfl dL_law_1906 ?_
  refine v_iload_n (f := 3) 3 rfl dL_law_1907 ?_
  refine v_iconst ⟨by decide, by decide⟩ dL_law_1908 ?_
  refine v_iaddN (by unfold b_r32; omega) dL_law_1909 ?_
  refine f_sld hc.1 (by omega) dL_law_1910 ?_
  refine v_aload_n (f := 0) 0 rfl dL_law_1911 ?_
  refine v_iload_n (f := 3) 3 rfl dL_law_1912 ?_
  refine v_iconst ⟨by decide, by decide⟩ dL_law_1913 ?_
  refine v_iaddN (by unfold b_r32; omega) dL_law_1914 ?_
  refine f_sld hc.1 (by omega) dL_law_1915 ?_
  refine v_cVIp (nA := 2) (As := [bI _, bI _]) (ix := 200) (cf_X12_ruled h) rfl kd_11 rfl rfl wc_X12_ruled wm_BurntHallLaw_200 wi_X12_ruled ws_X12_ruled wn_12 ⟨by decide, by decide, by decide⟩ rfl ⟨by decide, by decide⟩ ⟨show kn.1 + 0 + 0 ≤ 600000 by omega, show kn.2 + 0 + 0 ≤ 7302250 by omega⟩ (Nat.le_of_ble_eq_true rfl) dL_law_1916 (fun x2 h => ?_)
  obtain ⟨he, h⟩ := h
  refine v_icmp_eq (tgt := 2105) dL_law_1919 (by decide) (fun _ => ?_) (fun q => absurd he q)
  refine v_iincN (ls' := [(3, bI _), (0, bR _), (1, bR _), (2, bR _)]) 3 rfl (by decide) (by unfold b_r32; omega) dL_law_2105 rfl ?_
  refine v_goto (tgt := 18) dL_law_2108 (by decide) ?_
  refine v_sub (ls2 := [(0, bR _), (1, bR _), (2, bR _), (3, bI _)]) [1, 2, 3, 0] rfl ?_
  exact v_widen (k2 := (kn.1 + 8, kn.2 + 1600)) ⟨show kn.1 + 0 + 0 ≤ kn.1 + 8 by omega, show kn.2 + 0 + 0 ≤ kn.2 + 1600 by omega⟩ h
theorem law_45 {l : Launch} {E : bE} {Ln : Nat} {xs : Int → Int} {kn : Nat × Nat} {i : Int} {M : bM} (hfg : b_fg E) (hc : lw_c kn Ln i) (hi : i + 8 ≤ Ln) (h : b_wp (F_X11_open (xs (i + 1)) M) (fun o => b_wp (F_X12_open (xs (i + 1)) o.2) (fun o2 => o.1 = o2.1 ∧ lw_hd l E Ln xs (kn.1 + 8, kn.2 + 1600) (i + 8) o2.2))) : VL l E x_law b_full kn 1924 [(0, bR 2100), (1, bR 0), (2, bR 11), (3, bI i)] [] M (G_law E Ln xs) := by
  unfold lw_c at hc
  refine v_aload_n (f := 1) 1 rfl dL_law_1924 ?_
  refine v_aload_n (f := 0) 0 rfl dL_law_1925 ?_
  refine v_iload_n (f := 3) 3 rfl dL_law_1926 ?_
  refine v_iconst ⟨by decide, by decide⟩ dL_law_1927 ?_
  refine v_iaddN (by unfold b_r32; omega) dL_law_1928 ?_
  refine f_sld hc.1 (by omega) dL_law_1929 ?_
  refine v_cVI (nA := 1) (As := [bI _]) (ix := 201) (cf_X11_open h) rfl kd_0 rfl rfl wc_X11_open wm_BurntHallLaw_201 wi_X11_open ws_X11_open wn_11 ⟨by decide, by decide, by decide⟩ rfl ⟨by decide, by decide⟩ ⟨show kn.1 + 0 ≤ 600000 by omega, show kn.2 + 0 ≤ 7302250 by omega⟩ (Nat.le_of_ble_eq_true rfl) dL_law_1930 (fun x1 M1 h => ?_)
  refine v_aload_n (f := 2) 2 rfl dL_law_1933 ?_
  refine v_aload_n (f := 0) 0 rfl dL_law_1934 ?_
  refine v_iload_n (f := 3) 3 rfl dL_law_1935 ?_
  refine v_iconst ⟨by decide, by decide⟩ dL_law_1936 ?_
  refine v_iaddN (by unfold b_r32; omega) dL_law_1937 ?_
  refine f_sld hc.1 (by omega) dL_law_1938 ?_
  refine v_cVI (nA := 1) (As := [bI _]) (ix := 204) (cf_X12_open h) rfl kd_11 rfl rfl wc_X12_open wm_BurntHallLaw_204 wi_X12_open ws_X12_open wn_12 ⟨by decide, by decide, by decide⟩ rfl ⟨by decide, by decide⟩ ⟨show kn.1 + 0 + 0 ≤ 600000 by omega, show kn.2 + 0 + 0 ≤ 7302250 by omega⟩ (Nat.le_of_ble_eq_true rfl) dL_law_1939 (fun x2 M2 h => ?_)
  obtain ⟨he, h⟩ := h
  refine v_icmp_eq (tgt := 2105) dL_law_1942 (by decide) (fun _ => ?_) (fun q => absurd he q)
  refine v_iincN (ls' := [(3, bI _), (0, bR _), (1, bR _), (2, bR _)]) 3 rfl (by decide) (by unfold b_r32; omega) dL_law_2105 rfl ?_
  refine v_goto (tgt := 18) dL_law_2108 (by decide) ?_
  refine v_sub (ls2 := [(0, bR _), (1, bR _), (2, bR _), (3, bI _)]) [1, 2, 3, 0] rfl ?_
  exact v_widen (k2 := (kn.1 + 8, kn.2 + 1600)) ⟨show kn.1 + 0 + 0 ≤ kn.1 + 8 by omega, show kn.2 + 0 + 0 ≤ kn.2 + 1600 by omega⟩ h
theorem law_46 {l : Launch} {E : bE} {Ln : Nat} {xs : Int → Int} {kn : Nat × Nat} {i : Int} {M : bM} (hfg : b_fg E) (hc : lw_c kn Ln i) (hi : i + 8 ≤ Ln) (h : b_wp (F_X11_fund (xs (i + 1)) M) (fun o => b_wp (F_X12_fund (xs (i + 1)) o.2) (fun o2 => o.1 = o2.1 ∧ lw_hd l E Ln xs (kn.1 + 8, kn.2 + 1600) (i + 8) o2.2))) : VL l E x_law b_full kn 1947 [(0, bR 2100), (1, bR 0), (2, bR 11), (3, bI i)] [] M (G_law E Ln xs) := by
  unfold lw_c at hc
  refine v_aload_n (f := 1) 1 rfl dL_law_1947 ?_
  refine v_aload_n (f := 0) 0 rfl dL_law_1948 ?_
  refine v_iload_n (f := 3) 3 rfl dL_law_1949 ?_
  refine v_iconst ⟨by decide, by decide⟩ dL_law_1950 ?_
  refine v_iaddN (by unfold b_r32; omega) dL_law_1951 ?_
  refine f_sld hc.1 (by omega) dL_law_1952 ?_
  refine v_cVI (nA := 1) (As := [bI _]) (ix := 205) (cf_X11_fund h) rfl kd_0 rfl rfl wc_X11_fund wm_BurntHallLaw_205 wi_X11_fund ws_X11_fund wn_11 ⟨by decide, by decide, by decide⟩ rfl ⟨by decide, by decide⟩ ⟨show kn.1 + 0 ≤ 600000 by omega, show kn.2 + 0 ≤ 7302250 by omega⟩ (Nat.le_of_ble_eq_true rfl) dL_law_1953 (fun x1 M1 h => ?_)
  refine v_aload_n (f := 2) 2 rfl dL_law_1956 ?_
  refine v_aload_n (f := 0) 0 rfl dL_law_1957 ?_
  refine v_iload_n (f := 3) 3 rfl dL_law_1958 ?_
  refine v_iconst ⟨by decide, by decide⟩ dL_law_1959 ?_
  refine v_iaddN (by unfold b_r32; omega) dL_law_1960 ?_
  refine f_sld hc.1 (by omega) dL_law_1961 ?_
  refine v_cVI (nA := 1) (As := [bI _]) (ix := 208) (cf_X12_fund h) rfl kd_11 rfl rfl wc_X12_fund wm_BurntHallLaw_208 wi_X12_fund ws_X12_fund wn_12 ⟨by decide, by decide, by decide⟩ rfl ⟨by decide, by decide⟩ ⟨show kn.1 + 0 + 0 ≤ 600000 by omega, show kn.2 + 0 + 0 ≤ 7302250 by omega⟩ (Nat.le_of_ble_eq_true rfl) dL_law_1962 (fun x2 M2 h => ?_)
  obtain ⟨he, h⟩ := h
  refine v_icmp_eq (tgt := 2105) dL_law_1965 (by decide) (fun _ => ?_) (fun q => absurd he q)
  refine v_iincN (ls' := [(3, bI _), (0, bR _), (1, bR _), (2, bR _)]) 3 rfl (by decide) (by unfold b_r32; omega) dL_law_2105 rfl ?_
  refine v_goto (tgt := 18) dL_law_2108 (by decide) ?_
  refine v_sub (ls2 := [(0, bR _), (1, bR _), (2, bR _), (3, bI _)]) [1, 2, 3, 0] rfl ?_
  exact v_widen (k2 := (kn.1 + 8, kn.2 + 1600)) ⟨show kn.1 + 0 + 0 ≤ kn.1 + 8 by omega, show kn.2 + 0 + 0 ≤ kn.2 + 1600 by omega⟩ h
theorem law_47 {l : Launch} {E : bE} {Ln : Nat} {xs : Int → Int} {kn : Nat × Nat} {i : Int} {M : bM} (hfg : b_fg E) (hc : lw_c kn Ln i) (hi : i + 8 ≤ Ln) (h : b_wp (F_X11_place (xs (i + 1)) (xs (i + 2)) (xs (i + 3)) M) (fun o => b_wp (F_X12_place (xs (i + 1)) (xs (i + 2)) (xs (i + 3)) o.2) (fun o2 => o.1 = o2.1 ∧ lw_hd l E Ln xs (kn.1 + 8, kn.2 + 1600) (i + 8) o2.2))) : VL l E x_law b_full kn 1970 [(0, bR 2100), (1, bR 0), (2, bR 11), (3, bI i)] [] M (G_law E Ln xs) := by
  unfold lw_c at hc
  refine v_aload_n (f := 1) 1 rfl dL_law_1970 ?_
  refine v_aload_n (f := 0) 0 rfl dL_law_1971 ?_
  refine v_iload_n (f := 3) 3 rfl dL_law_1972 ?_
  refine v_iconst ⟨by decide, by decide⟩ dL_law_1973 ?_
  refine v_iaddN (by unfold b_r32; omega) dL_law_1974 ?_
  refine f_sld hc.1 (by omega) dL_law_1975 ?_
  refine v_aload_n (f := 0) 0 rfl dL_law_1976 ?_
  refine v_iload_n (f := 3) 3 rfl dL_law_1977 ?_
  refine v_iconst ⟨by decide, by decide⟩ dL_law_1978 ?_
  refine v_iaddN (by unfold b_r32; omega) dL_law_1979 ?_
  refine f_sld hc.1 (by omega) dL_law_1980 ?_
  refine v_aload_n (f := 0) 0 rfl dL_law_1981 ?_
  refine v_iload_n (f := 3) 3 rfl dL_law_1982 ?_
  refine v_iconst ⟨by decide, by decide⟩ dL_law_1983 ?_
  refine v_iaddN (by unfold b_r32; omega) dL_law_1984 ?_
  refine f_sld hc.1 (by omega) dL_law_1985 ?_
  refine v_cVI (nA := 3) (As := [bI _, bI _, bI _]) (ix := 209) (cf_X11_place h) rfl kd_0 rfl rfl wc_X11_place wm_BurntHallLaw_209 wi_X11_place ws_X11_place wn_11 ⟨by decide, by decide, by decide⟩ rfl ⟨by decide, by decide⟩ ⟨show kn.1 + 0 ≤ 600000 by omega, show kn.2 + 0 ≤ 7302250 by omega⟩ (Nat.le_of_ble_eq_true rfl) dL_law_1986 (fun x1 M1 h => ?_)
  refine v_aload_n (f := 2) 2 rfl dL_law_1989 ?_
  refine v_aload_n (f := 0) 0 rfl dL_law_1990 ?_
  refine v_iload_n (f := 3) 3 rfl dL_law_1991 ?_
  refine v_iconst ⟨by decide, by decide⟩ dL_law_1992 ?_
  refine v_iaddN (by unfold b_r32; omega) dL_law_1993 ?_
  refine f_sld hc.1 (by omega) dL_law_1994 ?_
  refine v_aload_n (f := 0) 0 rfl dL_law_1995 ?_
  refine v_iload_n (f := 3) 3 rfl dL_law_1996 ?_
  refine v_iconst ⟨by decide, by decide⟩ dL_law_1997 ?_
  refine v_iaddN (by unfold b_r32; omega) dL_law_1998 ?_
  refine f_sld hc.1 (by omega) dL_law_1999 ?_
  refine v_aload_n (f := 0) 0 rfl dL_law_2000 ?_
  refine v_iload_n (f := 3) 3 rfl dL_law_2001 ?_
  refine v_iconst ⟨by decide, by decide⟩ dL_law_2002 ?_
  refine v_iaddN (by unfold b_r32; omega) dL_law_2003 ?_
  refine f_sld hc.1 (by omega) dL_law_2004 ?_
  refine v_cVI (nA := 3) (As := [bI _, bI _, bI _]) (ix := 212) (cf_X12_place h) rfl kd_11 rfl rfl wc_X12_place wm_BurntHallLaw_212 wi_X12_place ws_X12_place wn_12 ⟨by decide, by decide, by decide⟩ rfl ⟨by decide, by decide⟩ ⟨show kn.1 + 0 + 0 ≤ 600000 by omega, show kn.2 + 0 + 0 ≤ 7302250 by omega⟩ (Nat.le_of_ble_eq_true rfl) dL_law_2005 (fun x2 M2 h => ?_)
  obtain ⟨he, h⟩ := h
  refine v_icmp_eq (tgt := 2105) dL_law_2008 (by decide) (fun _ => ?_) (fun q => absurd he q)
  refine v_iincN (ls' := [(3, bI _), (0, bR _), (1, bR _), (2, bR _)]) 3 rfl (by decide) (by unfold b_r32; omega) dL_law_2105 rfl ?_
  refine v_goto (tgt := 18) dL_law_2108 (by decide) ?_
  refine v_sub (ls2 := [(0, bR _), (1, bR _), (2, bR _), (3, bI _)]) [1, 2, 3, 0] rfl ?_
  exact v_widen (k2 := (kn.1 + 8, kn.2 + 1600)) ⟨show kn.1 + 0 + 0 ≤ kn.1 + 8 by omega, show kn.2 + 0 + 0 ≤ kn.2 + 1600 by omega⟩ h
theorem law_48 {l : Launch} {E : bE} {Ln : Nat} {xs : Int → Int} {kn : Nat × Nat} {i : Int} {M : bM} (hfg : b_fg E) (hc : lw_c kn Ln i) (hi : i + 8 ≤ Ln) (h : b_wp (F_X11_settles (xs (i + 1)) M) (fun o => b_wp (F_X12_settles (xs (i + 1)) o.2) (fun o2 => o.1 = o2.1 ∧ lw_hd l E Ln xs (kn.1 + 8, kn.2 + 1600) (i + 8) o2.2))) : VL l E x_law b_full kn 2013 [(0, bR 2100), (1, bR 0), (2, bR 11), (3, bI i)] [] M (G_law E Ln xs) := by
  unfold lw_c at hc
  refine v_aload_n (f := 1) 1 rfl dL_law_2013 ?_
  refine v_aload_n (f := 0) 0 rfl dL_law_2014 ?_
  refine v_iload_n (f := 3) 3 rfl dL_law_2015 ?_
  refine v_iconst ⟨by decide, by decide⟩ dL_law_2016 ?_
  refine v_iaddN (by unfold b_r32; omega) dL_law_2017 ?_
  refine f_sld hc.1 (by omega) dL_law_2018 ?_
  refine v_cVI (nA := 1) (As := [bI _]) (ix := 213) (cf_X11_settles h) rfl kd_0 rfl rfl wc_X11_settles wm_BurntHallLaw_213 wi_X11_settles ws_X11_settles wn_11 ⟨by decide, by decide, by decide⟩ rfl ⟨by decide, by decide⟩ ⟨show kn.1 + 0 ≤ 600000 by omega, show kn.2 + 0 ≤ 7302250 by omega⟩ (Nat.le_of_ble_eq_true rfl) dL_law_2019 (fun x1 M1 h => ?_)
  refine v_aload_n (f := 2) 2 rfl dL_law_2022 ?_
  refine v_aload_n (f := 0) 0 rfl dL_law_2023 ?_
  refine v_iload_n (f := 3) 3 rfl dL_law_2024 ?_
  refine v_iconst ⟨by decide, by decide⟩ dL_law_2025 ?_
  refine v_iaddN (by unfold b_r32; omega) dL_law_2026 ?_
  refine f_sld hc.1 (by omega) dL_law_2027 ?_
  refine v_cVI (nA := 1) (As := [bI _]) (ix := 216) (cf_X12_settles h) rfl kd_11 rfl rfl wc_X12_settles wm_BurntHallLaw_216 wi_X12_settles ws_X12_settles wn_12 ⟨by decide, by decide, by decide⟩ rfl ⟨by decide, by decide⟩ ⟨show kn.1 + 0 + 0 ≤ 600000 by omega, show kn.2 + 0 + 0 ≤ 7302250 by omega⟩ (Nat.le_of_ble_eq_true rfl) dL_law_2028 (fun x2 M2 h => ?_)
  obtain ⟨he, h⟩ := h
  refine v_icmp_eq (tgt := 2105) dL_law_2031 (by decide) (fun _ => ?_) (fun q => absurd he q)
  refine v_iincN (ls' := [(3, bI _), (0, bR _), (1, bR _), (2, bR _)]) 3 rfl (by decide) (by unfold b_r32; omega) dL_law_2105 rfl ?_
  refine v_goto (tgt := 18) dL_law_2108 (by decide) ?_
  refine v_sub (ls2 := [(0, bR _), (1, bR _), (2, bR _), (3, bI _)]) [1, 2, 3, 0] rfl ?_
  exact v_widen (k2 := (kn.1 + 8, kn.2 + 1600)) ⟨show kn.1 + 0 + 0 ≤ kn.1 + 8 by omega, show kn.2 + 0 + 0 ≤ kn.2 + 1600 by omega⟩ h
theorem law_49 {l : Launch} {E : bE} {Ln : Nat} {xs : Int → Int} {kn : Nat × Nat} {i : Int} {M : bM} (hfg : b_fg E) (hc : lw_c kn Ln i) (hi : i + 8 ≤ Ln) (h : b_wp (F_X11_next (xs (i + 1)) M) (fun o => b_wp (F_X12_next (xs (i + 1)) o.2) (fun o2 => o.1 = o2.1 ∧ lw_hd l E Ln xs (kn.1 + 8, kn.2 + 1600) (i + 8) o2.2))) : VL l E x_law b_full kn 2036 [(0, bR 2100), (1, bR 0), (2, bR 11), (3, bI i)] [] M (G_law E Ln xs) := by
  unfold lw_c at hc
  refine v_aload_n (f := 1) 1 rfl dL_law_2036 ?_
  refine v_aload_n (f := 0) 0 rfl dL_law_2037 ?_
  refine v_iload_n (f := 3) 3 rfl dL_law_2038 ?_
  refine v_iconst ⟨by decide, by decide⟩ dL_law_2039 ?_
  refine v_iaddN (by unfold b_r32; omega) dL_law_2040 ?_
  refine f_sld hc.1 (by omega) dL_law_2041 ?_
  refine v_cVI (nA := 1) (As := [bI _]) (ix := 217) (cf_X11_next h) rfl kd_0 rfl rfl wc_X11_next wm_BurntHallLaw_217 wi_X11_next ws_X11_next wn_11 ⟨by decide, by decide, by decide⟩ rfl ⟨by decide, by decide⟩ ⟨show kn.1 + 0 ≤ 600000 by omega, show kn.2 + 0 ≤ 7302250 by omega⟩ (Nat.le_of_ble_eq_true rfl) dL_law_2042 (fun x1 M1 h => ?_)
  refine v_aload_n (f := 2) 2 rfl dL_law_2045 ?_
  refine v_aload_n (f := 0) 0 rfl dL_law_2046 ?_
  refine v_iload_n (f := 3) 3 rfl dL_law_2047 ?_
  refine v_iconst ⟨by decide, by decide⟩ dL_law_2048 ?_
  refine v_iaddN (by unfold b_r32; omega) dL_law_2049 ?_
  refine f_sld hc.1 (by omega) dL_law_2050 ?_
  refine v_cVI (nA := 1) (As := [bI _]) (ix := 220) (cf_X12_next h) rfl kd_11 rfl rfl wc_X12_next wm_BurntHallLaw_220 wi_X12_next ws_X12_next wn_12 ⟨by decide, by decide, by decide⟩ rfl ⟨by decide, by decide⟩ ⟨show kn.1 + 0 + 0 ≤ 600000 by omega, show kn.2 + 0 + 0 ≤ 7302250 by omega⟩ (Nat.le_of_ble_eq_true rfl) dL_law_2051 (fun x2 M2 h => ?_)
  obtain ⟨he, h⟩ := h
  refine v_icmp_eq (tgt := 2105) dL_law_2054 (by decide) (fun _ => ?_) (fun q => absurd he q)
  refine v_iincN (ls' := [(3, bI _), (0, bR _), (1, bR _), (2, bR _)]) 3 rfl (by decide) (by unfold b_r32; omega) dL_law_2105 rfl ?_
  refine v_goto (tgt := 18) dL_law_2108 (by decide) ?_
  refine v_sub (ls2 := [(0, bR _), (1, bR _), (2, bR _), (3, bI _)]) [1, 2, 3, 0] rfl ?_
  exact v_widen (k2 := (kn.1 + 8, kn.2 + 1600)) ⟨show kn.1 + 0 + 0 ≤ kn.1 + 8 by omega, show kn.2 + 0 + 0 ≤ kn.2 + 1600 by omega⟩ h
theorem law_50 {l : Launch} {E : bE} {Ln : Nat} {xs : Int → Int} {kn : Nat × Nat} {i : Int} {M : bM} (hfg : b_fg E) (hc : lw_c kn Ln i) (hi : i + 8 ≤ Ln) (h : b_wp (F_X11_looked (xs (i + 1)) M) (fun o => b_wp (F_X12_looked (xs (i + 1)) M) (fun o2 => o = o2 ∧ lw_hd l E Ln xs (kn.1 + 8, kn.2 + 1600) (i + 8) M))) : VL l E x_law b_full kn 2059 [(0, bR 2100), (1, bR 0), (2, bR 11), (3, bI i)] [] M (G_law E Ln xs) := by
  unfold lw_c at hc
  refine v_aload_n (f := 1) 1 rfl dL_law_2059 ?_
  refine v_aload_n (f := 0) 0 rfl dL_law_2060 ?_
  refine v_iload_n (f := 3) 3 rfl dL_law_2061 ?_
  refine v_iconst ⟨by decide, by decide⟩ dL_law_2062 ?_
  refine v_iaddN (by unfold b_r32; omega) dL_law_2063 ?_
  refine f_sld hc.1 (by omega) dL_law_2064 ?_
  refine v_cVIp (nA := 1) (As := [bI _]) (ix := 221) (cf_X11_looked h) rfl kd_0 rfl rfl wc_X11_looked wm_BurntHallLaw_221 wi_X11_looked ws_X11_looked wn_11 ⟨by decide, by decide, by decide⟩ rfl ⟨by decide, by decide⟩ ⟨show kn.1 + 0 ≤ 600000 by omega, show kn.2 + 0 ≤ 7302250 by omega⟩ (Nat.le_of_ble_eq_true rfl) dL_law_2065 (fun x1 h => ?_)
  refine v_aload_n (f := 2) 2 rfl dL_law_2068 ?_
  refine v_aload_n (f := 0) 0 rfl dL_law_2069 ?_
  refine v_iload_n (f := 3) 3 rfl dL_law_2070 ?_
  refine v_iconst ⟨by decide, by decide⟩ dL_law_2071 ?_
  refine v_iaddN (by unfold b_r32; omega) dL_law_2072 ?_
  refine f_sld hc.1 (by omega) dL_law_2073 ?_
  refine v_cVIp (nA := 1) (As := [bI _]) (ix := 224) (cf_X12_looked h) rfl kd_11 rfl rfl wc_X12_looked wm_BurntHallLaw_224 wi_X12_looked ws_X12_looked wn_12 ⟨by decide, by decide, by decide⟩ rfl ⟨by decide, by decide⟩ ⟨show kn.1 + 0 + 0 ≤ 600000 by omega, show kn.2 + 0 + 0 ≤ 7302250 by omega⟩ (Nat.le_of_ble_eq_true rfl) dL_law_2074 (fun x2 h => ?_)
  obtain ⟨he, h⟩ := h
  refine v_icmp_eq (tgt := 2105) dL_law_2077 (by decide) (fun _ => ?_) (fun q => absurd he q)
  refine v_iincN (ls' := [(3, bI _), (0, bR _), (1, bR _), (2, bR _)]) 3 rfl (by decide) (by unfold b_r32; omega) dL_law_2105 rfl ?_
  refine v_goto (tgt := 18) dL_law_2108 (by decide) ?_
  refine v_sub (ls2 := [(0, bR _), (1, bR _), (2, bR _), (3, bI _)]) [1, 2, 3, 0] rfl ?_
  exact v_widen (k2 := (kn.1 + 8, kn.2 + 1600)) ⟨show kn.1 + 0 + 0 ≤ kn.1 + 8 by omega, show kn.2 + 0 + 0 ≤ kn.2 + 1600 by omega⟩ h
theorem law_51 {l : Launch} {E : bE} {Ln : Nat} {xs : Int → Int} {kn : Nat × Nat} {i : Int} {M : bM} (hfg : b_fg E) (hc : lw_c kn Ln i) (hi : i + 8 ≤ Ln) (h : b_wp (F_X11_count (xs (i + 1)) M) (fun o => b_wp (F_X12_count (xs (i + 1)) M) (fun o2 => o = o2 ∧ lw_hd l E Ln xs (kn.1 + 8, kn.2 + 1600) (i + 8) M))) : VL l E x_law b_full kn 2082 [(0, bR 2100), (1, bR 0), (2, bR 11), (3, bI i)] [] M (G_law E Ln xs) := by
  unfold lw_c at hc
  refine v_aload_n (f := 1) 1 rfl dL_law_2082 ?_
  refine v_aload_n (f := 0) 0 rfl dL_law_2083 ?_
  refine v_iload_n (f := 3) 3 rfl dL_law_2084 ?_
  refine v_iconst ⟨by decide, by decide⟩ dL_law_2085 ?_
  refine v_iaddN (by unfold b_r32; omega) dL_law_2086 ?_
  refine f_sld hc.1 (by omega) dL_law_2087 ?_
  refine v_cVIp (nA := 1) (As := [bI _]) (ix := 225) (cf_X11_count h) rfl kd_0 rfl rfl wc_X11_count wm_BurntHallLaw_225 wi_X11_count ws_X11_count wn_11 ⟨by decide, by decide, by decide⟩ rfl ⟨by decide, by decide⟩ ⟨show kn.1 + 0 ≤ 600000 by omega, show kn.2 + 0 ≤ 7302250 by omega⟩ (Nat.le_of_ble_eq_true rfl) dL_law_2088 (fun x1 h => ?_)
  refine v_aload_n (f := 2) 2 rfl dL_law_2091 ?_
  refine v_aload_n (f := 0) 0 rfl dL_law_2092 ?_
  refine v_iload_n (f := 3) 3 rfl dL_law_2093 ?_
  refine v_iconst ⟨by decide, by decide⟩ dL_law_2094 ?_
  refine v_iaddN (by unfold b_r32; omega) dL_law_2095 ?_
  refine f_sld hc.1 (by omega) dL_law_2096 ?_
  refine v_cVIp (nA := 1) (As := [bI _]) (ix := 228) (cf_X12_count h) rfl kd_11 rfl rfl wc_X12_count wm_BurntHallLaw_228 wi_X12_count ws_X12_count wn_12 ⟨by decide, by decide, by decide⟩ rfl ⟨by decide, by decide⟩ ⟨show kn.1 + 0 + 0 ≤ 600000 by omega, show kn.2 + 0 + 0 ≤ 7302250 by omega⟩ (Nat.le_of_ble_eq_true rfl) dL_law_2097 (fun x2 h => ?_)
  obtain ⟨he, h⟩ := h
  refine v_icmp_eq (tgt := 2105) dL_law_2100 (by decide) (fun _ => ?_) (fun q => absurd he q)
  refine v_iincN (ls' := [(3, bI _), (0, bR _), (1, bR _), (2, bR _)]) 3 rfl (by decide) (by unfold b_r32; omega) dL_law_2105 rfl ?_
  refine v_goto (tgt := 18) dL_law_2108 (by decide) ?_
  refine v_sub (ls2 := [(0, bR _), (1, bR _), (2, bR _), (3, bI _)]) [1, 2, 3, 0] rfl ?_
  exact v_widen (k2 := (kn.1 + 8, kn.2 + 1600)) ⟨show kn.1 + 0 + 0 ≤ kn.1 + 8 by omega, show kn.2 + 0 + 0 ≤ kn.2 + 1600 by omega⟩ h
