set_option maxHeartbeats 4000000 in
set_option maxRecDepth 100000 in
theorem zc_count {p : Program} {e : Env} {s : State} {m : MethodId} {below : List Frame} {meth : Method} {c : Code} {l : Launch} {b : Nat} {xs : Nat → Int32} (C0 : lw_At p s m meth c b 7 xs) (hfl : l.stackTraces = false) {D : zG} (hKX : zKX (fun q : Nat => s.heap.size ≤ q) s) (o kA iA tA tr lA mo kT tb ld lK lC ou : Nat) (cK cT e1 e2 e3 cJ : ClassId) (H : Heap) (locs : List Loc) (ls : Array Slot) (hK : va_K D vwCl [(cK, .object RX1), (cT, .int), (e1, .int), (e2, .int), (e3, .int), (cJ, .long)] s) (hP : va_P D vwCl ([(o, .inr (3, [.ref kA, .int 0, .int 20, .int 60, .int 2000, .int 0, .ref iA, .int 0, .int 0, .int 0, .ref tA, .ref tr, .ref lA, .int 0])), (kA, .inl (cK, 10, .inr (.inr (.inr (.inr (fun _ => none)))))), (tA, .inl (cT, 120, .inl (fun _ => 0))), (mo, .inr (4, [.int 0, .int 0, .ref kT, .int 20, .int 60, .int 2000, .int 0, .int 0, .ref tb, .ref ld, .int 0, .ref lK, .ref lC, .int 0])), (kT, .inl (e1, 60, .inl (fun _ => 0))), (tb, .inl (e2, 366, .inl (fun _ => 0))), (ld, .inl (e3, 61, .inl (fun _ => 0))), (ou, .inl (cJ, 1, .inr (.inl (fun _ => 0))))]) H) (hD : va_D (fun q : Nat => s.heap.size ≤ q) ([(o, .inr (3, [.ref kA, .int 0, .int 20, .int 60, .int 2000, .int 0, .ref iA, .int 0, .int 0, .int 0, .ref tA, .ref tr, .ref lA, .int 0])), (kA, .inl (cK, 10, .inr (.inr (.inr (.inr (fun _ => none)))))), (tA, .inl (cT, 120, .inl (fun _ => 0))), (mo, .inr (4, [.int 0, .int 0, .ref kT, .int 20, .int 60, .int 2000, .int 0, .int 0, .ref tb, .ref ld, .int 0, .ref lK, .ref lC, .int 0])), (kT, .inl (e1, 60, .inl (fun _ => 0))), (tb, .inl (e2, 366, .inl (fun _ => 0))), (ld, .inl (e3, 61, .inl (fun _ => 0))), (ou, .inl (cJ, 1, .inr (.inl (fun _ => 0))))])) (hS : va_S (fun q : Nat => s.heap.size ≤ q) s.heap H locs) (hl : lv_has ls 9 [(4, .int 0), (3, .ref ou), (2, .ref mo), (1, .ref o), (0, .ref b)]) : W p l e room_1 s m #[Value.ref b] below meth c H locs 1000 10000 (lw_Z below #[Value.ref b] s) (F0 m 362 ls []) := by
  have C1 := C0
  obtain ⟨hx, hb, hr, hml, hown, hts, hX, hbl, hlocks, hgv⟩ := C0
  have hA : ∀ q : Nat, s.heap.size ≤ q → (fun q : Nat => s.heap.size ≤ q) q := fun _ h => h
  have hbA : ¬ (fun q : Nat => s.heap.size ≤ q) b := Nat.not_le.mpr hbl
  have hRf : room_1.frames = 13 := rfl
  have hRc : room_1.cells = 600002 := rfl
  have hRs : room_1.slots = 7302232 := rfl
  have hRl : room_1.locals = 522 := rfl
  generalize hAe : (fun q : Nat => s.heap.size ≤ q) = A at hP hD hS hA hbA hKX
  by_cases h : 0 ≤ (xs 1) ∧ (xs 1) ≤ 3
  · have h_b := True.intro
    refine lv_aload_n hx hb dL_law_362 rfl (lv_at hl 3 rfl) ?_
    refine lv_aload_n hx hb dL_law_363 rfl (lv_at hl 4 rfl) ?_
    refine lv_iload hx hb dL_law_364 (lv_at hl 0 rfl) ?_
    refine lv_iconst (v := 1) hx hb dL_law_366 (by decide) ?_
    refine lv_iadd hx hb dL_law_367 ?_
    refine lv_topi (fun v_232 ev_232 => ?_)
    obtain rfl : v_232 = 1 := ev_232.trans (by decide)
    refine va_sld hx hb hX hbl hbA hS (vp_in_nI (n := 1) (N := 7) (by decide) (by decide)) dL_law_368 ?_
    refine lv_topi (fun v_233 ev_233 => ?_)
    obtain rfl : v_233 = (xs 1) := ev_233.trans rfl
    refine lv_aload_n hx hb dL_law_369 rfl (lv_at hl 1 rfl) ?_
    refine zcalliSW (hh := [(0, 9, 12, 25)]) (As := [.ref o, .int (xs 1), .ref ou]) (rest := []) (wc := [(o, .inr (3, [.ref kA, .int 0, .int 20, .int 60, .int 2000, .int 0, .ref iA, .int 0, .int 0, .int 0, .ref tA, .ref tr, .ref lA, .int 0])), (ou, .inl (cJ, 1, .inr (.inl (fun _ => 0))))]) (wr := [(kA, .inl (cK, 10, .inr (.inr (.inr (.inr (fun _ => none)))))), (tA, .inl (cT, 120, .inl (fun _ => 0))), (mo, .inr (4, [.int 0, .int 0, .ref kT, .int 20, .int 60, .int 2000, .int 0, .int 0, .ref tb, .ref ld, .int 0, .ref lK, .ref lC, .int 0])), (kT, .inl (e1, 60, .inl (fun _ => 0))), (tb, .inl (e2, 366, .inl (fun _ => 0))), (ld, .inl (e3, 61, .inl (fun _ => 0)))]) ⟨hx, hb, hml, hown, hts⟩ (c_Lcount_ok l D _ o kA iA tA tr lA ou cJ (fun _ => 0) (xs 1) h) (vx_cwSW 3 hts zgS_L_count rfl rfl rfl (by decide +kernel) ⟨by rw [hRf]; exact Nat.le_of_ble_eq_true rfl, by rw [hRl]; exact Nat.le_of_ble_eq_true rfl⟩) hK hP hD hS hA [0, 7] [1, 2, 3, 4, 5, 6] rfl (by decide) rfl (by decide) (by decide) [5] rfl rfl hl.1 rfl (Nat.le_of_ble_eq_true rfl) dL_law_370 ⟨by omega, by omega⟩ (fun r_234 u_235 H locs hwu_235 hnu_235 hzu_235 hK hP hD hS => ?_)
    have hK : va_K D vwCl [(cK, .object RX1), (cT, .int), (e1, .int), (e2, .int), (e3, .int), (cJ, .long), (cJ, .long)] s := hK
    have hP : va_P D vwCl ([(kA, .inl (cK, 10, .inr (.inr (.inr (.inr (fun _ => none)))))), (tA, .inl (cT, 120, .inl (fun _ => 0))), (mo, .inr (4, [.int 0, .int 0, .ref kT, .int 20, .int 60, .int 2000, .int 0, .int 0, .ref tb, .ref ld, .int 0, .ref lK, .ref lC, .int 0])), (kT, .inl (e1, 60, .inl (fun _ => 0))), (tb, .inl (e2, 366, .inl (fun _ => 0))), (ld, .inl (e3, 61, .inl (fun _ => 0))), (ou, .inl (cJ, 1, .inr (.inl (vp_updL (fun _ => 0) 0 (0 : Int32).toInt64))))]) H := hP
    have hD : va_D A ([(kA, .inl (cK, 10, .inr (.inr (.inr (.inr (fun _ => none)))))), (tA, .inl (cT, 120, .inl (fun _ => 0))), (mo, .inr (4, [.int 0, .int 0, .ref kT, .int 20, .int 60, .int 2000, .int 0, .int 0, .ref tb, .ref ld, .int 0, .ref lK, .ref lC, .int 0])), (kT, .inl (e1, 60, .inl (fun _ => 0))), (tb, .inl (e2, 366, .inl (fun _ => 0))), (ld, .inl (e3, 61, .inl (fun _ => 0))), (ou, .inl (cJ, 1, .inr (.inl (vp_updL (fun _ => 0) 0 (0 : Int32).toInt64))))]) := hD
    refine lv_topi (fun v_236 ev_236 => ?_)
    obtain rfl : v_236 = 0 := ev_236.trans hwu_235
    refine lv_istore (lv' := [(5, .int 0), (4, .int 0), (3, .ref ou), (2, .ref mo), (1, .ref o), (0, .ref b)]) hx hb dL_law_373 hl (by decide) rfl (fun ls hl => ?_)
    refine lv_aload_n hx hb dL_law_375 rfl (lv_at hl 3 rfl) ?_
    refine lv_aload_n hx hb dL_law_376 rfl (lv_at hl 5 rfl) ?_
    refine lv_iload hx hb dL_law_377 (lv_at hl 1 rfl) ?_
    refine lv_iconst (v := 1) hx hb dL_law_379 (by decide) ?_
    refine lv_iadd hx hb dL_law_380 ?_
    refine lv_topi (fun v_237 ev_237 => ?_)
    obtain rfl : v_237 = 1 := ev_237.trans (by decide)
    refine va_sld hx hb hX hbl hbA hS (vp_in_nI (n := 1) (N := 7) (by decide) (by decide)) dL_law_381 ?_
    refine lv_topi (fun v_238 ev_238 => ?_)
    obtain rfl : v_238 = (xs 1) := ev_238.trans rfl
    refine zcalliV (As := [.int (xs 1)]) (rest := []) (wc := [(mo, .inr (4, [.int 0, .int 0, .ref kT, .int 20, .int 60, .int 2000, .int 0, .int 0, .ref tb, .ref ld, .int 0, .ref lK, .ref lC, .int 0]))]) (wr := [(kA, .inl (cK, 10, .inr (.inr (.inr (.inr (fun _ => none)))))), (tA, .inl (cT, 120, .inl (fun _ => 0))), (kT, .inl (e1, 60, .inl (fun _ => 0))), (tb, .inl (e2, 366, .inl (fun _ => 0))), (ld, .inl (e3, 61, .inl (fun _ => 0))), (ou, .inl (cJ, 1, .inr (.inl (vp_updL (fun _ => 0) 0 (0 : Int32).toInt64))))]) ⟨hx, hb, hml, hown, hts⟩ (c_Mcount_ok l D _ mo kT tb ld lK lC (xs 1) h) (cwV 1 hts zgV_X4_count rfl rfl rfl (by decide +kernel) ⟨by rw [hRf]; exact Nat.le_of_ble_eq_true rfl, by rw [hRl]; exact Nat.le_of_ble_eq_true rfl⟩) hK hP hD hS hA [2] [0, 1, 3, 4, 5, 6] rfl (by decide) rfl (by decide) (by decide) [] rfl (ci := 4) (q0 := 2) rfl rfl rfl hl.1 rfl (Nat.le_of_ble_eq_true rfl) dL_law_382 ⟨by omega, by omega⟩ (fun r_239 u_240 H locs hwu_240 hnu_240 hzu_240 hK hP hD hS => ?_)
    have hK : va_K D vwCl [(cK, .object RX1), (cT, .int), (e1, .int), (e2, .int), (e3, .int), (cJ, .long), (cJ, .long)] s := hK
    have hP : va_P D vwCl ([(kA, .inl (cK, 10, .inr (.inr (.inr (.inr (fun _ => none)))))), (tA, .inl (cT, 120, .inl (fun _ => 0))), (kT, .inl (e1, 60, .inl (fun _ => 0))), (tb, .inl (e2, 366, .inl (fun _ => 0))), (ld, .inl (e3, 61, .inl (fun _ => 0))), (ou, .inl (cJ, 1, .inr (.inl (vp_updL (fun _ => 0) 0 (0 : Int32).toInt64)))), (mo, .inr (4, [.int 0, .int 0, .ref kT, .int 20, .int 60, .int 2000, .int 0, .int 0, .ref tb, .ref ld, .int 0, .ref lK, .ref lC, .int 0]))]) H := hP
    have hD : va_D A ([(kA, .inl (cK, 10, .inr (.inr (.inr (.inr (fun _ => none)))))), (tA, .inl (cT, 120, .inl (fun _ => 0))), (kT, .inl (e1, 60, .inl (fun _ => 0))), (tb, .inl (e2, 366, .inl (fun _ => 0))), (ld, .inl (e3, 61, .inl (fun _ => 0))), (ou, .inl (cJ, 1, .inr (.inl (vp_updL (fun _ => 0) 0 (0 : Int32).toInt64)))), (mo, .inr (4, [.int 0, .int 0, .ref kT, .int 20, .int 60, .int 2000, .int 0, .int 0, .ref tb, .ref ld, .int 0, .ref lK, .ref lC, .int 0]))]) := hD
    refine lv_topi (fun v_241 ev_241 => ?_)
    obtain rfl : v_241 = 0 := ev_241.trans hwu_240
    refine lv_istore (lv' := [(6, .int 0), (5, .int 0), (4, .int 0), (3, .ref ou), (2, .ref mo), (1, .ref o), (0, .ref b)]) hx hb dL_law_385 hl (by decide) rfl (fun ls hl => ?_)
    refine lv_aload_n hx hb dL_law_387 rfl (lv_at hl 4 rfl) ?_
    refine zrdV (As := []) (rest := []) (wc := [(mo, .inr (4, [.int 0, .int 0, .ref kT, .int 20, .int 60, .int 2000, .int 0, .int 0, .ref tb, .ref ld, .int 0, .ref lK, .ref lC, .int 0]))]) ⟨hx, hb, hml, hown, hts⟩ (c_thrown l D _ mo [.int 0, .int 0, .ref kT, .int 20, .int 60, .int 2000, .int 0, .int 0, .ref tb, .ref ld, .int 0, .ref lK, .ref lC, .int 0] 0 rfl) (cwV 0 hts zgV_X4_thrown rfl rfl rfl (by decide +kernel) ⟨by rw [hRf]; exact Nat.le_of_ble_eq_true rfl, by rw [hRl]; exact Nat.le_of_ble_eq_true rfl⟩) hK hP hD [6] rfl (by decide) [] rfl (ci := 4) (q0 := 6) rfl rfl rfl hl.1 rfl (Nat.le_of_ble_eq_true rfl) dL_law_388 ⟨by omega, by omega⟩ (fun r_242 hr_242 => ?_)
    refine lv_topi (fun v_243 ev_243 => ?_)
    obtain rfl : v_243 = 0 := ev_243.trans hr_242
    refine lv_iload hx hb dL_law_391 (lv_at hl 1 rfl) ?_
    refine lv_icmp_eq (tgt := 398) hx hb dL_law_393 (by decide) (fun c_244 => ?_) (fun c_244 => absurd (rfl) c_244)
    refine lv_iload hx hb dL_law_398 (lv_at hl 1 rfl) ?_
    refine lv_if_ne (tgt := 415) hx hb dL_law_400 (by decide) (fun c_245 => absurd (rfl) c_245) (fun c_245 => ?_)
    refine lv_aload_n hx hb dL_law_403 rfl (lv_at hl 3 rfl) ?_
    refine lv_iconst (v := 0) hx hb dL_law_404 (by decide) ?_
    refine va_lald hx hb hK hP 5 5 rfl rfl (vp_in_nI (n := 0) (N := 1) (by decide) (by decide)) dL_law_405 ?_
    refine lv_topl (fun v_246 ev_246 => ?_)
    obtain rfl : v_246 = (0 : Int32).toInt64 := ev_246.trans rfl
    refine lv_iload hx hb dL_law_406 (lv_at hl 0 rfl) ?_
    refine lv_i2l (v := (0 : Int32).toInt64) hx hb dL_law_408 rfl ?_
    refine W.lcmp hx hb dL_law_409 ?_
    refine lv_topi (fun v_247 ev_247 => ?_)
    obtain rfl : v_247 = 0 := ev_247.trans (zcmp_self _)
    refine lv_if_eq (tgt := 415) hx hb dL_law_410 (by decide) (fun c_248 => ?_) (fun c_248 => absurd (rfl) c_248)
    refine lv_goto (tgt := 1463) hx hb dL_law_415 (by decide) ?_
    have hl := lv_sub hl (l' := [(4, .int 0), (3, .ref ou), (2, .ref mo), (1, .ref o), (0, .ref b)]) [2, 3, 4, 5, 6] rfl
    refine W.widen (k := 2000) (n := 20000) (by omega) (by omega) ?_
    subst hAe
    exact znext C1 o mo ou H locs ls hS hl
  · have h_b := True.intro
    refine lv_aload_n hx hb dL_law_362 rfl (lv_at hl 3 rfl) ?_
    refine lv_aload_n hx hb dL_law_363 rfl (lv_at hl 4 rfl) ?_
    refine lv_iload hx hb dL_law_364 (lv_at hl 0 rfl) ?_
    refine lv_iconst (v := 1) hx hb dL_law_366 (by decide) ?_
    refine lv_iadd hx hb dL_law_367 ?_
    refine lv_topi (fun v_249 ev_249 => ?_)
    obtain rfl : v_249 = 1 := ev_249.trans (by decide)
    refine va_sld hx hb hX hbl hbA hS (vp_in_nI (n := 1) (N := 7) (by decide) (by decide)) dL_law_368 ?_
    refine lv_topi (fun v_250 ev_250 => ?_)
    obtain rfl : v_250 = (xs 1) := ev_250.trans rfl
    refine lv_aload_n hx hb dL_law_369 rfl (lv_at hl 1 rfl) ?_
    refine zcalliSWK (hh := [(0, 9, 12, 25)]) (As := [.ref o, .int (xs 1), .ref ou]) (rest := []) (wc := [(o, .inr (3, [.ref kA, .int 0, .int 20, .int 60, .int 2000, .int 0, .ref iA, .int 0, .int 0, .int 0, .ref tA, .ref tr, .ref lA, .int 0]))]) (wr := [(kA, .inl (cK, 10, .inr (.inr (.inr (.inr (fun _ => none)))))), (tA, .inl (cT, 120, .inl (fun _ => 0))), (mo, .inr (4, [.int 0, .int 0, .ref kT, .int 20, .int 60, .int 2000, .int 0, .int 0, .ref tb, .ref ld, .int 0, .ref lK, .ref lC, .int 0])), (kT, .inl (e1, 60, .inl (fun _ => 0))), (tb, .inl (e2, 366, .inl (fun _ => 0))), (ld, .inl (e3, 61, .inl (fun _ => 0))), (ou, .inl (cJ, 1, .inr (.inl (fun _ => 0))))]) ⟨hx, hb, hml, hown, hts⟩ (c_Lcount_x l D _ hfl o kA iA tA tr lA ou (xs 1) h) (vx_cwSW 3 hts zgS_L_count rfl rfl rfl (by decide +kernel) ⟨by rw [hRf]; exact Nat.le_of_ble_eq_true rfl, by rw [hRl]; exact Nat.le_of_ble_eq_true rfl⟩) hKX hK hP hD hS hA [0] [1, 2, 3, 4, 5, 6, 7] rfl (by decide) rfl (by decide) (by decide) [] rfl rfl hl.1 rfl (Nat.le_of_ble_eq_true rfl) dL_law_370 ⟨by omega, by omega⟩ (fun r_251 u_252 H locs hwu_252 hnu_252 hzu_252 hK hP hD hS => ?_)
    have hK : va_K D vwCl [(cK, .object RX1), (cT, .int), (e1, .int), (e2, .int), (e3, .int), (cJ, .long)] s := hK
    have hP : va_P D vwCl ([(kA, .inl (cK, 10, .inr (.inr (.inr (.inr (fun _ => none)))))), (tA, .inl (cT, 120, .inl (fun _ => 0))), (mo, .inr (4, [.int 0, .int 0, .ref kT, .int 20, .int 60, .int 2000, .int 0, .int 0, .ref tb, .ref ld, .int 0, .ref lK, .ref lC, .int 0])), (kT, .inl (e1, 60, .inl (fun _ => 0))), (tb, .inl (e2, 366, .inl (fun _ => 0))), (ld, .inl (e3, 61, .inl (fun _ => 0))), (ou, .inl (cJ, 1, .inr (.inl (fun _ => 0))))]) H := hP
    have hD : va_D A ([(kA, .inl (cK, 10, .inr (.inr (.inr (.inr (fun _ => none)))))), (tA, .inl (cT, 120, .inl (fun _ => 0))), (mo, .inr (4, [.int 0, .int 0, .ref kT, .int 20, .int 60, .int 2000, .int 0, .int 0, .ref tb, .ref ld, .int 0, .ref lK, .ref lC, .int 0])), (kT, .inl (e1, 60, .inl (fun _ => 0))), (tb, .inl (e2, 366, .inl (fun _ => 0))), (ld, .inl (e3, 61, .inl (fun _ => 0))), (ou, .inl (cJ, 1, .inr (.inl (fun _ => 0))))]) := hD
    refine lv_topi (fun v_253 ev_253 => ?_)
    obtain rfl : v_253 = 1 := ev_253.trans hwu_252
    refine lv_istore (lv' := [(5, .int 1), (4, .int 0), (3, .ref ou), (2, .ref mo), (1, .ref o), (0, .ref b)]) hx hb dL_law_373 hl (by decide) rfl (fun ls hl => ?_)
    refine lv_aload_n hx hb dL_law_375 rfl (lv_at hl 3 rfl) ?_
    refine lv_aload_n hx hb dL_law_376 rfl (lv_at hl 5 rfl) ?_
    refine lv_iload hx hb dL_law_377 (lv_at hl 1 rfl) ?_
    refine lv_iconst (v := 1) hx hb dL_law_379 (by decide) ?_
    refine lv_iadd hx hb dL_law_380 ?_
    refine lv_topi (fun v_254 ev_254 => ?_)
    obtain rfl : v_254 = 1 := ev_254.trans (by decide)
    refine va_sld hx hb hX hbl hbA hS (vp_in_nI (n := 1) (N := 7) (by decide) (by decide)) dL_law_381 ?_
    refine lv_topi (fun v_255 ev_255 => ?_)
    obtain rfl : v_255 = (xs 1) := ev_255.trans rfl
    refine zcalliV (As := [.int (xs 1)]) (rest := []) (wc := [(mo, .inr (4, [.int 0, .int 0, .ref kT, .int 20, .int 60, .int 2000, .int 0, .int 0, .ref tb, .ref ld, .int 0, .ref lK, .ref lC, .int 0]))]) (wr := [(kA, .inl (cK, 10, .inr (.inr (.inr (.inr (fun _ => none)))))), (tA, .inl (cT, 120, .inl (fun _ => 0))), (kT, .inl (e1, 60, .inl (fun _ => 0))), (tb, .inl (e2, 366, .inl (fun _ => 0))), (ld, .inl (e3, 61, .inl (fun _ => 0))), (ou, .inl (cJ, 1, .inr (.inl (fun _ => 0))))]) ⟨hx, hb, hml, hown, hts⟩ (c_Mcount_x l D _ mo kT tb ld lK lC (xs 1) h) (cwV 1 hts zgV_X4_count rfl rfl rfl (by decide +kernel) ⟨by rw [hRf]; exact Nat.le_of_ble_eq_true rfl, by rw [hRl]; exact Nat.le_of_ble_eq_true rfl⟩) hK hP hD hS hA [2] [0, 1, 3, 4, 5, 6] rfl (by decide) rfl (by decide) (by decide) [] rfl (ci := 4) (q0 := 2) rfl rfl rfl hl.1 rfl (Nat.le_of_ble_eq_true rfl) dL_law_382 ⟨by omega, by omega⟩ (fun r_256 u_257 H locs hwu_257 hnu_257 hzu_257 hK hP hD hS => ?_)
    have hK : va_K D vwCl [(cK, .object RX1), (cT, .int), (e1, .int), (e2, .int), (e3, .int), (cJ, .long)] s := hK
    have hP : va_P D vwCl ([(kA, .inl (cK, 10, .inr (.inr (.inr (.inr (fun _ => none)))))), (tA, .inl (cT, 120, .inl (fun _ => 0))), (kT, .inl (e1, 60, .inl (fun _ => 0))), (tb, .inl (e2, 366, .inl (fun _ => 0))), (ld, .inl (e3, 61, .inl (fun _ => 0))), (ou, .inl (cJ, 1, .inr (.inl (fun _ => 0)))), (mo, .inr (4, [.int 1, .int 0, .ref kT, .int 20, .int 60, .int 2000, .int 0, .int 0, .ref tb, .ref ld, .int 0, .ref lK, .ref lC, .int 0]))]) H := hP
    have hD : va_D A ([(kA, .inl (cK, 10, .inr (.inr (.inr (.inr (fun _ => none)))))), (tA, .inl (cT, 120, .inl (fun _ => 0))), (kT, .inl (e1, 60, .inl (fun _ => 0))), (tb, .inl (e2, 366, .inl (fun _ => 0))), (ld, .inl (e3, 61, .inl (fun _ => 0))), (ou, .inl (cJ, 1, .inr (.inl (fun _ => 0)))), (mo, .inr (4, [.int 1, .int 0, .ref kT, .int 20, .int 60, .int 2000, .int 0, .int 0, .ref tb, .ref ld, .int 0, .ref lK, .ref lC, .int 0]))]) := hD
    refine lv_topi (fun v_258 ev_258 => ?_)
    obtain rfl : v_258 = 0 := ev_258.trans hwu_257
    refine lv_istore (lv' := [(6, .int 0), (5, .int 1), (4, .int 0), (3, .ref ou), (2, .ref mo), (1, .ref o), (0, .ref b)]) hx hb dL_law_385 hl (by decide) rfl (fun ls hl => ?_)
    refine lv_aload_n hx hb dL_law_387 rfl (lv_at hl 4 rfl) ?_
    refine zrdV (As := []) (rest := []) (wc := [(mo, .inr (4, [.int 1, .int 0, .ref kT, .int 20, .int 60, .int 2000, .int 0, .int 0, .ref tb, .ref ld, .int 0, .ref lK, .ref lC, .int 0]))]) ⟨hx, hb, hml, hown, hts⟩ (c_thrown l D _ mo [.int 1, .int 0, .ref kT, .int 20, .int 60, .int 2000, .int 0, .int 0, .ref tb, .ref ld, .int 0, .ref lK, .ref lC, .int 0] 1 rfl) (cwV 0 hts zgV_X4_thrown rfl rfl rfl (by decide +kernel) ⟨by rw [hRf]; exact Nat.le_of_ble_eq_true rfl, by rw [hRl]; exact Nat.le_of_ble_eq_true rfl⟩) hK hP hD [6] rfl (by decide) [] rfl (ci := 4) (q0 := 6) rfl rfl rfl hl.1 rfl (Nat.le_of_ble_eq_true rfl) dL_law_388 ⟨by omega, by omega⟩ (fun r_259 hr_259 => ?_)
    refine lv_topi (fun v_260 ev_260 => ?_)
    obtain rfl : v_260 = 1 := ev_260.trans hr_259
    refine lv_iload hx hb dL_law_391 (lv_at hl 1 rfl) ?_
    refine lv_icmp_eq (tgt := 398) hx hb dL_law_393 (by decide) (fun c_261 => ?_) (fun c_261 => absurd (rfl) c_261)
    refine lv_iload hx hb dL_law_398 (lv_at hl 1 rfl) ?_
    refine lv_if_ne (tgt := 415) hx hb dL_law_400 (by decide) (fun c_262 => ?_) (fun c_262 => absurd c_262 (by decide))
    refine lv_goto (tgt := 1463) hx hb dL_law_415 (by decide) ?_
    have hl := lv_sub hl (l' := [(4, .int 0), (3, .ref ou), (2, .ref mo), (1, .ref o), (0, .ref b)]) [2, 3, 4, 5, 6] rfl
    refine W.widen (k := 2000) (n := 20000) (by omega) (by omega) ?_
    subst hAe
    exact znext C1 o mo ou H locs ls hS hl
