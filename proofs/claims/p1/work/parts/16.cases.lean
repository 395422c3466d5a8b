set_option maxHeartbeats 4000000 in
set_option maxRecDepth 100000 in
theorem zc_sum {p : Program} {e : Env} {s : State} {m : MethodId} {below : List Frame} {meth : Method} {c : Code} {l : Launch} {b : Nat} {xs : Nat → Int32} (C0 : lw_At p s m meth c b 7 xs) (hfl : l.stackTraces = false) {D : zG} (hKX : zKX (fun q : Nat => s.heap.size ≤ q) s) (o kA iA tA tr lA mo kT tb ld lK lC ou : Nat) (cK cT e1 e2 e3 cJ : ClassId) (H : Heap) (locs : List Loc) (ls : Array Slot) (hK : va_K D vwCl [(cK, .object RX1), (cT, .int), (e1, .int), (e2, .int), (e3, .int), (cJ, .long)] s) (hP : va_P D vwCl ([(o, .inr (3, [.ref kA, .int 0, .int 20, .int 60, .int 2000, .int 0, .ref iA, .int 0, .int 0, .int 0, .ref tA, .ref tr, .ref lA, .int 0])), (kA, .inl (cK, 10, .inr (.inr (.inr (.inr (fun _ => none)))))), (tA, .inl (cT, 120, .inl (fun _ => 0))), (mo, .inr (4, [.int 0, .int 0, .ref kT, .int 20, .int 60, .int 2000, .int 0, .int 0, .ref tb, .ref ld, .int 0, .ref lK, .ref lC, .int 0])), (kT, .inl (e1, 60, .inl (fun _ => 0))), (tb, .inl (e2, 366, .inl (fun _ => 0))), (ld, .inl (e3, 61, .inl (fun _ => 0))), (ou, .inl (cJ, 1, .inr (.inl (fun _ => 0))))]) H) (hD : va_D (fun q : Nat => s.heap.size ≤ q) ([(o, .inr (3, [.ref kA, .int 0, .int 20, .int 60, .int 2000, .int 0, .ref iA, .int 0, .int 0, .int 0, .ref tA, .ref tr, .ref lA, .int 0])), (kA, .inl (cK, 10, .inr (.inr (.inr (.inr (fun _ => none)))))), (tA, .inl (cT, 120, .inl (fun _ => 0))), (mo, .inr (4, [.int 0, .int 0, .ref kT, .int 20, .int 60, .int 2000, .int 0, .int 0, .ref tb, .ref ld, .int 0, .ref lK, .ref lC, .int 0])), (kT, .inl (e1, 60, .inl (fun _ => 0))), (tb, .inl (e2, 366, .inl (fun _ => 0))), (ld, .inl (e3, 61, .inl (fun _ => 0))), (ou, .inl (cJ, 1, .inr (.inl (fun _ => 0))))])) (hS : va_S (fun q : Nat => s.heap.size ≤ q) s.heap H locs) (hl : lv_has ls 9 [(4, .int 0), (3, .ref ou), (2, .ref mo), (1, .ref o), (0, .ref b)]) : W p l e room_1 s m #[Value.ref b] below meth c H locs 1000 10000 (lw_Z below #[Value.ref b] s) (F0 m 1283 ls []) := by
  have C1 := C0
  obtain ⟨hx, hb, hr, hml, hown, hts, hX, hbl, hlocks, hgv⟩ := C0
  have hA : ∀ q : Nat, s.heap.size ≤ q → (fun q : Nat => s.heap.size ≤ q) q := fun _ h => h
  have hbA : ¬ (fun q : Nat => s.heap.size ≤ q) b := Nat.not_le.mpr hbl
  have hRf : room_1.frames = 13 := rfl
  have hRc : room_1.cells = 600002 := rfl
  have hRs : room_1.slots = 7302232 := rfl
  have hRl : room_1.locals = 522 := rfl
  generalize hAe : (fun q : Nat => s.heap.size ≤ q) = A at hP hD hS hA hbA hKX
  by_cases h : 0 ≤ (xs 1) ∧ (xs 1) ≤ 3
  · have h_b := True.intro
    refine lv_aload_n hx hb dL_law_1283 rfl (lv_at hl 3 rfl) ?_
    refine lv_aload_n hx hb dL_law_1284 rfl (lv_at hl 4 rfl) ?_
    refine lv_iload hx hb dL_law_1285 (lv_at hl 0 rfl) ?_
    refine lv_iconst (v := 1) hx hb dL_law_1287 (by decide) ?_
    refine lv_iadd hx hb dL_law_1288 ?_
    refine lv_topi (fun v_263 ev_263 => ?_)
    obtain rfl : v_263 = 1 := ev_263.trans (by decide)
    refine va_sld hx hb hX hbl hbA hS (vp_in_nI (n := 1) (N := 7) (by decide) (by decide)) dL_law_1289 ?_
    refine lv_topi (fun v_264 ev_264 => ?_)
    obtain rfl : v_264 = (xs 1) := ev_264.trans rfl
    refine lv_aload_n hx hb dL_law_1290 rfl (lv_at hl 1 rfl) ?_
    refine zcalliSW (hh := [(0, 9, 12, 25)]) (As := [.ref o, .int (xs 1), .ref ou]) (rest := []) (wc := [(o, .inr (3, [.ref kA, .int 0, .int 20, .int 60, .int 2000, .int 0, .ref iA, .int 0, .int 0, .int 0, .ref tA, .ref tr, .ref lA, .int 0])), (ou, .inl (cJ, 1, .inr (.inl (fun _ => 0))))]) (wr := [(kA, .inl (cK, 10, .inr (.inr (.inr (.inr (fun _ => none)))))), (tA, .inl (cT, 120, .inl (fun _ => 0))), (mo, .inr (4, [.int 0, .int 0, .ref kT, .int 20, .int 60, .int 2000, .int 0, .int 0, .ref tb, .ref ld, .int 0, .ref lK, .ref lC, .int 0])), (kT, .inl (e1, 60, .inl (fun _ => 0))), (tb, .inl (e2, 366, .inl (fun _ => 0))), (ld, .inl (e3, 61, .inl (fun _ => 0)))]) ⟨hx, hb, hml, hown, hts⟩ (c_Lsum_ok l D _ o kA iA tA tr lA ou cJ (fun _ => 0) (xs 1) h) (vx_cwSW 3 hts zgS_L_sum rfl rfl rfl (by decide +kernel) ⟨by rw [hRf]; exact Nat.le_of_ble_eq_true rfl, by rw [hRl]; exact Nat.le_of_ble_eq_true rfl⟩) hK hP hD hS hA [0, 7] [1, 2, 3, 4, 5, 6] rfl (by decide) rfl (by decide) (by decide) [5] rfl rfl hl.1 rfl (Nat.le_of_ble_eq_true rfl) dL_law_1291 ⟨by omega, by omega⟩ (fun r_265 u_266 H locs hwu_266 hnu_266 hzu_266 hK hP hD hS => ?_)
    have hK : va_K D vwCl [(cK, .object RX1), (cT, .int), (e1, .int), (e2, .int), (e3, .int), (cJ, .long), (cJ, .long)] s := hK
    have hP : va_P D vwCl ([(kA, .inl (cK, 10, .inr (.inr (.inr (.inr (fun _ => none)))))), (tA, .inl (cT, 120, .inl (fun _ => 0))), (mo, .inr (4, [.int 0, .int 0, .ref kT, .int 20, .int 60, .int 2000, .int 0, .int 0, .ref tb, .ref ld, .int 0, .ref lK, .ref lC, .int 0])), (kT, .inl (e1, 60, .inl (fun _ => 0))), (tb, .inl (e2, 366, .inl (fun _ => 0))), (ld, .inl (e3, 61, .inl (fun _ => 0))), (ou, .inl (cJ, 1, .inr (.inl (vp_updL (fun _ => 0) 0 (0 : Int32).toInt64))))]) H := hP
    have hD : va_D A ([(kA, .inl (cK, 10, .inr (.inr (.inr (.inr (fun _ => none)))))), (tA, .inl (cT, 120, .inl (fun _ => 0))), (mo, .inr (4, [.int 0, .int 0, .ref kT, .int 20, .int 60, .int 2000, .int 0, .int 0, .ref tb, .ref ld, .int 0, .ref lK, .ref lC, .int 0])), (kT, .inl (e1, 60, .inl (fun _ => 0))), (tb, .inl (e2, 366, .inl (fun _ => 0))), (ld, .inl (e3, 61, .inl (fun _ => 0))), (ou, .inl (cJ, 1, .inr (.inl (vp_updL (fun _ => 0) 0 (0 : Int32).toInt64))))]) := hD
    refine lv_topi (fun v_267 ev_267 => ?_)
    obtain rfl : v_267 = 0 := ev_267.trans hwu_266
    refine lv_istore (lv' := [(5, .int 0), (4, .int 0), (3, .ref ou), (2, .ref mo), (1, .ref o), (0, .ref b)]) hx hb dL_law_1294 hl (by decide) rfl (fun ls hl => ?_)
    refine lv_aload_n hx hb dL_law_1296 rfl (lv_at hl 3 rfl) ?_
    refine lv_aload_n hx hb dL_law_1297 rfl (lv_at hl 5 rfl) ?_
    refine lv_iload hx hb dL_law_1298 (lv_at hl 1 rfl) ?_
    refine lv_iconst (v := 1) hx hb dL_law_1300 (by decide) ?_
    refine lv_iadd hx hb dL_law_1301 ?_
    refine lv_topi (fun v_268 ev_268 => ?_)
    obtain rfl : v_268 = 1 := ev_268.trans (by decide)
    refine va_sld hx hb hX hbl hbA hS (vp_in_nI (n := 1) (N := 7) (by decide) (by decide)) dL_law_1302 ?_
    refine lv_topi (fun v_269 ev_269 => ?_)
    obtain rfl : v_269 = (xs 1) := ev_269.trans rfl
    refine zcalliV (As := [.int (xs 1)]) (rest := []) (wc := [(mo, .inr (4, [.int 0, .int 0, .ref kT, .int 20, .int 60, .int 2000, .int 0, .int 0, .ref tb, .ref ld, .int 0, .ref lK, .ref lC, .int 0])), (tb, .inl (e2, 366, .inl (fun _ => 0))), (ld, .inl (e3, 61, .inl (fun _ => 0)))]) (wr := [(kA, .inl (cK, 10, .inr (.inr (.inr (.inr (fun _ => none)))))), (tA, .inl (cT, 120, .inl (fun _ => 0))), (kT, .inl (e1, 60, .inl (fun _ => 0))), (ou, .inl (cJ, 1, .inr (.inl (vp_updL (fun _ => 0) 0 (0 : Int32).toInt64))))]) ⟨hx, hb, hml, hown, hts⟩ (c_Msum_ok l D _ mo kT tb ld lK lC e2 e3 (fun _ => 0) (xs 1) h) (cwV 1 hts zgV_X4_sum rfl rfl rfl (by decide +kernel) ⟨by rw [hRf]; exact Nat.le_of_ble_eq_true rfl, by rw [hRl]; exact Nat.le_of_ble_eq_true rfl⟩) hK hP hD hS hA [2, 4, 5] [0, 1, 3, 6] rfl (by decide) rfl (by decide) (by decide) [3, 4] rfl (ci := 4) (q0 := 2) rfl rfl rfl hl.1 rfl (Nat.le_of_ble_eq_true rfl) dL_law_1303 ⟨by omega, by omega⟩ (fun r_270 u_271 H locs hwu_271 hnu_271 hzu_271 hK hP hD hS => ?_)
    have hK : va_K D vwCl [(cK, .object RX1), (cT, .int), (e1, .int), (e2, .int), (e3, .int), (cJ, .long), (cJ, .long)] s := hK
    have hP : va_P D vwCl ([(kA, .inl (cK, 10, .inr (.inr (.inr (.inr (fun _ => none)))))), (tA, .inl (cT, 120, .inl (fun _ => 0))), (kT, .inl (e1, 60, .inl (fun _ => 0))), (ou, .inl (cJ, 1, .inr (.inl (vp_updL (fun _ => 0) 0 (0 : Int32).toInt64)))), (mo, .inr (4, [.int 0, .int 0, .ref kT, .int 20, .int 60, .int 2000, .int 0, .int 0, .ref tb, .ref ld, .int 0, .ref lK, .ref lC, .int 0]))]) H := hP
    have hD : va_D A ([(kA, .inl (cK, 10, .inr (.inr (.inr (.inr (fun _ => none)))))), (tA, .inl (cT, 120, .inl (fun _ => 0))), (kT, .inl (e1, 60, .inl (fun _ => 0))), (ou, .inl (cJ, 1, .inr (.inl (vp_updL (fun _ => 0) 0 (0 : Int32).toInt64)))), (mo, .inr (4, [.int 0, .int 0, .ref kT, .int 20, .int 60, .int 2000, .int 0, .int 0, .ref tb, .ref ld, .int 0, .ref lK, .ref lC, .int 0]))]) := hD
    refine lv_topi (fun v_272 ev_272 => ?_)
    obtain rfl : v_272 = 0 := ev_272.trans hwu_271
    refine lv_istore (lv' := [(6, .int 0), (5, .int 0), (4, .int 0), (3, .ref ou), (2, .ref mo), (1, .ref o), (0, .ref b)]) hx hb dL_law_1306 hl (by decide) rfl (fun ls hl => ?_)
    refine lv_aload_n hx hb dL_law_1308 rfl (lv_at hl 4 rfl) ?_
    refine zrdV (As := []) (rest := []) (wc := [(mo, .inr (4, [.int 0, .int 0, .ref kT, .int 20, .int 60, .int 2000, .int 0, .int 0, .ref tb, .ref ld, .int 0, .ref lK, .ref lC, .int 0]))]) ⟨hx, hb, hml, hown, hts⟩ (c_thrown l D _ mo [.int 0, .int 0, .ref kT, .int 20, .int 60, .int 2000, .int 0, .int 0, .ref tb, .ref ld, .int 0, .ref lK, .ref lC, .int 0] 0 rfl) (cwV 0 hts zgV_X4_thrown rfl rfl rfl (by decide +kernel) ⟨by rw [hRf]; exact Nat.le_of_ble_eq_true rfl, by rw [hRl]; exact Nat.le_of_ble_eq_true rfl⟩) hK hP hD [4] rfl (by decide) [] rfl (ci := 4) (q0 := 4) rfl rfl rfl hl.1 rfl (Nat.le_of_ble_eq_true rfl) dL_law_1309 ⟨by omega, by omega⟩ (fun r_273 hr_273 => ?_)
    refine lv_topi (fun v_274 ev_274 => ?_)
    obtain rfl : v_274 = 0 := ev_274.trans hr_273
    refine lv_iload hx hb dL_law_1312 (lv_at hl 1 rfl) ?_
    refine lv_icmp_eq (tgt := 1319) hx hb dL_law_1314 (by decide) (fun c_275 => ?_) (fun c_275 => absurd (rfl) c_275)
    refine lv_iload hx hb dL_law_1319 (lv_at hl 1 rfl) ?_
    refine lv_if_ne (tgt := 1336) hx hb dL_law_1321 (by decide) (fun c_276 => absurd (rfl) c_276) (fun c_276 => ?_)
    refine lv_aload_n hx hb dL_law_1324 rfl (lv_at hl 3 rfl) ?_
    refine lv_iconst (v := 0) hx hb dL_law_1325 (by decide) ?_
    refine va_lald hx hb hK hP 3 5 rfl rfl (vp_in_nI (n := 0) (N := 1) (by decide) (by decide)) dL_law_1326 ?_
    refine lv_topl (fun v_277 ev_277 => ?_)
    obtain rfl : v_277 = (0 : Int32).toInt64 := ev_277.trans rfl
    refine lv_iload hx hb dL_law_1327 (lv_at hl 0 rfl) ?_
    refine lv_i2l (v := (0 : Int32).toInt64) hx hb dL_law_1329 rfl ?_
    refine W.lcmp hx hb dL_law_1330 ?_
    refine lv_topi (fun v_278 ev_278 => ?_)
    obtain rfl : v_278 = 0 := ev_278.trans (zcmp_self _)
    refine lv_if_eq (tgt := 1336) hx hb dL_law_1331 (by decide) (fun c_279 => ?_) (fun c_279 => absurd (rfl) c_279)
    refine lv_goto (tgt := 1463) hx hb dL_law_1336 (by decide) ?_
    have hl := lv_sub hl (l' := [(4, .int 0), (3, .ref ou), (2, .ref mo), (1, .ref o), (0, .ref b)]) [2, 3, 4, 5, 6] rfl
    refine W.widen (k := 2000) (n := 20000) (by omega) (by omega) ?_
    subst hAe
    exact znext C1 o mo ou H locs ls hS hl
  · have h_b := True.intro
    refine lv_aload_n hx hb dL_law_1283 rfl (lv_at hl 3 rfl) ?_
    refine lv_aload_n hx hb dL_law_1284 rfl (lv_at hl 4 rfl) ?_
    refine lv_iload hx hb dL_law_1285 (lv_at hl 0 rfl) ?_
    refine lv_iconst (v := 1) hx hb dL_law_1287 (by decide) ?_
    refine lv_iadd hx hb dL_law_1288 ?_
    refine lv_topi (fun v_280 ev_280 => ?_)
    obtain rfl : v_280 = 1 := ev_280.trans (by decide)
    refine va_sld hx hb hX hbl hbA hS (vp_in_nI (n := 1) (N := 7) (by decide) (by decide)) dL_law_1289 ?_
    refine lv_topi (fun v_281 ev_281 => ?_)
    obtain rfl : v_281 = (xs 1) := ev_281.trans rfl
    refine lv_aload_n hx hb dL_law_1290 rfl (lv_at hl 1 rfl) ?_
    refine zcalliSWK (hh := [(0, 9, 12, 25)]) (As := [.ref o, .int (xs 1), .ref ou]) (rest := []) (wc := [(o, .inr (3, [.ref kA, .int 0, .int 20, .int 60, .int 2000, .int 0, .ref iA, .int 0, .int 0, .int 0, .ref tA, .ref tr, .ref lA, .int 0]))]) (wr := [(kA, .inl (cK, 10, .inr (.inr (.inr (.inr (fun _ => none)))))), (tA, .inl (cT, 120, .inl (fun _ => 0))), (mo, .inr (4, [.int 0, .int 0, .ref kT, .int 20, .int 60, .int 2000, .int 0, .int 0, .ref tb, .ref ld, .int 0, .ref lK, .ref lC, .int 0])), (kT, .inl (e1, 60, .inl (fun _ => 0))), (tb, .inl (e2, 366, .inl (fun _ => 0))), (ld, .inl (e3, 61, .inl (fun _ => 0))), (ou, .inl (cJ, 1, .inr (.inl (fun _ => 0))))]) ⟨hx, hb, hml, hown, hts⟩ (c_Lsum_x l D _ hfl o kA iA tA tr lA ou (xs 1) h) (vx_cwSW 3 hts zgS_L_sum rfl rfl rfl (by decide +kernel) ⟨by rw [hRf]; exact Nat.le_of_ble_eq_true rfl, by rw [hRl]; exact Nat.le_of_ble_eq_true rfl⟩) hKX hK hP hD hS hA [0] [1, 2, 3, 4, 5, 6, 7] rfl (by decide) rfl (by decide) (by decide) [] rfl rfl hl.1 rfl (Nat.le_of_ble_eq_true rfl) dL_law_1291 ⟨by omega, by omega⟩ (fun r_282 u_283 H locs hwu_283 hnu_283 hzu_283 hK hP hD hS => ?_)
    have hK : va_K D vwCl [(cK, .object RX1), (cT, .int), (e1, .int), (e2, .int), (e3, .int), (cJ, .long)] s := hK
    have hP : va_P D vwCl ([(kA, .inl (cK, 10, .inr (.inr (.inr (.inr (fun _ => none)))))), (tA, .inl (cT, 120, .inl (fun _ => 0))), (mo, .inr (4, [.int 0, .int 0, .ref kT, .int 20, .int 60, .int 2000, .int 0, .int 0, .ref tb, .ref ld, .int 0, .ref lK, .ref lC, .int 0])), (kT, .inl (e1, 60, .inl (fun _ => 0))), (tb, .inl (e2, 366, .inl (fun _ => 0))), (ld, .inl (e3, 61, .inl (fun _ => 0))), (ou, .inl (cJ, 1, .inr (.inl (fun _ => 0))))]) H := hP
    have hD : va_D A ([(kA, .inl (cK, 10, .inr (.inr (.inr (.inr (fun _ => none)))))), (tA, .inl (cT, 120, .inl (fun _ => 0))), (mo, .inr (4, [.int 0, .int 0, .ref kT, .int 20, .int 60, .int 2000, .int 0, .int 0, .ref tb, .ref ld, .int 0, .ref lK, .ref lC, .int 0])), (kT, .inl (e1, 60, .inl (fun _ => 0))), (tb, .inl (e2, 366, .inl (fun _ => 0))), (ld, .inl (e3, 61, .inl (fun _ => 0))), (ou, .inl (cJ, 1, .inr (.inl (fun _ => 0))))]) := hD
    refine lv_topi (fun v_284 ev_284 => ?_)
    obtain rfl : v_284 = 1 := ev_284.trans hwu_283
    refine lv_istore (lv' := [(5, .int 1), (4, .int 0), (3, .ref ou), (2, .ref mo), (1, .ref o), (0, .ref b)]) hx hb dL_law_1294 hl (by decide) rfl (fun ls hl => ?_)
    refine lv_aload_n hx hb dL_law_1296 rfl (lv_at hl 3 rfl) ?_
    refine lv_aload_n hx hb dL_law_1297 rfl (lv_at hl 5 rfl) ?_
    refine lv_iload hx hb dL_law_1298 (lv_at hl 1 rfl) ?_
    refine lv_iconst (v := 1) hx hb dL_law_1300 (by decide) ?_
    refine lv_iadd hx hb dL_law_1301 ?_
    refine lv_topi (fun v_285 ev_285 => ?_)
    obtain rfl : v_285 = 1 := ev_285.trans (by decide)
    refine va_sld hx hb hX hbl hbA hS (vp_in_nI (n := 1) (N := 7) (by decide) (by decide)) dL_law_1302 ?_
    refine lv_topi (fun v_286 ev_286 => ?_)
    obtain rfl : v_286 = (xs 1) := ev_286.trans rfl
    refine zcalliV (As := [.int (xs 1)]) (rest := []) (wc := [(mo, .inr (4, [.int 0, .int 0, .ref kT, .int 20, .int 60, .int 2000, .int 0, .int 0, .ref tb, .ref ld, .int 0, .ref lK, .ref lC, .int 0])), (tb, .inl (e2, 366, .inl (fun _ => 0))), (ld, .inl (e3, 61, .inl (fun _ => 0)))]) (wr := [(kA, .inl (cK, 10, .inr (.inr (.inr (.inr (fun _ => none)))))), (tA, .inl (cT, 120, .inl (fun _ => 0))), (kT, .inl (e1, 60, .inl (fun _ => 0))), (ou, .inl (cJ, 1, .inr (.inl (fun _ => 0))))]) ⟨hx, hb, hml, hown, hts⟩ (c_Msum_x l D _ mo kT tb ld lK lC e2 e3 (fun _ => 0) (xs 1) h) (cwV 1 hts zgV_X4_sum rfl rfl rfl (by decide +kernel) ⟨by rw [hRf]; exact Nat.le_of_ble_eq_true rfl, by rw [hRl]; exact Nat.le_of_ble_eq_true rfl⟩) hK hP hD hS hA [2, 4, 5] [0, 1, 3, 6] rfl (by decide) rfl (by decide) (by decide) [3, 4] rfl (ci := 4) (q0 := 2) rfl rfl rfl hl.1 rfl (Nat.le_of_ble_eq_true rfl) dL_law_1303 ⟨by omega, by omega⟩ (fun r_287 u_288 H locs hwu_288 hnu_288 hzu_288 hK hP hD hS => ?_)
    have hK : va_K D vwCl [(cK, .object RX1), (cT, .int), (e1, .int), (e2, .int), (e3, .int), (cJ, .long)] s := hK
    have hP : va_P D vwCl ([(kA, .inl (cK, 10, .inr (.inr (.inr (.inr (fun _ => none)))))), (tA, .inl (cT, 120, .inl (fun _ => 0))), (kT, .inl (e1, 60, .inl (fun _ => 0))), (ou, .inl (cJ, 1, .inr (.inl (fun _ => 0)))), (mo, .inr (4, [.int 1, .int 0, .ref kT, .int 20, .int 60, .int 2000, .int 0, .int 0, .ref tb, .ref ld, .int 0, .ref lK, .ref lC, .int 0]))]) H := hP
    have hD : va_D A ([(kA, .inl (cK, 10, .inr (.inr (.inr (.inr (fun _ => none)))))), (tA, .inl (cT, 120, .inl (fun _ => 0))), (kT, .inl (e1, 60, .inl (fun _ => 0))), (ou, .inl (cJ, 1, .inr (.inl (fun _ => 0)))), (mo, .inr (4, [.int 1, .int 0, .ref kT, .int 20, .int 60, .int 2000, .int 0, .int 0, .ref tb, .ref ld, .int 0, .ref lK, .ref lC, .int 0]))]) := hD
    refine lv_topi (fun v_289 ev_289 => ?_)
    obtain rfl : v_289 = 0 := ev_289.trans hwu_288
    refine lv_istore (lv' := [(6, .int 0), (5, .int 1), (4, .int 0), (3, .ref ou), (2, .ref mo), (1, .ref o), (0, .ref b)]) hx hb dL_law_1306 hl (by decide) rfl (fun ls hl => ?_)
    refine lv_aload_n hx hb dL_law_1308 rfl (lv_at hl 4 rfl) ?_
    refine zrdV (As := []) (rest := []) (wc := [(mo, .inr (4, [.int 1, .int 0, .ref kT, .int 20, .int 60, .int 2000, .int 0, .int 0, .ref tb, .ref ld, .int 0, .ref lK, .ref lC, .int 0]))]) ⟨hx, hb, hml, hown, hts⟩ (c_thrown l D _ mo [.int 1, .int 0, .ref kT, .int 20, .int 60, .int 2000, .int 0, .int 0, .ref tb, .ref ld, .int 0, .ref lK, .ref lC, .int 0] 1 rfl) (cwV 0 hts zgV_X4_thrown rfl rfl rfl (by decide +kernel) ⟨by rw [hRf]; exact Nat.le_of_ble_eq_true rfl, by rw [hRl]; exact Nat.le_of_ble_eq_true rfl⟩) hK hP hD [4] rfl (by decide) [] rfl (ci := 4) (q0 := 4) rfl rfl rfl hl.1 rfl (Nat.le_of_ble_eq_true rfl) dL_law_1309 ⟨by omega, by omega⟩ (fun r_290 hr_290 => ?_)
    refine lv_topi (fun v_291 ev_291 => ?_)
    obtain rfl : v_291 = 1 := ev_291.trans hr_290
    refine lv_iload hx hb dL_law_1312 (lv_at hl 1 rfl) ?_
    refine lv_icmp_eq (tgt := 1319) hx hb dL_law_1314 (by decide) (fun c_292 => ?_) (fun c_292 => absurd (rfl) c_292)
    refine lv_iload hx hb dL_law_1319 (lv_at hl 1 rfl) ?_
    refine lv_if_ne (tgt := 1336) hx hb dL_law_1321 (by decide) (fun c_293 => ?_) (fun c_293 => absurd c_293 (by decide))
    refine lv_goto (tgt := 1463) hx hb dL_law_1336 (by decide) ?_
    have hl := lv_sub hl (l' := [(4, .int 0), (3, .ref ou), (2, .ref mo), (1, .ref o), (0, .ref b)]) [2, 3, 4, 5, 6] rfl
    refine W.widen (k := 2000) (n := 20000) (by omega) (by omega) ?_
    subst hAe
    exact znext C1 o mo ou H locs ls hS hl
set_option maxHeartbeats 4000000 in
set_option maxRecDepth 100000 in
theorem zc_top {p : Program} {e : Env} {s : State} {m : MethodId} {below : List Frame} {meth : Method} {c : Code} {l : Launch} {b : Nat} {xs : Nat → Int32} (C0 : lw_At p s m meth c b 7 xs) (hfl : l.stackTraces = false) {D : zG} (hKX : zKX (fun q : Nat => s.heap.size ≤ q) s) (o kA iA tA tr lA mo kT tb ld lK lC ou : Nat) (cK cT e1 e2 e3 cJ : ClassId) (H : Heap) (locs : List Loc) (ls : Array Slot) (hK : va_K D vwCl [(cK, .object RX1), (cT, .int), (e1, .int), (e2, .int), (e3, .int), (cJ, .long)] s) (hP : va_P D vwCl ([(o, .inr (3, [.ref kA, .int 0, .int 20, .int 60, .int 2000, .int 0, .ref iA, .int 0, .int 0, .int 0, .ref tA, .ref tr, .ref lA, .int 0])), (kA, .inl (cK, 10, .inr (.inr (.inr (.inr (fun _ => none)))))), (tA, .inl (cT, 120, .inl (fun _ => 0))), (mo, .inr (4, [.int 0, .int 0, .ref kT, .int 20, .int 60, .int 2000, .int 0, .int 0, .ref tb, .ref ld, .int 0, .ref lK, .ref lC, .int 0])), (kT, .inl (e1, 60, .inl (fun _ => 0))), (tb, .inl (e2, 366, .inl (fun _ => 0))), (ld, .inl (e3, 61, .inl (fun _ => 0))), (ou, .inl (cJ, 1, .inr (.inl (fun _ => 0))))]) H) (hD : va_D (fun q : Nat => s.heap.size ≤ q) ([(o, .inr (3, [.ref kA, .int 0, .int 20, .int 60, .int 2000, .int 0, .ref iA, .int 0, .int 0, .int 0, .ref tA, .ref tr, .ref lA, .int 0])), (kA, .inl (cK, 10, .inr (.inr (.inr (.inr (fun _ => none)))))), (tA, .inl (cT, 120, .inl (fun _ => 0))), (mo, .inr (4, [.int 0, .int 0, .ref kT, .int 20, .int 60, .int 2000, .int 0, .int 0, .ref tb, .ref ld, .int 0, .ref lK, .ref lC, .int 0])), (kT, .inl (e1, 60, .inl (fun _ => 0))), (tb, .inl (e2, 366, .inl (fun _ => 0))), (ld, .inl (e3, 61, .inl (fun _ => 0))), (ou, .inl (cJ, 1, .inr (.inl (fun _ => 0))))])) (hS : va_S (fun q : Nat => s.heap.size ≤ q) s.heap H locs) (hl : lv_has ls 9 [(4, .int 0), (3, .ref ou), (2, .ref mo), (1, .ref o), (0, .ref b)]) : W p l e room_1 s m #[Value.ref b] below meth c H locs 1000 10000 (lw_Z below #[Value.ref b] s) (F0 m 758 ls []) := by
  have C1 := C0
  obtain ⟨hx, hb, hr, hml, hown, hts, hX, hbl, hlocks, hgv⟩ := C0
  have hA : ∀ q : Nat, s.heap.size ≤ q → (fun q : Nat => s.heap.size ≤ q) q := fun _ h => h
  have hbA : ¬ (fun q : Nat => s.heap.size ≤ q) b := Nat.not_le.mpr hbl
  have hRf : room_1.frames = 13 := rfl
  have hRc : room_1.cells = 600002 := rfl
  have hRs : room_1.slots = 7302232 := rfl
  have hRl : room_1.locals = 522 := rfl
  generalize hAe : (fun q : Nat => s.heap.size ≤ q) = A at hP hD hS hA hbA hKX
  by_cases h : (0 ≤ (xs 1) ∧ (xs 1) ≤ 11) ∧ (0 ≤ (xs 2) ∧ (xs 2) ≤ 9)
  · have h_b := True.intro
    refine lv_aload_n hx hb dL_law_758 rfl (lv_at hl 3 rfl) ?_
    refine lv_aload_n hx hb dL_law_759 rfl (lv_at hl 4 rfl) ?_
    refine lv_iload hx hb dL_law_760 (lv_at hl 0 rfl) ?_
    refine lv_iconst (v := 1) hx hb dL_law_762 (by decide) ?_
    refine lv_iadd hx hb dL_law_763 ?_
    refine lv_topi (fun v_294 ev_294 => ?_)
    obtain rfl : v_294 = 1 := ev_294.trans (by decide)
    refine va_sld hx hb hX hbl hbA hS (vp_in_nI (n := 1) (N := 7) (by decide) (by decide)) dL_law_764 ?_
    refine lv_topi (fun v_295 ev_295 => ?_)
    obtain rfl : v_295 = (xs 1) := ev_295.trans rfl
    refine lv_aload_n hx hb dL_law_765 rfl (lv_at hl 4 rfl) ?_
    refine lv_iload hx hb dL_law_766 (lv_at hl 0 rfl) ?_
    refine lv_iconst (v := 2) hx hb dL_law_768 (by decide) ?_
    refine lv_iadd hx hb dL_law_769 ?_
    refine lv_topi (fun v_296 ev_296 => ?_)
    obtain rfl : v_296 = 2 := ev_296.trans (by decide)
    refine va_sld hx hb hX hbl hbA hS (vp_in_nI (n := 2) (N := 7) (by decide) (by decide)) dL_law_770 ?_
    refine lv_topi (fun v_297 ev_297 => ?_)
    obtain rfl : v_297 = (xs 2) := ev_297.trans rfl
    refine lv_aload_n hx hb dL_law_771 rfl (lv_at hl 1 rfl) ?_
    refine zcalliSW (hh := [(0, 10, 13, 25)]) (As := [.ref o, .int (xs 1), .int (xs 2), .ref ou]) (rest := []) (wc := [(o, .inr (3, [.ref kA, .int 0, .int 20, .int 60, .int 2000, .int 0, .ref iA, .int 0, .int 0, .int 0, .ref tA, .ref tr, .ref lA, .int 0])), (tA, .inl (cT, 120, .inl (fun _ => 0))), (ou, .inl (cJ, 1, .inr (.inl (fun _ => 0))))]) (wr := [(kA, .inl (cK, 10, .inr (.inr (.inr (.inr (fun _ => none)))))), (mo, .inr (4, [.int 0, .int 0, .ref kT, .int 20, .int 60, .int 2000, .int 0, .int 0, .ref tb, .ref ld, .int 0, .ref lK, .ref lC, .int 0])), (kT, .inl (e1, 60, .inl (fun _ => 0))), (tb, .inl (e2, 366, .inl (fun _ => 0))), (ld, .inl (e3, 61, .inl (fun _ => 0)))]) ⟨hx, hb, hml, hown, hts⟩ (c_Ltop_ok l D _ o kA iA tA tr lA ou cT cJ (fun _ => 0) (xs 1) (xs 2) h) (vx_cwSW 4 hts zgS_L_top rfl rfl rfl (by decide +kernel) ⟨by rw [hRf]; exact Nat.le_of_ble_eq_true rfl, by rw [hRl]; exact Nat.le_of_ble_eq_true rfl⟩) hK hP hD hS hA [0, 2, 7] [1, 3, 4, 5, 6] rfl (by decide) rfl (by decide) (by decide) [1, 5] rfl rfl hl.1 rfl (Nat.le_of_ble_eq_true rfl) dL_law_772 ⟨by omega, by omega⟩ (fun r_298 u_299 H locs hwu_299 hnu_299 hzu_299 hK hP hD hS => ?_)
    have hK : va_K D vwCl [(cK, .object RX1), (cT, .int), (e1, .int), (e2, .int), (e3, .int), (cJ, .long), (cJ, .long)] s := hK
    have hP : va_P D vwCl ([(kA, .inl (cK, 10, .inr (.inr (.inr (.inr (fun _ => none)))))), (mo, .inr (4, [.int 0, .int 0, .ref kT, .int 20, .int 60, .int 2000, .int 0, .int 0, .ref tb, .ref ld, .int 0, .ref lK, .ref lC, .int 0])), (kT, .inl (e1, 60, .inl (fun _ => 0))), (tb, .inl (e2, 366, .inl (fun _ => 0))), (ld, .inl (e3, 61, .inl (fun _ => 0))), (ou, .inl (cJ, 1, .inr (.inl (vp_updL (fun _ => 0) 0 (0 : Int32).toInt64))))]) H := hP
    have hD : va_D A ([(kA, .inl (cK, 10, .inr (.inr (.inr (.inr (fun _ => none)))))), (mo, .inr (4, [.int 0, .int 0, .ref kT, .int 20, .int 60, .int 2000, .int 0, .int 0, .ref tb, .ref ld, .int 0, .ref lK, .ref lC, .int 0])), (kT, .inl (e1, 60, .inl (fun _ => 0))), (tb, .inl (e2, 366, .inl (fun _ => 0))), (ld, .inl (e3, 61, .inl (fun _ => 0))), (ou, .inl (cJ, 1, .inr (.inl (vp_updL (fun _ => 0) 0 (0 : Int32).toInt64))))]) := hD
    refine lv_topi (fun v_300 ev_300 => ?_)
    obtain rfl : v_300 = 0 := ev_300.trans hwu_299
    refine lv_istore (lv' := [(5, .int 0), (4, .int 0), (3, .ref ou), (2, .ref mo), (1, .ref o), (0, .ref b)]) hx hb dL_law_775 hl (by decide) rfl (fun ls hl => ?_)
    refine lv_aload_n hx hb dL_law_777 rfl (lv_at hl 3 rfl) ?_
    refine lv_aload_n hx hb dL_law_778 rfl (lv_at hl 5 rfl) ?_
    refine lv_iload hx hb dL_law_779 (lv_at hl 1 rfl) ?_
    refine lv_iconst (v := 1) hx hb dL_law_781 (by decide) ?_
    refine lv_iadd hx hb dL_law_782 ?_
    refine lv_topi (fun v_301 ev_301 => ?_)
    obtain rfl : v_301 = 1 := ev_301.trans (by decide)
    refine va_sld hx hb hX hbl hbA hS (vp_in_nI (n := 1) (N := 7) (by decide) (by decide)) dL_law_783 ?_
    refine lv_topi (fun v_302 ev_302 => ?_)
    obtain rfl : v_302 = (xs 1) := ev_302.trans rfl
    refine lv_aload_n hx hb dL_law_784 rfl (lv_at hl 5 rfl) ?_
    refine lv_iload hx hb dL_law_785 (lv_at hl 1 rfl) ?_
    refine lv_iconst (v := 2) hx hb dL_law_787 (by decide) ?_
    refine lv_iadd hx hb dL_law_788 ?_
    refine lv_topi (fun v_303 ev_303 => ?_)
    obtain rfl : v_303 = 2 := ev_303.trans (by decide)
    refine va_sld hx hb hX hbl hbA hS (vp_in_nI (n := 2) (N := 7) (by decide) (by decide)) dL_law_789 ?_
    refine lv_topi (fun v_304 ev_304 => ?_)
    obtain rfl : v_304 = (xs 2) := ev_304.trans rfl
    refine zcalliV (As := [.int (xs 1), .int (xs 2)]) (rest := []) (wc := [(mo, .inr (4, [.int 0, .int 0, .ref kT, .int 20, .int 60, .int 2000, .int 0, .int 0, .ref tb, .ref ld, .int 0, .ref lK, .ref lC, .int 0]))]) (wr := [(kA, .inl (cK, 10, .inr (.inr (.inr (.inr (fun _ => none)))))), (kT, .inl (e1, 60, .inl (fun _ => 0))), (tb, .inl (e2, 366, .inl (fun _ => 0))), (ld, .inl (e3, 61, .inl (fun _ => 0))), (ou, .inl (cJ, 1, .inr (.inl (vp_updL (fun _ => 0) 0 (0 : Int32).toInt64))))]) ⟨hx, hb, hml, hown, hts⟩ (c_Mtop_ok l D _ mo kT tb ld lK lC (xs 1) (xs 2) h) (cwV 2 hts zgV_X4_top rfl rfl rfl (by decide +kernel) ⟨by rw [hRf]; exact Nat.le_of_ble_eq_true rfl, by rw [hRl]; exact Nat.le_of_ble_eq_true rfl⟩) hK hP hD hS hA [1] [0, 2, 3, 4, 5] rfl (by decide) rfl (by decide) (by decide) [] rfl (ci := 4) (q0 := 1) rfl rfl rfl hl.1 rfl (Nat.le_of_ble_eq_true rfl) dL_law_790 ⟨by omega, by omega⟩ (fun r_305 u_306 H locs hwu_306 hnu_306 hzu_306 hK hP hD hS => ?_)
    have hK : va_K D vwCl [(cK, .object RX1), (cT, .int), (e1, .int), (e2, .int), (e3, .int), (cJ, .long), (cJ, .long)] s := hK
    have hP : va_P D vwCl ([(kA, .inl (cK, 10, .inr (.inr (.inr (.inr (fun _ => none)))))), (kT, .inl (e1, 60, .inl (fun _ => 0))), (tb, .inl (e2, 366, .inl (fun _ => 0))), (ld, .inl (e3, 61, .inl (fun _ => 0))), (ou, .inl (cJ, 1, .inr (.inl (vp_updL (fun _ => 0) 0 (0 : Int32).toInt64)))), (mo, .inr (4, [.int 0, .int 0, .ref kT, .int 20, .int 60, .int 2000, .int 0, .int 0, .ref tb, .ref ld, .int 0, .ref lK, .ref lC, .int 0]))]) H := hP
    have hD : va_D A ([(kA, .inl (cK, 10, .inr (.inr (.inr (.inr (fun _ => none)))))), (kT, .inl (e1, 60, .inl (fun _ => 0))), (tb, .inl (e2, 366, .inl (fun _ => 0))), (ld, .inl (e3, 61, .inl (fun _ => 0))), (ou, .inl (cJ, 1, .inr (.inl (vp_updL (fun _ => 0) 0 (0 : Int32).toInt64)))), (mo, .inr (4, [.int 0, .int 0, .ref kT, .int 20, .int 60, .int 2000, .int 0, .int 0, .ref tb, .ref ld, .int 0, .ref lK, .ref lC, .int 0]))]) := hD
    refine lv_topi (fun v_307 ev_307 => ?_)
    obtain rfl : v_307 = 0 := ev_307.trans hwu_306
    refine lv_istore (lv' := [(6, .int 0), (5, .int 0), (4, .int 0), (3, .ref ou), (2, .ref mo), (1, .ref o), (0, .ref b)]) hx hb dL_law_793 hl (by decide) rfl (fun ls hl => ?_)
    refine lv_aload_n hx hb dL_law_795 rfl (lv_at hl 4 rfl) ?_
    refine zrdV (As := []) (rest := []) (wc := [(mo, .inr (4, [.int 0, .int 0, .ref kT, .int 20, .int 60, .int 2000, .int 0, .int 0, .ref tb, .ref ld, .int 0, .ref lK, .ref lC, .int 0]))]) ⟨hx, hb, hml, hown, hts⟩ (c_thrown l D _ mo [.int 0, .int 0, .ref kT, .int 20, .int 60, .int 2000, .int 0, .int 0, .ref tb, .ref ld, .int 0, .ref lK, .ref lC, .int 0] 0 rfl) (cwV 0 hts zgV_X4_thrown rfl rfl rfl (by decide +kernel) ⟨by rw [hRf]; exact Nat.le_of_ble_eq_true rfl, by rw [hRl]; exact Nat.le_of_ble_eq_true rfl⟩) hK hP hD [5] rfl (by decide) [] rfl (ci := 4) (q0 := 5) rfl rfl rfl hl.1 rfl (Nat.le_of_ble_eq_true rfl) dL_law_796 ⟨by omega, by omega⟩ (fun r_308 hr_308 => ?_)
    refine lv_topi (fun v_309 ev_309 => ?_)
    obtain rfl : v_309 = 0 := ev_309.trans hr_308
    refine lv_iload hx hb dL_law_799 (lv_at hl 1 rfl) ?_
    refine lv_icmp_eq (tgt := 806) hx hb dL_law_801 (by decide) (fun c_310 => ?_) (fun c_310 => absurd (rfl) c_310)
    refine lv_iload hx hb dL_law_806 (lv_at hl 1 rfl) ?_
    refine lv_if_ne (tgt := 823) hx hb dL_law_808 (by decide) (fun c_311 => absurd (rfl) c_311) (fun c_311 => ?_)
    refine lv_aload_n hx hb dL_law_811 rfl (lv_at hl 3 rfl) ?_
    refine lv_iconst (v := 0) hx hb dL_law_812 (by decide) ?_
    refine va_lald hx hb hK hP 4 5 rfl rfl (vp_in_nI (n := 0) (N := 1) (by decide) (by decide)) dL_law_813 ?_
    refine lv_topl (fun v_312 ev_312 => ?_)
    obtain rfl : v_312 = (0 : Int32).toInt64 := ev_312.trans rfl
    refine lv_iload hx hb dL_law_814 (lv_at hl 0 rfl) ?_
    refine lv_i2l (v := (0 : Int32).toInt64) hx hb dL_law_816 rfl ?_
    refine W.lcmp hx hb dL_law_817 ?_
    refine lv_topi (fun v_313 ev_313 => ?_)
    obtain rfl : v_313 = 0 := ev_313.trans (zcmp_self _)
    refine lv_if_eq (tgt := 823) hx hb dL_law_818 (by decide) (fun c_314 => ?_) (fun c_314 => absurd (rfl) c_314)
    refine lv_goto (tgt := 1463) hx hb dL_law_823 (by decide) ?_
    have hl := lv_sub hl (l' := [(4, .int 0), (3, .ref ou), (2, .ref mo), (1, .ref o), (0, .ref b)]) [2, 3, 4, 5, 6] rfl
    refine W.widen (k := 2000) (n := 20000) (by omega) (by omega) ?_
    subst hAe
    exact znext C1 o mo ou H locs ls hS hl
  · have h_b := True.intro
    refine lv_aload_n hx hb dL_law_758 rfl (lv_at hl 3 rfl) ?_
    refine lv_aload_n hx hb dL_law_759 rfl (lv_at hl 4 rfl) ?_
    refine lv_iload hx hb dL_law_760 (lv_at hl 0 rfl) ?_
    refine lv_iconst (v := 1) hx hb dL_law_762 (by decide) ?_
    refine lv_iadd hx hb dL_law_763 ?_
    refine lv_topi (fun v_315 ev_315 => ?_)
    obtain rfl : v_315 = 1 := ev_315.trans (by decide)
    refine va_sld hx hb hX hbl hbA hS (vp_in_nI (n := 1) (N := 7) (by decide) (by decide)) dL_law_764 ?_
    refine lv_topi (fun v_316 ev_316 => ?_)
    obtain rfl : v_316 = (xs 1) := ev_316.trans rfl
    refine lv_aload_n hx hb dL_law_765 rfl (lv_at hl 4 rfl) ?_
    refine lv_iload hx hb dL_law_766 (lv_at hl 0 rfl) ?_
    refine lv_iconst (v := 2) hx hb dL_law_768 (by decide) ?_
    refine lv_iadd hx hb dL_law_769 ?_
    refine lv_topi (fun v_317 ev_317 => ?_)
    obtain rfl : v_317 = 2 := ev_317.trans (by decide)
    refine va_sld hx hb hX hbl hbA hS (vp_in_nI (n := 2) (N := 7) (by decide) (by decide)) dL_law_770 ?_
    refine lv_topi (fun v_318 ev_318 => ?_)
    obtain rfl : v_318 = (xs 2) := ev_318.trans rfl
    refine lv_aload_n hx hb dL_law_771 rfl (lv_at hl 1 rfl) ?_
    refine zcalliSWK (hh := [(0, 10, 13, 25)]) (As := [.ref o, .int (xs 1), .int (xs 2), .ref ou]) (rest := []) (wc := [(o, .inr (3, [.ref kA, .int 0, .int 20, .int 60, .int 2000, .int 0, .ref iA, .int 0, .int 0, .int 0, .ref tA, .ref tr, .ref lA, .int 0]))]) (wr := [(kA, .inl (cK, 10, .inr (.inr (.inr (.inr (fun _ => none)))))), (tA, .inl (cT, 120, .inl (fun _ => 0))), (mo, .inr (4, [.int 0, .int 0, .ref kT, .int 20, .int 60, .int 2000, .int 0, .int 0, .ref tb, .ref ld, .int 0, .ref lK, .ref lC, .int 0])), (kT, .inl (e1, 60, .inl (fun _ => 0))), (tb, .inl (e2, 366, .inl (fun _ => 0))), (ld, .inl (e3, 61, .inl (fun _ => 0))), (ou, .inl (cJ, 1, .inr (.inl (fun _ => 0))))]) ⟨hx, hb, hml, hown, hts⟩ (c_Ltop_x l D _ hfl o kA iA tA tr lA ou (xs 1) (xs 2) h) (vx_cwSW 4 hts zgS_L_top rfl rfl rfl (by decide +kernel) ⟨by rw [hRf]; exact Nat.le_of_ble_eq_true rfl, by rw [hRl]; exact Nat.le_of_ble_eq_true rfl⟩) hKX hK hP hD hS hA [0] [1, 2, 3, 4, 5, 6, 7] rfl (by decide) rfl (by decide) (by decide) [] rfl rfl hl.1 rfl (Nat.le_of_ble_eq_true rfl) dL_law_772 ⟨by omega, by omega⟩ (fun r_319 u_320 H locs hwu_320 hnu_320 hzu_320 hK hP hD hS => ?_)
    have hK : va_K D vwCl [(cK, .object RX1), (cT, .int), (e1, .int), (e2, .int), (e3, .int), (cJ, .long)] s := hK
    have hP : va_P D vwCl ([(kA, .inl (cK, 10, .inr (.inr (.inr (.inr (fun _ => none)))))), (tA, .inl (cT, 120, .inl (fun _ => 0))), (mo, .inr (4, [.int 0, .int 0, .ref kT, .int 20, .int 60, .int 2000, .int 0, .int 0, .ref tb, .ref ld, .int 0, .ref lK, .ref lC, .int 0])), (kT, .inl (e1, 60, .inl (fun _ => 0))), (tb, .inl (e2, 366, .inl (fun _ => 0))), (ld, .inl (e3, 61, .inl (fun _ => 0))), (ou, .inl (cJ, 1, .inr (.inl (fun _ => 0))))]) H := hP
    have hD : va_D A ([(kA, .inl (cK, 10, .inr (.inr (.inr (.inr (fun _ => none)))))), (tA, .inl (cT, 120, .inl (fun _ => 0))), (mo, .inr (4, [.int 0, .int 0, .ref kT, .int 20, .int 60, .int 2000, .int 0, .int 0, .ref tb, .ref ld, .int 0, .ref lK, .ref lC, .int 0])), (kT, .inl (e1, 60, .inl (fun _ => 0))), (tb, .inl (e2, 366, .inl (fun _ => 0))), (ld, .inl (e3, 61, .inl (fun _ => 0))), (ou, .inl (cJ, 1, .inr (.inl (fun _ => 0))))]) := hD
    refine lv_topi (fun v_321 ev_321 => ?_)
    obtain rfl : v_321 = 1 := ev_321.trans hwu_320
    refine lv_istore (lv' := [(5, .int 1), (4, .int 0), (3, .ref ou), (2, .ref mo), (1, .ref o), (0, .ref b)]) hx hb dL_law_775 hl (by decide) rfl (fun ls hl => ?_)
    refine lv_aload_n hx hb dL_law_777 rfl (lv_at hl 3 rfl) ?_
    refine lv_aload_n hx hb dL_law_778 rfl (lv_at hl 5 rfl) ?_
    refine lv_iload hx hb dL_law_779 (lv_at hl 1 rfl) ?_
    refine lv_iconst (v := 1) hx hb dL_law_781 (by decide) ?_
    refine lv_iadd hx hb dL_law_782 ?_
    refine lv_topi (fun v_322 ev_322 => ?_)
    obtain rfl : v_322 = 1 := ev_322.trans (by decide)
    refine va_sld hx hb hX hbl hbA hS (vp_in_nI (n := 1) (N := 7) (by decide) (by decide)) dL_law_783 ?_
    refine lv_topi (fun v_323 ev_323 => ?_)
    obtain rfl : v_323 = (xs 1) := ev_323.trans rfl
    refine lv_aload_n hx hb dL_law_784 rfl (lv_at hl 5 rfl) ?_
    refine lv_iload hx hb dL_law_785 (lv_at hl 1 rfl) ?_
    refine lv_iconst (v := 2) hx hb dL_law_787 (by decide) ?_
    refine lv_iadd hx hb dL_law_788 ?_
    refine lv_topi (fun v_324 ev_324 => ?_)
    obtain rfl : v_324 = 2 := ev_324.trans (by decide)
    refine va_sld hx hb hX hbl hbA hS (vp_in_nI (n := 2) (N := 7) (by decide) (by decide)) dL_law_789 ?_
    refine lv_topi (fun v_325 ev_325 => ?_)
    obtain rfl : v_325 = (xs 2) := ev_325.trans rfl
    refine zcalliV (As := [.int (xs 1), .int (xs 2)]) (rest := []) (wc := [(mo, .inr (4, [.int 0, .int 0, .ref kT, .int 20, .int 60, .int 2000, .int 0, .int 0, .ref tb, .ref ld, .int 0, .ref lK, .ref lC, .int 0]))]) (wr := [(kA, .inl (cK, 10, .inr (.inr (.inr (.inr (fun _ => none)))))), (tA, .inl (cT, 120, .inl (fun _ => 0))), (kT, .inl (e1, 60, .inl (fun _ => 0))), (tb, .inl (e2, 366, .inl (fun _ => 0))), (ld, .inl (e3, 61, .inl (fun _ => 0))), (ou, .inl (cJ, 1, .inr (.inl (fun _ => 0))))]) ⟨hx, hb, hml, hown, hts⟩ (c_Mtop_x l D _ mo kT tb ld lK lC (xs 1) (xs 2) h) (cwV 2 hts zgV_X4_top rfl rfl rfl (by decide +kernel) ⟨by rw [hRf]; exact Nat.le_of_ble_eq_true rfl, by rw [hRl]; exact Nat.le_of_ble_eq_true rfl⟩) hK hP hD hS hA [2] [0, 1, 3, 4, 5, 6] rfl (by decide) rfl (by decide) (by decide) [] rfl (ci := 4) (q0 := 2) rfl rfl rfl hl.1 rfl (Nat.le_of_ble_eq_true rfl) dL_law_790 ⟨by omega, by omega⟩ (fun r_326 u_327 H locs hwu_327 hnu_327 hzu_327 hK hP hD hS => ?_)
    have hK : va_K D vwCl [(cK, .object RX1), (cT, .int), (e1, .int), (e2, .int), (e3, .int), (cJ, .long)] s := hK
    have hP : va_P D vwCl ([(kA, .inl (cK, 10, .inr (.inr (.inr (.inr (fun _ => none)))))), (tA, .inl (cT, 120, .inl (fun _ => 0))), (kT, .inl (e1, 60, .inl (fun _ => 0))), (tb, .inl (e2, 366, .inl (fun _ => 0))), (ld, .inl (e3, 61, .inl (fun _ => 0))), (ou, .inl (cJ, 1, .inr (.inl (fun _ => 0)))), (mo, .inr (4, [.int 1, .int 0, .ref kT, .int 20, .int 60, .int 2000, .int 0, .int 0, .ref tb, .ref ld, .int 0, .ref lK, .ref lC, .int 0]))]) H := hP
    have hD : va_D A ([(kA, .inl (cK, 10, .inr (.inr (.inr (.inr (fun _ => none)))))), (tA, .inl (cT, 120, .inl (fun _ => 0))), (kT, .inl (e1, 60, .inl (fun _ => 0))), (tb, .inl (e2, 366, .inl (fun _ => 0))), (ld, .inl (e3, 61, .inl (fun _ => 0))), (ou, .inl (cJ, 1, .inr (.inl (fun _ => 0)))), (mo, .inr (4, [.int 1, .int 0, .ref kT, .int 20, .int 60, .int 2000, .int 0, .int 0, .ref tb, .ref ld, .int 0, .ref lK, .ref lC, .int 0]))]) := hD
    refine lv_topi (fun v_328 ev_328 => ?_)
    obtain rfl : v_328 = 0 := ev_328.trans hwu_327
    refine lv_istore (lv' := [(6, .int 0), (5, .int 1), (4, .int 0), (3, .ref ou), (2, .ref mo), (1, .ref o), (0, .ref b)]) hx hb dL_law_793 hl (by decide) rfl (fun ls hl => ?_)
    refine lv_aload_n hx hb dL_law_795 rfl (lv_at hl 4 rfl) ?_
    refine zrdV (As := []) (rest := []) (wc := [(mo, .inr (4, [.int 1, .int 0, .ref kT, .int 20, .int 60, .int 2000, .int 0, .int 0, .ref tb, .ref ld, .int 0, .ref lK, .ref lC, .int 0]))]) ⟨hx, hb, hml, hown, hts⟩ (c_thrown l D _ mo [.int 1, .int 0, .ref kT, .int 20, .int 60, .int 2000, .int 0, .int 0, .ref tb, .ref ld, .int 0, .ref lK, .ref lC, .int 0] 1 rfl) (cwV 0 hts zgV_X4_thrown rfl rfl rfl (by decide +kernel) ⟨by rw [hRf]; exact Nat.le_of_ble_eq_true rfl, by rw [hRl]; exact Nat.le_of_ble_eq_true rfl⟩) hK hP hD [6] rfl (by decide) [] rfl (ci := 4) (q0 := 6) rfl rfl rfl hl.1 rfl (Nat.le_of_ble_eq_true rfl) dL_law_796 ⟨by omega, by omega⟩ (fun r_329 hr_329 => ?_)
    refine lv_topi (fun v_330 ev_330 => ?_)
    obtain rfl : v_330 = 1 := ev_330.trans hr_329
    refine lv_iload hx hb dL_law_799 (lv_at hl 1 rfl) ?_
    refine lv_icmp_eq (tgt := 806) hx hb dL_law_801 (by decide) (fun c_331 => ?_) (fun c_331 => absurd (rfl) c_331)
    refine lv_iload hx hb dL_law_806 (lv_at hl 1 rfl) ?_
    refine lv_if_ne (tgt := 823) hx hb dL_law_808 (by decide) (fun c_332 => ?_) (fun c_332 => absurd c_332 (by decide))
    refine lv_goto (tgt := 1463) hx hb dL_law_823 (by decide) ?_
    have hl := lv_sub hl (l' := [(4, .int 0), (3, .ref ou), (2, .ref mo), (1, .ref o), (0, .ref b)]) [2, 3, 4, 5, 6] rfl
    refine W.widen (k := 2000) (n := 20000) (by omega) (by omega) ?_
    subst hAe
    exact znext C1 o mo ou H locs ls hS hl
set_option maxHeartbeats 4000000 in
set_option maxRecDepth 100000 in
theorem zc_at {p : Program} {e : Env} {s : State} {m : MethodId} {below : List Frame} {meth : Method} {c : Code} {l : Launch} {b : Nat} {xs : Nat → Int32} (C0 : lw_At p s m meth c b 7 xs) (hfl : l.stackTraces = false) {D : zG} (hKX : zKX (fun q : Nat => s.heap.size ≤ q) s) (o kA iA tA tr lA mo kT tb ld lK lC ou : Nat) (cK cT e1 e2 e3 cJ : ClassId) (H : Heap) (locs : List Loc) (ls : Array Slot) (hK : va_K D vwCl [(cK, .object RX1), (cT, .int), (e1, .int), (e2, .int), (e3, .int), (cJ, .long)] s) (hP : va_P D vwCl ([(o, .inr (3, [.ref kA, .int 0, .int 20, .int 60, .int 2000, .int 0, .ref iA, .int 0, .int 0, .int 0, .ref tA, .ref tr, .ref lA, .int 0])), (kA, .inl (cK, 10, .inr (.inr (.inr (.inr (fun _ => none)))))), (tA, .inl (cT, 120, .inl (fun _ => 0))), (mo, .inr (4, [.int 0, .int 0, .ref kT, .int 20, .int 60, .int 2000, .int 0, .int 0, .ref tb, .ref ld, .int 0, .ref lK, .ref lC, .int 0])), (kT, .inl (e1, 60, .inl (fun _ => 0))), (tb, .inl (e2, 366, .inl (fun _ => 0))), (ld, .inl (e3, 61, .inl (fun _ => 0))), (ou, .inl (cJ, 1, .inr (.inl (fun _ => 0))))]) H) (hD : va_D (fun q : Nat => s.heap.size ≤ q) ([(o, .inr (3, [.ref kA, .int 0, .int 20, .int 60, .int 2000, .int 0, .ref iA, .int 0, .int 0, .int 0, .ref tA, .ref tr, .ref lA, .int 0])), (kA, .inl (cK, 10, .inr (.inr (.inr (.inr (fun _ => none)))))), (tA, .inl (cT, 120, .inl (fun _ => 0))), (mo, .inr (4, [.int 0, .int 0, .ref kT, .int 20, .int 60, .int 2000, .int 0, .int 0, .ref tb, .ref ld, .int 0, .ref lK, .ref lC, .int 0])), (kT, .inl (e1, 60, .inl (fun _ => 0))), (tb, .inl (e2, 366, .inl (fun _ => 0))), (ld, .inl (e3, 61, .inl (fun _ => 0))), (ou, .inl (cJ, 1, .inr (.inl (fun _ => 0))))])) (hS : va_S (fun q : Nat => s.heap.size ≤ q) s.heap H locs) (hl : lv_has ls 9 [(4, .int 0), (3, .ref ou), (2, .ref mo), (1, .ref o), (0, .ref b)]) : W p l e room_1 s m #[Value.ref b] below meth c H locs 1000 10000 (lw_Z below #[Value.ref b] s) (F0 m 826 ls []) := by
  have C1 := C0
  obtain ⟨hx, hb, hr, hml, hown, hts, hX, hbl, hlocks, hgv⟩ := C0
  have hA : ∀ q : Nat, s.heap.size ≤ q → (fun q : Nat => s.heap.size ≤ q) q := fun _ h => h
  have hbA : ¬ (fun q : Nat => s.heap.size ≤ q) b := Nat.not_le.mpr hbl
  have hRf : room_1.frames = 13 := rfl
  have hRc : room_1.cells = 600002 := rfl
  have hRs : room_1.slots = 7302232 := rfl
  have hRl : room_1.locals = 522 := rfl
  generalize hAe : (fun q : Nat => s.heap.size ≤ q) = A at hP hD hS hA hbA hKX
  by_cases h : ((0 ≤ (xs 1) ∧ (xs 1) ≤ 11) ∧ (0 ≤ (xs 2) ∧ (xs 2) ≤ 9)) ∧ (0 ≤ (xs 3) ∧ (xs 3) ≤ 39)
  · have h_b := True.intro
    refine lv_aload_n hx hb dL_law_826 rfl (lv_at hl 3 rfl) ?_
    refine lv_aload_n hx hb dL_law_827 rfl (lv_at hl 4 rfl) ?_
    refine lv_iload hx hb dL_law_828 (lv_at hl 0 rfl) ?_
    refine lv_iconst (v := 1) hx hb dL_law_830 (by decide) ?_
    refine lv_iadd hx hb dL_law_831 ?_
    refine lv_topi (fun v_333 ev_333 => ?_)
    obtain rfl : v_333 = 1 := ev_333.trans (by decide)
    refine va_sld hx hb hX hbl hbA hS (vp_in_nI (n := 1) (N := 7) (by decide) (by decide)) dL_law_832 ?_
    refine lv_topi (fun v_334 ev_334 => ?_)
    obtain rfl : v_334 = (xs 1) := ev_334.trans rfl
    refine lv_aload_n hx hb dL_law_833 rfl (lv_at hl 4 rfl) ?_
    refine lv_iload hx hb dL_law_834 (lv_at hl 0 rfl) ?_
    refine lv_iconst (v := 2) hx hb dL_law_836 (by decide) ?_
    refine lv_iadd hx hb dL_law_837 ?_
    refine lv_topi (fun v_335 ev_335 => ?_)
    obtain rfl : v_335 = 2 := ev_335.trans (by decide)
    refine va_sld hx hb hX hbl hbA hS (vp_in_nI (n := 2) (N := 7) (by decide) (by decide)) dL_law_838 ?_
    refine lv_topi (fun v_336 ev_336 => ?_)
    obtain rfl : v_336 = (xs 2) := ev_336.trans rfl
    refine lv_aload_n hx hb dL_law_839 rfl (lv_at hl 4 rfl) ?_
    refine lv_iload hx hb dL_law_840 (lv_at hl 0 rfl) ?_
    refine lv_iconst (v := 3) hx hb dL_law_842 (by decide) ?_
    refine lv_iadd hx hb dL_law_843 ?_
    refine lv_topi (fun v_337 ev_337 => ?_)
    obtain rfl : v_337 = 3 := ev_337.trans (by decide)
    refine va_sld hx hb hX hbl hbA hS (vp_in_nI (n := 3) (N := 7) (by decide) (by decide)) dL_law_844 ?_
    refine lv_topi (fun v_338 ev_338 => ?_)
    obtain rfl : v_338 = (xs 3) := ev_338.trans rfl
    refine lv_aload_n hx hb dL_law_845 rfl (lv_at hl 1 rfl) ?_
    refine zcalliSW (hh := [(0, 12, 15, 25)]) (As := [.ref o, .int (xs 1), .int (xs 2), .int (xs 3), .ref ou]) (rest := []) (wc := [(o, .inr (3, [.ref kA, .int 0, .int 20, .int 60, .int 2000, .int 0, .ref iA, .int 0, .int 0, .int 0, .ref tA, .ref tr, .ref lA, .int 0])), (ou, .inl (cJ, 1, .inr (.inl (fun _ => 0))))]) (wr := [(kA, .inl (cK, 10, .inr (.inr (.inr (.inr (fun _ => none)))))), (tA, .inl (cT, 120, .inl (fun _ => 0))), (mo, .inr (4, [.int 0, .int 0, .ref kT, .int 20, .int 60, .int 2000, .int 0, .int 0, .ref tb, .ref ld, .int 0, .ref lK, .ref lC, .int 0])), (kT, .inl (e1, 60, .inl (fun _ => 0))), (tb, .inl (e2, 366, .inl (fun _ => 0))), (ld, .inl (e3, 61, .inl (fun _ => 0)))]) ⟨hx, hb, hml, hown, hts⟩ (c_Lat_ok l D _ o kA iA tA tr lA ou cJ (fun _ => 0) (xs 1) (xs 2) (xs 3) h.1 h.2) (vx_cwSW 5 hts zgS_L_at rfl rfl rfl (by decide +kernel) ⟨by rw [hRf]; exact Nat.le_of_ble_eq_true rfl, by rw [hRl]; exact Nat.le_of_ble_eq_true rfl⟩) hK hP hD hS hA [0, 7] [1, 2, 3, 4, 5, 6] rfl (by decide) rfl (by decide) (by decide) [5] rfl rfl hl.1 rfl (Nat.le_of_ble_eq_true rfl) dL_law_846 ⟨by omega, by omega⟩ (fun r_339 u_340 H locs hwu_340 hnu_340 hzu_340 hK hP hD hS => ?_)
    have hK : va_K D vwCl [(cK, .object RX1), (cT, .int), (e1, .int), (e2, .int), (e3, .int), (cJ, .long), (cJ, .long)] s := hK
    have hP : va_P D vwCl ([(kA, .inl (cK, 10, .inr (.inr (.inr (.inr (fun _ => none)))))), (tA, .inl (cT, 120, .inl (fun _ => 0))), (mo, .inr (4, [.int 0, .int 0, .ref kT, .int 20, .int 60, .int 2000, .int 0, .int 0, .ref tb, .ref ld, .int 0, .ref lK, .ref lC, .int 0])), (kT, .inl (e1, 60, .inl (fun _ => 0))), (tb, .inl (e2, 366, .inl (fun _ => 0))), (ld, .inl (e3, 61, .inl (fun _ => 0))), (ou, .inl (cJ, 1, .inr (.inl (vp_updL (fun _ => 0) 0 ((-1) : Int32).toInt64))))]) H := hP
    have hD : va_D A ([(kA, .inl (cK, 10, .inr (.inr (.inr (.inr (fun _ => none)))))), (tA, .inl (cT, 120, .inl (fun _ => 0))), (mo, .inr (4, [.int 0, .int 0, .ref kT, .int 20, .int 60, .int 2000, .int 0, .int 0, .ref tb, .ref ld, .int 0, .ref lK, .ref lC, .int 0])), (kT, .inl (e1, 60, .inl (fun _ => 0))), (tb, .inl (e2, 366, .inl (fun _ => 0))), (ld, .inl (e3, 61, .inl (fun _ => 0))), (ou, .inl (cJ, 1, .inr (.inl (vp_updL (fun _ => 0) 0 ((-1) : Int32).toInt64))))]) := hD
    refine lv_topi (fun v_341 ev_341 => ?_)
    obtain rfl : v_341 = 0 := ev_341.trans hwu_340
    refine lv_istore (lv' := [(5, .int 0), (4, .int 0), (3, .ref ou), (2, .ref mo), (1, .ref o), (0, .ref b)]) hx hb dL_law_849 hl (by decide) rfl (fun ls hl => ?_)
    refine lv_aload_n hx hb dL_law_851 rfl (lv_at hl 3 rfl) ?_
    refine lv_aload_n hx hb dL_law_852 rfl (lv_at hl 5 rfl) ?_
    refine lv_iload hx hb dL_law_853 (lv_at hl 1 rfl) ?_
    refine lv_iconst (v := 1) hx hb dL_law_855 (by decide) ?_
    refine lv_iadd hx hb dL_law_856 ?_
    refine lv_topi (fun v_342 ev_342 => ?_)
    obtain rfl : v_342 = 1 := ev_342.trans (by decide)
    refine va_sld hx hb hX hbl hbA hS (vp_in_nI (n := 1) (N := 7) (by decide) (by decide)) dL_law_857 ?_
    refine lv_topi (fun v_343 ev_343 => ?_)
    obtain rfl : v_343 = (xs 1) := ev_343.trans rfl
    refine lv_aload_n hx hb dL_law_858 rfl (lv_at hl 5 rfl) ?_
    refine lv_iload hx hb dL_law_859 (lv_at hl 1 rfl) ?_
    refine lv_iconst (v := 2) hx hb dL_law_861 (by decide) ?_
    refine lv_iadd hx hb dL_law_862 ?_
    refine lv_topi (fun v_344 ev_344 => ?_)
    obtain rfl : v_344 = 2 := ev_344.trans (by decide)
    refine va_sld hx hb hX hbl hbA hS (vp_in_nI (n := 2) (N := 7) (by decide) (by decide)) dL_law_863 ?_
    refine lv_topi (fun v_345 ev_345 => ?_)
    obtain rfl : v_345 = (xs 2) := ev_345.trans rfl
    refine lv_aload_n hx hb dL_law_864 rfl (lv_at hl 5 rfl) ?_
    refine lv_iload hx hb dL_law_865 (lv_at hl 1 rfl) ?_
    refine lv_iconst (v := 3) hx hb dL_law_867 (by decide) ?_
    refine lv_iadd hx hb dL_law_868 ?_
    refine lv_topi (fun v_346 ev_346 => ?_)
    obtain rfl : v_346 = 3 := ev_346.trans (by decide)
    refine va_sld hx hb hX hbl hbA hS (vp_in_nI (n := 3) (N := 7) (by decide) (by decide)) dL_law_869 ?_
    refine lv_topi (fun v_347 ev_347 => ?_)
    obtain rfl : v_347 = (xs 3) := ev_347.trans rfl
    refine zcalliV (As := [.int (xs 1), .int (xs 2), .int (xs 3)]) (rest := []) (wc := [(mo, .inr (4, [.int 0, .int 0, .ref kT, .int 20, .int 60, .int 2000, .int 0, .int 0, .ref tb, .ref ld, .int 0, .ref lK, .ref lC, .int 0]))]) (wr := [(kA, .inl (cK, 10, .inr (.inr (.inr (.inr (fun _ => none)))))), (tA, .inl (cT, 120, .inl (fun _ => 0))), (kT, .inl (e1, 60, .inl (fun _ => 0))), (tb, .inl (e2, 366, .inl (fun _ => 0))), (ld, .inl (e3, 61, .inl (fun _ => 0))), (ou, .inl (cJ, 1, .inr (.inl (vp_updL (fun _ => 0) 0 ((-1) : Int32).toInt64))))]) ⟨hx, hb, hml, hown, hts⟩ (c_Mat_ok l D _ mo kT tb ld lK lC (xs 1) (xs 2) (xs 3) h) (cwV 3 hts zgV_X4_at rfl rfl rfl (by decide +kernel) ⟨by rw [hRf]; exact Nat.le_of_ble_eq_true rfl, by rw [hRl]; exact Nat.le_of_ble_eq_true rfl⟩) hK hP hD hS hA [2] [0, 1, 3, 4, 5, 6] rfl (by decide) rfl (by decide) (by decide) [] rfl (ci := 4) (q0 := 2) rfl rfl rfl hl.1 rfl (Nat.le_of_ble_eq_true rfl) dL_law_870 ⟨by omega, by omega⟩ (fun r_348 u_349 H locs hwu_349 hnu_349 hzu_349 hK hP hD hS => ?_)
    have hK : va_K D vwCl [(cK, .object RX1), (cT, .int), (e1, .int), (e2, .int), (e3, .int), (cJ, .long), (cJ, .long)] s := hK
    have hP : va_P D vwCl ([(kA, .inl (cK, 10, .inr (.inr (.inr (.inr (fun _ => none)))))), (tA, .inl (cT, 120, .inl (fun _ => 0))), (kT, .inl (e1, 60, .inl (fun _ => 0))), (tb, .inl (e2, 366, .inl (fun _ => 0))), (ld, .inl (e3, 61, .inl (fun _ => 0))), (ou, .inl (cJ, 1, .inr (.inl (vp_updL (fun _ => 0) 0 ((-1) : Int32).toInt64)))), (mo, .inr (4, [.int 0, .int 0, .ref kT, .int 20, .int 60, .int 2000, .int 0, .int 0, .ref tb, .ref ld, .int 0, .ref lK, .ref lC, .int 0]))]) H := hP
    have hD : va_D A ([(kA, .inl (cK, 10, .inr (.inr (.inr (.inr (fun _ => none)))))), (tA, .inl (cT, 120, .inl (fun _ => 0))), (kT, .inl (e1, 60, .inl (fun _ => 0))), (tb, .inl (e2, 366, .inl (fun _ => 0))), (ld, .inl (e3, 61, .inl (fun _ => 0))), (ou, .inl (cJ, 1, .inr (.inl (vp_updL (fun _ => 0) 0 ((-1) : Int32).toInt64)))), (mo, .inr (4, [.int 0, .int 0, .ref kT, .int 20, .int 60, .int 2000, .int 0, .int 0, .ref tb, .ref ld, .int 0, .ref lK, .ref lC, .int 0]))]) := hD
    refine lv_topi (fun v_350 ev_350 => ?_)
    obtain rfl : v_350 = (-1) := ev_350.trans hwu_349
    refine lv_istore (lv' := [(6, .int (-1)), (5, .int 0), (4, .int 0), (3, .ref ou), (2, .ref mo), (1, .ref o), (0, .ref b)]) hx hb dL_law_873 hl (by decide) rfl (fun ls hl => ?_)
    refine lv_aload_n hx hb dL_law_875 rfl (lv_at hl 4 rfl) ?_
    refine zrdV (As := []) (rest := []) (wc := [(mo, .inr (4, [.int 0, .int 0, .ref kT, .int 20, .int 60, .int 2000, .int 0, .int 0, .ref tb, .ref ld, .int 0, .ref lK, .ref lC, .int 0]))]) ⟨hx, hb, hml, hown, hts⟩ (c_thrown l D _ mo [.int 0, .int 0, .ref kT, .int 20, .int 60, .int 2000, .int 0, .int 0, .ref tb, .ref ld, .int 0, .ref lK, .ref lC, .int 0] 0 rfl) (cwV 0 hts zgV_X4_thrown rfl rfl rfl (by decide +kernel) ⟨by rw [hRf]; exact Nat.le_of_ble_eq_true rfl, by rw [hRl]; exact Nat.le_of_ble_eq_true rfl⟩) hK hP hD [6] rfl (by decide) [] rfl (ci := 4) (q0 := 6) rfl rfl rfl hl.1 rfl (Nat.le_of_ble_eq_true rfl) dL_law_876 ⟨by omega, by omega⟩ (fun r_351 hr_351 => ?_)
    refine lv_topi (fun v_352 ev_352 => ?_)
    obtain rfl : v_352 = 0 := ev_352.trans hr_351
    refine lv_iload hx hb dL_law_879 (lv_at hl 1 rfl) ?_
    refine lv_icmp_eq (tgt := 886) hx hb dL_law_881 (by decide) (fun c_353 => ?_) (fun c_353 => absurd (rfl) c_353)
    refine lv_iload hx hb dL_law_886 (lv_at hl 1 rfl) ?_
    refine lv_if_ne (tgt := 903) hx hb dL_law_888 (by decide) (fun c_354 => absurd (rfl) c_354) (fun c_354 => ?_)
    refine lv_aload_n hx hb dL_law_891 rfl (lv_at hl 3 rfl) ?_
    refine lv_iconst (v := 0) hx hb dL_law_892 (by decide) ?_
    refine va_lald hx hb hK hP 5 5 rfl rfl (vp_in_nI (n := 0) (N := 1) (by decide) (by decide)) dL_law_893 ?_
    refine lv_topl (fun v_355 ev_355 => ?_)
    obtain rfl : v_355 = ((-1) : Int32).toInt64 := ev_355.trans rfl
    refine lv_iload hx hb dL_law_894 (lv_at hl 0 rfl) ?_
    refine lv_i2l (v := ((-1) : Int32).toInt64) hx hb dL_law_896 rfl ?_
    refine W.lcmp hx hb dL_law_897 ?_
    refine lv_topi (fun v_356 ev_356 => ?_)
    obtain rfl : v_356 = 0 := ev_356.trans (zcmp_self _)
    refine lv_if_eq (tgt := 903) hx hb dL_law_898 (by decide) (fun c_357 => ?_) (fun c_357 => absurd (rfl) c_357)
    refine lv_goto (tgt := 1463) hx hb dL_law_903 (by decide) ?_
    have hl := lv_sub hl (l' := [(4, .int 0), (3, .ref ou), (2, .ref mo), (1, .ref o), (0, .ref b)]) [2, 3, 4, 5, 6] rfl
    refine W.widen (k := 2000) (n := 20000) (by omega) (by omega) ?_
    subst hAe
    exact znext C1 o mo ou H locs ls hS hl
  · have h_b := True.intro
    refine lv_aload_n hx hb dL_law_826 rfl (lv_at hl 3 rfl) ?_
    refine lv_aload_n hx hb dL_law_827 rfl (lv_at hl 4 rfl) ?_
    refine lv_iload hx hb dL_law_828 (lv_at hl 0 rfl) ?_
    refine lv_iconst (v := 1) hx hb dL_law_830 (by decide) ?_
    refine lv_iadd hx hb dL_law_831 ?_
    refine lv_topi (fun v_358 ev_358 => ?_)
    obtain rfl : v_358 = 1 := ev_358.trans (by decide)
    refine va_sld hx hb hX hbl hbA hS (vp_in_nI (n := 1) (N := 7) (by decide) (by decide)) dL_law_832 ?_
    refine lv_topi (fun v_359 ev_359 => ?_)
    obtain rfl : v_359 = (xs 1) := ev_359.trans rfl
    refine lv_aload_n hx hb dL_law_833 rfl (lv_at hl 4 rfl) ?_
    refine lv_iload hx hb dL_law_834 (lv_at hl 0 rfl) ?_
    refine lv_iconst (v := 2) hx hb dL_law_836 (by decide) ?_
    refine lv_iadd hx hb dL_law_837 ?_
    refine lv_topi (fun v_360 ev_360 => ?_)
    obtain rfl : v_360 = 2 := ev_360.trans (by decide)
    refine va_sld hx hb hX hbl hbA hS (vp_in_nI (n := 2) (N := 7) (by decide) (by decide)) dL_law_838 ?_
    refine lv_topi (fun v_361 ev_361 => ?_)
    obtain rfl : v_361 = (xs 2) := ev_361.trans rfl
    refine lv_aload_n hx hb dL_law_839 rfl (lv_at hl 4 rfl) ?_
    refine lv_iload hx hb dL_law_840 (lv_at hl 0 rfl) ?_
    refine lv_iconst (v := 3) hx hb dL_law_842 (by decide) ?_
    refine lv_iadd hx hb dL_law_843 ?_
    refine lv_topi (fun v_362 ev_362 => ?_)
    obtain rfl : v_362 = 3 := ev_362.trans (by decide)
    refine va_sld hx hb hX hbl hbA hS (vp_in_nI (n := 3) (N := 7) (by decide) (by decide)) dL_law_844 ?_
    refine lv_topi (fun v_363 ev_363 => ?_)
    obtain rfl : v_363 = (xs 3) := ev_363.trans rfl
    refine lv_aload_n hx hb dL_law_845 rfl (lv_at hl 1 rfl) ?_
    refine zcalliSWK (hh := [(0, 12, 15, 25)]) (As := [.ref o, .int (xs 1), .int (xs 2), .int (xs 3), .ref ou]) (rest := []) (wc := [(o, .inr (3, [.ref kA, .int 0, .int 20, .int 60, .int 2000, .int 0, .ref iA, .int 0, .int 0, .int 0, .ref tA, .ref tr, .ref lA, .int 0]))]) (wr := [(kA, .inl (cK, 10, .inr (.inr (.inr (.inr (fun _ => none)))))), (tA, .inl (cT, 120, .inl (fun _ => 0))), (mo, .inr (4, [.int 0, .int 0, .ref kT, .int 20, .int 60, .int 2000, .int 0, .int 0, .ref tb, .ref ld, .int 0, .ref lK, .ref lC, .int 0])), (kT, .inl (e1, 60, .inl (fun _ => 0))), (tb, .inl (e2, 366, .inl (fun _ => 0))), (ld, .inl (e3, 61, .inl (fun _ => 0))), (ou, .inl (cJ, 1, .inr (.inl (fun _ => 0))))]) ⟨hx, hb, hml, hown, hts⟩ (c_Lat_x l D _ hfl o kA iA tA tr lA ou (xs 1) (xs 2) (xs 3) h) (vx_cwSW 5 hts zgS_L_at rfl rfl rfl (by decide +kernel) ⟨by rw [hRf]; exact Nat.le_of_ble_eq_true rfl, by rw [hRl]; exact Nat.le_of_ble_eq_true rfl⟩) hKX hK hP hD hS hA [0] [1, 2, 3, 4, 5, 6, 7] rfl (by decide) rfl (by decide) (by decide) [] rfl rfl hl.1 rfl (Nat.le_of_ble_eq_true rfl) dL_law_846 ⟨by omega, by omega⟩ (fun r_364 u_365 H locs hwu_365 hnu_365 hzu_365 hK hP hD hS => ?_)
    have hK : va_K D vwCl [(cK, .object RX1), (cT, .int), (e1, .int), (e2, .int), (e3, .int), (cJ, .long)] s := hK
    have hP : va_P D vwCl ([(kA, .inl (cK, 10, .inr (.inr (.inr (.inr (fun _ => none)))))), (tA, .inl (cT, 120, .inl (fun _ => 0))), (mo, .inr (4, [.int 0, .int 0, .ref kT, .int 20, .int 60, .int 2000, .int 0, .int 0, .ref tb, .ref ld, .int 0, .ref lK, .ref lC, .int 0])), (kT, .inl (e1, 60, .inl (fun _ => 0))), (tb, .inl (e2, 366, .inl (fun _ => 0))), (ld, .inl (e3, 61, .inl (fun _ => 0))), (ou, .inl (cJ, 1, .inr (.inl (fun _ => 0))))]) H := hP
    have hD : va_D A ([(kA, .inl (cK, 10, .inr (.inr (.inr (.inr (fun _ => none)))))), (tA, .inl (cT, 120, .inl (fun _ => 0))), (mo, .inr (4, [.int 0, .int 0, .ref kT, .int 20, .int 60, .int 2000, .int 0, .int 0, .ref tb, .ref ld, .int 0, .ref lK, .ref lC, .int 0])), (kT, .inl (e1, 60, .inl (fun _ => 0))), (tb, .inl (e2, 366, .inl (fun _ => 0))), (ld, .inl (e3, 61, .inl (fun _ => 0))), (ou, .inl (cJ, 1, .inr (.inl (fun _ => 0))))]) := hD
    refine lv_topi (fun v_366 ev_366 => ?_)
    obtain rfl : v_366 = 1 := ev_366.trans hwu_365
    refine lv_istore (lv' := [(5, .int 1), (4, .int 0), (3, .ref ou), (2, .ref mo), (1, .ref o), (0, .ref b)]) hx hb dL_law_849 hl (by decide) rfl (fun ls hl => ?_)
    refine lv_aload_n hx hb dL_law_851 rfl (lv_at hl 3 rfl) ?_
    refine lv_aload_n hx hb dL_law_852 rfl (lv_at hl 5 rfl) ?_
    refine lv_iload hx hb dL_law_853 (lv_at hl 1 rfl) ?_
    refine lv_iconst (v := 1) hx hb dL_law_855 (by decide) ?_
    refine lv_iadd hx hb dL_law_856 ?_
    refine lv_topi (fun v_367 ev_367 => ?_)
    obtain rfl : v_367 = 1 := ev_367.trans (by decide)
    refine va_sld hx hb hX hbl hbA hS (vp_in_nI (n := 1) (N := 7) (by decide) (by decide)) dL_law_857 ?_
    refine lv_topi (fun v_368 ev_368 => ?_)
    obtain rfl : v_368 = (xs 1) := ev_368.trans rfl
    refine lv_aload_n hx hb dL_law_858 rfl (lv_at hl 5 rfl) ?_
    refine lv_iload hx hb dL_law_859 (lv_at hl 1 rfl) ?_
    refine lv_iconst (v := 2) hx hb dL_law_861 (by decide) ?_
    refine lv_iadd hx hb dL_law_862 ?_
    refine lv_topi (fun v_369 ev_369 => ?_)
    obtain rfl : v_369 = 2 := ev_369.trans (by decide)
    refine va_sld hx hb hX hbl hbA hS (vp_in_nI (n := 2) (N := 7) (by decide) (by decide)) dL_law_863 ?_
    refine lv_topi (fun v_370 ev_370 => ?_)
    obtain rfl : v_370 = (xs 2) := ev_370.trans rfl
    refine lv_aload_n hx hb dL_law_864 rfl (lv_at hl 5 rfl) ?_
    refine lv_iload hx hb dL_law_865 (lv_at hl 1 rfl) ?_
    refine lv_iconst (v := 3) hx hb dL_law_867 (by decide) ?_
    refine lv_iadd hx hb dL_law_868 ?_
    refine lv_topi (fun v_371 ev_371 => ?_)
    obtain rfl : v_371 = 3 := ev_371.trans (by decide)
    refine va_sld hx hb hX hbl hbA hS (vp_in_nI (n := 3) (N := 7) (by decide) (by decide)) dL_law_869 ?_
    refine lv_topi (fun v_372 ev_372 => ?_)
    obtain rfl : v_372 = (xs 3) := ev_372.trans rfl
    refine zcalliV (As := [.int (xs 1), .int (xs 2), .int (xs 3)]) (rest := []) (wc := [(mo, .inr (4, [.int 0, .int 0, .ref kT, .int 20, .int 60, .int 2000, .int 0, .int 0, .ref tb, .ref ld, .int 0, .ref lK, .ref lC, .int 0]))]) (wr := [(kA, .inl (cK, 10, .inr (.inr (.inr (.inr (fun _ => none)))))), (tA, .inl (cT, 120, .inl (fun _ => 0))), (kT, .inl (e1, 60, .inl (fun _ => 0))), (tb, .inl (e2, 366, .inl (fun _ => 0))), (ld, .inl (e3, 61, .inl (fun _ => 0))), (ou, .inl (cJ, 1, .inr (.inl (fun _ => 0))))]) ⟨hx, hb, hml, hown, hts⟩ (c_Mat_x l D _ mo kT tb ld lK lC (xs 1) (xs 2) (xs 3) h) (cwV 3 hts zgV_X4_at rfl rfl rfl (by decide +kernel) ⟨by rw [hRf]; exact Nat.le_of_ble_eq_true rfl, by rw [hRl]; exact Nat.le_of_ble_eq_true rfl⟩) hK hP hD hS hA [2] [0, 1, 3, 4, 5, 6] rfl (by decide) rfl (by decide) (by decide) [] rfl (ci := 4) (q0 := 2) rfl rfl rfl hl.1 rfl (Nat.le_of_ble_eq_true rfl) dL_law_870 ⟨by omega, by omega⟩ (fun r_373 u_374 H locs hwu_374 hnu_374 hzu_374 hK hP hD hS => ?_)
    have hK : va_K D vwCl [(cK, .object RX1), (cT, .int), (e1, .int), (e2, .int), (e3, .int), (cJ, .long)] s := hK
    have hP : va_P D vwCl ([(kA, .inl (cK, 10, .inr (.inr (.inr (.inr (fun _ => none)))))), (tA, .inl (cT, 120, .inl (fun _ => 0))), (kT, .inl (e1, 60, .inl (fun _ => 0))), (tb, .inl (e2, 366, .inl (fun _ => 0))), (ld, .inl (e3, 61, .inl (fun _ => 0))), (ou, .inl (cJ, 1, .inr (.inl (fun _ => 0)))), (mo, .inr (4, [.int 1, .int 0, .ref kT, .int 20, .int 60, .int 2000, .int 0, .int 0, .ref tb, .ref ld, .int 0, .ref lK, .ref lC, .int 0]))]) H := hP
    have hD : va_D A ([(kA, .inl (cK, 10, .inr (.inr (.inr (.inr (fun _ => none)))))), (tA, .inl (cT, 120, .inl (fun _ => 0))), (kT, .inl (e1, 60, .inl (fun _ => 0))), (tb, .inl (e2, 366, .inl (fun _ => 0))), (ld, .inl (e3, 61, .inl (fun _ => 0))), (ou, .inl (cJ, 1, .inr (.inl (fun _ => 0)))), (mo, .inr (4, [.int 1, .int 0, .ref kT, .int 20, .int 60, .int 2000, .int 0, .int 0, .ref tb, .ref ld, .int 0, .ref lK, .ref lC, .int 0]))]) := hD
    refine lv_topi (fun v_375 ev_375 => ?_)
    obtain rfl : v_375 = 0 := ev_375.trans hwu_374
    refine lv_istore (lv' := [(6, .int 0), (5, .int 1), (4, .int 0), (3, .ref ou), (2, .ref mo), (1, .ref o), (0, .ref b)]) hx hb dL_law_873 hl (by decide) rfl (fun ls hl => ?_)
    refine lv_aload_n hx hb dL_law_875 rfl (lv_at hl 4 rfl) ?_
    refine zrdV (As := []) (rest := []) (wc := [(mo, .inr (4, [.int 1, .int 0, .ref kT, .int 20, .int 60, .int 2000, .int 0, .int 0, .ref tb, .ref ld, .int 0, .ref lK, .ref lC, .int 0]))]) ⟨hx, hb, hml, hown, hts⟩ (c_thrown l D _ mo [.int 1, .int 0, .ref kT, .int 20, .int 60, .int 2000, .int 0, .int 0, .ref tb, .ref ld, .int 0, .ref lK, .ref lC, .int 0] 1 rfl) (cwV 0 hts zgV_X4_thrown rfl rfl rfl (by decide +kernel) ⟨by rw [hRf]; exact Nat.le_of_ble_eq_true rfl, by rw [hRl]; exact Nat.le_of_ble_eq_true rfl⟩) hK hP hD [6] rfl (by decide) [] rfl (ci := 4) (q0 := 6) rfl rfl rfl hl.1 rfl (Nat.le_of_ble_eq_true rfl) dL_law_876 ⟨by omega, by omega⟩ (fun r_376 hr_376 => ?_)
    refine lv_topi (fun v_377 ev_377 => ?_)
    obtain rfl : v_377 = 1 := ev_377.trans hr_376
    refine lv_iload hx hb dL_law_879 (lv_at hl 1 rfl) ?_
    refine lv_icmp_eq (tgt := 886) hx hb dL_law_881 (by decide) (fun c_378 => ?_) (fun c_378 => absurd (rfl) c_378)
    refine lv_iload hx hb dL_law_886 (lv_at hl 1 rfl) ?_
    refine lv_if_ne (tgt := 903) hx hb dL_law_888 (by decide) (fun c_379 => ?_) (fun c_379 => absurd c_379 (by decide))
    refine lv_goto (tgt := 1463) hx hb dL_law_903 (by decide) ?_
    have hl := lv_sub hl (l' := [(4, .int 0), (3, .ref ou), (2, .ref mo), (1, .ref o), (0, .ref b)]) [2, 3, 4, 5, 6] rfl
    refine W.widen (k := 2000) (n := 20000) (by omega) (by omega) ?_
    subst hAe
    exact znext C1 o mo ou H locs ls hS hl
set_option maxHeartbeats 4000000 in
set_option maxRecDepth 100000 in
theorem zc_setRules {p : Program} {e : Env} {s : State} {m : MethodId} {below : List Frame} {meth : Method} {c : Code} {l : Launch} {b : Nat} {xs : Nat → Int32} (C0 : lw_At p s m meth c b 7 xs) (hfl : l.stackTraces = false) {D : zG} (hKX : zKX (fun q : Nat => s.heap.size ≤ q) s) (o kA iA tA tr lA mo kT tb ld lK lC ou : Nat) (cK cT e1 e2 e3 cJ : ClassId) (H : Heap) (locs : List Loc) (ls : Array Slot) (hK : va_K D vwCl [(cK, .object RX1), (cT, .int), (e1, .int), (e2, .int), (e3, .int), (cJ, .long)] s) (hP : va_P D vwCl ([(o, .inr (3, [.ref kA, .int 0, .int 20, .int 60, .int 2000, .int 0, .ref iA, .int 0, .int 0, .int 0, .ref tA, .ref tr, .ref lA, .int 0])), (kA, .inl (cK, 10, .inr (.inr (.inr (.inr (fun _ => none)))))), (tA, .inl (cT, 120, .inl (fun _ => 0))), (mo, .inr (4, [.int 0, .int 0, .ref kT, .int 20, .int 60, .int 2000, .int 0, .int 0, .ref tb, .ref ld, .int 0, .ref lK, .ref lC, .int 0])), (kT, .inl (e1, 60, .inl (fun _ => 0))), (tb, .inl (e2, 366, .inl (fun _ => 0))), (ld, .inl (e3, 61, .inl (fun _ => 0))), (ou, .inl (cJ, 1, .inr (.inl (fun _ => 0))))]) H) (hD : va_D (fun q : Nat => s.heap.size ≤ q) ([(o, .inr (3, [.ref kA, .int 0, .int 20, .int 60, .int 2000, .int 0, .ref iA, .int 0, .int 0, .int 0, .ref tA, .ref tr, .ref lA, .int 0])), (kA, .inl (cK, 10, .inr (.inr (.inr (.inr (fun _ => none)))))), (tA, .inl (cT, 120, .inl (fun _ => 0))), (mo, .inr (4, [.int 0, .int 0, .ref kT, .int 20, .int 60, .int 2000, .int 0, .int 0, .ref tb, .ref ld, .int 0, .ref lK, .ref lC, .int 0])), (kT, .inl (e1, 60, .inl (fun _ => 0))), (tb, .inl (e2, 366, .inl (fun _ => 0))), (ld, .inl (e3, 61, .inl (fun _ => 0))), (ou, .inl (cJ, 1, .inr (.inl (fun _ => 0))))])) (hS : va_S (fun q : Nat => s.heap.size ≤ q) s.heap H locs) (hl : lv_has ls 9 [(4, .int 0), (3, .ref ou), (2, .ref mo), (1, .ref o), (0, .ref b)]) : W p l e room_1 s m #[Value.ref b] below meth c H locs 1000 10000 (lw_Z below #[Value.ref b] s) (F0 m 254 ls []) := by
  have C1 := C0
  obtain ⟨hx, hb, hr, hml, hown, hts, hX, hbl, hlocks, hgv⟩ := C0
  have hA : ∀ q : Nat, s.heap.size ≤ q → (fun q : Nat => s.heap.size ≤ q) q := fun _ h => h
  have hbA : ¬ (fun q : Nat => s.heap.size ≤ q) b := Nat.not_le.mpr hbl
  have hRf : room_1.frames = 13 := rfl
  have hRc : room_1.cells = 600002 := rfl
  have hRs : room_1.slots = 7302232 := rfl
  have hRl : room_1.locals = 522 := rfl
  generalize hAe : (fun q : Nat => s.heap.size ≤ q) = A at hP hD hS hA hbA hKX
  by_cases h : (1 ≤ (xs 1) ∧ (xs 1) ≤ 40) ∧ (0 ≤ (xs 2) ∧ (xs 2) ≤ 100) ∧ (1 ≤ (xs 3) ∧ (xs 3) ≤ 20000)
  · have h_b := True.intro
    refine lv_aload_n hx hb dL_law_254 rfl (lv_at hl 3 rfl) ?_
    refine lv_aload_n hx hb dL_law_255 rfl (lv_at hl 4 rfl) ?_
    refine lv_iload hx hb dL_law_256 (lv_at hl 0 rfl) ?_
    refine lv_iconst (v := 1) hx hb dL_law_258 (by decide) ?_
    refine lv_iadd hx hb dL_law_259 ?_
    refine lv_topi (fun v_380 ev_380 => ?_)
    obtain rfl : v_380 = 1 := ev_380.trans (by decide)
    refine va_sld hx hb hX hbl hbA hS (vp_in_nI (n := 1) (N := 7) (by decide) (by decide)) dL_law_260 ?_
    refine lv_topi (fun v_381 ev_381 => ?_)
    obtain rfl : v_381 = (xs 1) := ev_381.trans rfl
    refine lv_aload_n hx hb dL_law_261 rfl (lv_at hl 4 rfl) ?_
    refine lv_iload hx hb dL_law_262 (lv_at hl 0 rfl) ?_
    refine lv_iconst (v := 2) hx hb dL_law_264 (by decide) ?_
    refine lv_iadd hx hb dL_law_265 ?_
    refine lv_topi (fun v_382 ev_382 => ?_)
    obtain rfl : v_382 = 2 := ev_382.trans (by decide)
    refine va_sld hx hb hX hbl hbA hS (vp_in_nI (n := 2) (N := 7) (by decide) (by decide)) dL_law_266 ?_
    refine lv_topi (fun v_383 ev_383 => ?_)
    obtain rfl : v_383 = (xs 2) := ev_383.trans rfl
    refine lv_aload_n hx hb dL_law_267 rfl (lv_at hl 4 rfl) ?_
    refine lv_iload hx hb dL_law_268 (lv_at hl 0 rfl) ?_
    refine lv_iconst (v := 3) hx hb dL_law_270 (by decide) ?_
    refine lv_iadd hx hb dL_law_271 ?_
    refine lv_topi (fun v_384 ev_384 => ?_)
    obtain rfl : v_384 = 3 := ev_384.trans (by decide)
    refine va_sld hx hb hX hbl hbA hS (vp_in_nI (n := 3) (N := 7) (by decide) (by decide)) dL_law_272 ?_
    refine lv_topi (fun v_385 ev_385 => ?_)
    obtain rfl : v_385 = (xs 3) := ev_385.trans rfl
    refine lv_aload_n hx hb dL_law_273 rfl (lv_at hl 4 rfl) ?_
    refine lv_iload hx hb dL_law_274 (lv_at hl 0 rfl) ?_
    refine lv_iconst (v := 4) hx hb dL_law_276 (by decide) ?_
    refine lv_iadd hx hb dL_law_277 ?_
    refine lv_topi (fun v_386 ev_386 => ?_)
    obtain rfl : v_386 = 4 := ev_386.trans (by decide)
    refine va_sld hx hb hX hbl hbA hS (vp_in_nI (n := 4) (N := 7) (by decide) (by decide)) dL_law_278 ?_
    refine lv_topi (fun v_387 ev_387 => ?_)
    obtain rfl : v_387 = (xs 4) := ev_387.trans rfl
    refine lv_if_eq (tgt := 286) hx hb dL_law_279 (by decide) (fun c_388 => ?_) (fun c_388 => ?_)
    · have h_b := True.intro
      refine lv_iconst (v := 0) hx hb dL_law_286 (by decide) ?_
      refine lv_aload_n hx hb dL_law_287 rfl (lv_at hl 1 rfl) ?_
      refine zcalliSW (hh := [(0, 14, 17, 13)]) (As := [.ref o, .int (xs 1), .int (xs 2), .int (xs 3), .int 0, .ref ou]) (rest := []) (wc := [(o, .inr (3, [.ref kA, .int 0, .int 20, .int 60, .int 2000, .int 0, .ref iA, .int 0, .int 0, .int 0, .ref tA, .ref tr, .ref lA, .int 0])), (ou, .inl (cJ, 1, .inr (.inl (fun _ => 0))))]) (wr := [(kA, .inl (cK, 10, .inr (.inr (.inr (.inr (fun _ => none)))))), (tA, .inl (cT, 120, .inl (fun _ => 0))), (mo, .inr (4, [.int 0, .int 0, .ref kT, .int 20, .int 60, .int 2000, .int 0, .int 0, .ref tb, .ref ld, .int 0, .ref lK, .ref lC, .int 0])), (kT, .inl (e1, 60, .inl (fun _ => 0))), (tb, .inl (e2, 366, .inl (fun _ => 0))), (ld, .inl (e3, 61, .inl (fun _ => 0)))]) ⟨hx, hb, hml, hown, hts⟩ (c_LsetRules_ok_0 l D _ o kA iA tA tr lA ou cJ (fun _ => 0) (xs 1) (xs 2) (xs 3) h) (vx_cwSW 6 hts zgS_L_setRules rfl rfl rfl (by decide +kernel) ⟨by rw [hRf]; exact Nat.le_of_ble_eq_true rfl, by rw [hRl]; exact Nat.le_of_ble_eq_true rfl⟩) hK hP hD hS hA [0, 7] [1, 2, 3, 4, 5, 6] rfl (by decide) rfl (by decide) (by decide) [5] rfl rfl hl.1 rfl (Nat.le_of_ble_eq_true rfl) dL_law_288 ⟨by omega, by omega⟩ (fun r_389 u_390 H locs hwu_390 hnu_390 hzu_390 hK hP hD hS => ?_)
      have hK : va_K D vwCl [(cK, .object RX1), (cT, .int), (e1, .int), (e2, .int), (e3, .int), (cJ, .long), (cJ, .long)] s := hK
      have hP : va_P D vwCl ([(kA, .inl (cK, 10, .inr (.inr (.inr (.inr (fun _ => none)))))), (tA, .inl (cT, 120, .inl (fun _ => 0))), (mo, .inr (4, [.int 0, .int 0, .ref kT, .int 20, .int 60, .int 2000, .int 0, .int 0, .ref tb, .ref ld, .int 0, .ref lK, .ref lC, .int 0])), (kT, .inl (e1, 60, .inl (fun _ => 0))), (tb, .inl (e2, 366, .inl (fun _ => 0))), (ld, .inl (e3, 61, .inl (fun _ => 0))), (ou, .inl (cJ, 1, .inr (.inl (vp_updL (fun _ => 0) 0 (20 : Int32).toInt64))))]) H := hP
      have hD : va_D A ([(kA, .inl (cK, 10, .inr (.inr (.inr (.inr (fun _ => none)))))), (tA, .inl (cT, 120, .inl (fun _ => 0))), (mo, .inr (4, [.int 0, .int 0, .ref kT, .int 20, .int 60, .int 2000, .int 0, .int 0, .ref tb, .ref ld, .int 0, .ref lK, .ref lC, .int 0])), (kT, .inl (e1, 60, .inl (fun _ => 0))), (tb, .inl (e2, 366, .inl (fun _ => 0))), (ld, .inl (e3, 61, .inl (fun _ => 0))), (ou, .inl (cJ, 1, .inr (.inl (vp_updL (fun _ => 0) 0 (20 : Int32).toInt64))))]) := hD
      refine lv_topi (fun v_391 ev_391 => ?_)
      obtain rfl : v_391 = 0 := ev_391.trans hwu_390
      refine lv_istore (lv' := [(5, .int 0), (4, .int 0), (3, .ref ou), (2, .ref mo), (1, .ref o), (0, .ref b)]) hx hb dL_law_291 hl (by decide) rfl (fun ls hl => ?_)
      refine lv_aload_n hx hb dL_law_293 rfl (lv_at hl 3 rfl) ?_
      refine lv_aload_n hx hb dL_law_294 rfl (lv_at hl 5 rfl) ?_
      refine lv_iload hx hb dL_law_295 (lv_at hl 1 rfl) ?_
      refine lv_iconst (v := 1) hx hb dL_law_297 (by decide) ?_
      refine lv_iadd hx hb dL_law_298 ?_
      refine lv_topi (fun v_392 ev_392 => ?_)
      obtain rfl : v_392 = 1 := ev_392.trans (by decide)
      refine va_sld hx hb hX hbl hbA hS (vp_in_nI (n := 1) (N := 7) (by decide) (by decide)) dL_law_299 ?_
      refine lv_topi (fun v_393 ev_393 => ?_)
      obtain rfl : v_393 = (xs 1) := ev_393.trans rfl
      refine lv_aload_n hx hb dL_law_300 rfl (lv_at hl 5 rfl) ?_
      refine lv_iload hx hb dL_law_301 (lv_at hl 1 rfl) ?_
      refine lv_iconst (v := 2) hx hb dL_law_303 (by decide) ?_
      refine lv_iadd hx hb dL_law_304 ?_
      refine lv_topi (fun v_394 ev_394 => ?_)
      obtain rfl : v_394 = 2 := ev_394.trans (by decide)
      refine va_sld hx hb hX hbl hbA hS (vp_in_nI (n := 2) (N := 7) (by decide) (by decide)) dL_law_305 ?_
      refine lv_topi (fun v_395 ev_395 => ?_)
      obtain rfl : v_395 = (xs 2) := ev_395.trans rfl
      refine lv_aload_n hx hb dL_law_306 rfl (lv_at hl 5 rfl) ?_
      refine lv_iload hx hb dL_law_307 (lv_at hl 1 rfl) ?_
      refine lv_iconst (v := 3) hx hb dL_law_309 (by decide) ?_
      refine lv_iadd hx hb dL_law_310 ?_
      refine lv_topi (fun v_396 ev_396 => ?_)
      obtain rfl : v_396 = 3 := ev_396.trans (by decide)
      refine va_sld hx hb hX hbl hbA hS (vp_in_nI (n := 3) (N := 7) (by decide) (by decide)) dL_law_311 ?_
      refine lv_topi (fun v_397 ev_397 => ?_)
      obtain rfl : v_397 = (xs 3) := ev_397.trans rfl
      refine lv_aload_n hx hb dL_law_312 rfl (lv_at hl 5 rfl) ?_
      refine lv_iload hx hb dL_law_313 (lv_at hl 1 rfl) ?_
      refine lv_iconst (v := 4) hx hb dL_law_315 (by decide) ?_
      refine lv_iadd hx hb dL_law_316 ?_
      refine lv_topi (fun v_398 ev_398 => ?_)
      obtain rfl : v_398 = 4 := ev_398.trans (by decide)
      refine va_sld hx hb hX hbl hbA hS (vp_in_nI (n := 4) (N := 7) (by decide) (by decide)) dL_law_317 ?_
      refine lv_topi (fun v_399 ev_399 => ?_)
      obtain rfl : v_399 = (xs 4) := ev_399.trans rfl
      refine lv_if_eq (tgt := 325) hx hb dL_law_318 (by decide) (fun c_400 => ?_) (fun c_400 => absurd (c_388) c_400)
      refine lv_iconst (v := 0) hx hb dL_law_325 (by decide) ?_
      refine zcalliV (As := [.int (xs 1), .int (xs 2), .int (xs 3), .int 0]) (rest := []) (wc := [(mo, .inr (4, [.int 0, .int 0, .ref kT, .int 20, .int 60, .int 2000, .int 0, .int 0, .ref tb, .ref ld, .int 0, .ref lK, .ref lC, .int 0]))]) (wr := [(kA, .inl (cK, 10, .inr (.inr (.inr (.inr (fun _ => none)))))), (tA, .inl (cT, 120, .inl (fun _ => 0))), (kT, .inl (e1, 60, .inl (fun _ => 0))), (tb, .inl (e2, 366, .inl (fun _ => 0))), (ld, .inl (e3, 61, .inl (fun _ => 0))), (ou, .inl (cJ, 1, .inr (.inl (vp_updL (fun _ => 0) 0 (20 : Int32).toInt64))))]) ⟨hx, hb, hml, hown, hts⟩ (c_MsetRules_ok_0 l D _ mo kT tb ld lK lC (xs 1) (xs 2) (xs 3) h) (cwV 4 hts zgV_X4_setRules rfl rfl rfl (by decide +kernel) ⟨by rw [hRf]; exact Nat.le_of_ble_eq_true rfl, by rw [hRl]; exact Nat.le_of_ble_eq_true rfl⟩) hK hP hD hS hA [2] [0, 1, 3, 4, 5, 6] rfl (by decide) rfl (by decide) (by decide) [] rfl (ci := 4) (q0 := 2) rfl rfl rfl hl.1 rfl (Nat.le_of_ble_eq_true rfl) dL_law_326 ⟨by omega, by omega⟩ (fun r_401 u_402 H locs hwu_402 hnu_402 hzu_402 hK hP hD hS => ?_)
      have hK : va_K D vwCl [(cK, .object RX1), (cT, .int), (e1, .int), (e2, .int), (e3, .int), (cJ, .long), (cJ, .long)] s := hK
      have hP : va_P D vwCl ([(kA, .inl (cK, 10, .inr (.inr (.inr (.inr (fun _ => none)))))), (tA, .inl (cT, 120, .inl (fun _ => 0))), (kT, .inl (e1, 60, .inl (fun _ => 0))), (tb, .inl (e2, 366, .inl (fun _ => 0))), (ld, .inl (e3, 61, .inl (fun _ => 0))), (ou, .inl (cJ, 1, .inr (.inl (vp_updL (fun _ => 0) 0 (20 : Int32).toInt64)))), (mo, .inr (4, [.int 0, .int 0, .ref kT, .int (xs 1), .int (xs 2), .int (xs 3), .int 0, .int 0, .ref tb, .ref ld, .int 0, .ref lK, .ref lC, .int 0]))]) H := hP
      have hD : va_D A ([(kA, .inl (cK, 10, .inr (.inr (.inr (.inr (fun _ => none)))))), (tA, .inl (cT, 120, .inl (fun _ => 0))), (kT, .inl (e1, 60, .inl (fun _ => 0))), (tb, .inl (e2, 366, .inl (fun _ => 0))), (ld, .inl (e3, 61, .inl (fun _ => 0))), (ou, .inl (cJ, 1, .inr (.inl (vp_updL (fun _ => 0) 0 (20 : Int32).toInt64)))), (mo, .inr (4, [.int 0, .int 0, .ref kT, .int (xs 1), .int (xs 2), .int (xs 3), .int 0, .int 0, .ref tb, .ref ld, .int 0, .ref lK, .ref lC, .int 0]))]) := hD
      refine lv_topi (fun v_403 ev_403 => ?_)
      obtain rfl : v_403 = 20 := ev_403.trans hwu_402
      refine lv_istore (lv' := [(6, .int 20), (5, .int 0), (4, .int 0), (3, .ref ou), (2, .ref mo), (1, .ref o), (0, .ref b)]) hx hb dL_law_329 hl (by decide) rfl (fun ls hl => ?_)
      refine lv_aload_n hx hb dL_law_331 rfl (lv_at hl 4 rfl) ?_
      refine zrdV (As := []) (rest := []) (wc := [(mo, .inr (4, [.int 0, .int 0, .ref kT, .int (xs 1), .int (xs 2), .int (xs 3), .int 0, .int 0, .ref tb, .ref ld, .int 0, .ref lK, .ref lC, .int 0]))]) ⟨hx, hb, hml, hown, hts⟩ (c_thrown l D _ mo [.int 0, .int 0, .ref kT, .int (xs 1), .int (xs 2), .int (xs 3), .int 0, .int 0, .ref tb, .ref ld, .int 0, .ref lK, .ref lC, .int 0] 0 rfl) (cwV 0 hts zgV_X4_thrown rfl rfl rfl (by decide +kernel) ⟨by rw [hRf]; exact Nat.le_of_ble_eq_true rfl, by rw [hRl]; exact Nat.le_of_ble_eq_true rfl⟩) hK hP hD [6] rfl (by decide) [] rfl (ci := 4) (q0 := 6) rfl rfl rfl hl.1 rfl (Nat.le_of_ble_eq_true rfl) dL_law_332 ⟨by omega, by omega⟩ (fun r_404 hr_404 => ?_)
      refine lv_topi (fun v_405 ev_405 => ?_)
      obtain rfl : v_405 = 0 := ev_405.trans hr_404
      refine lv_iload hx hb dL_law_335 (lv_at hl 1 rfl) ?_
      refine lv_icmp_eq (tgt := 342) hx hb dL_law_337 (by decide) (fun c_406 => ?_) (fun c_406 => absurd (rfl) c_406)
      refine lv_iload hx hb dL_law_342 (lv_at hl 1 rfl) ?_
      refine lv_if_ne (tgt := 359) hx hb dL_law_344 (by decide) (fun c_407 => absurd (rfl) c_407) (fun c_407 => ?_)
      refine lv_aload_n hx hb dL_law_347 rfl (lv_at hl 3 rfl) ?_
      refine lv_iconst (v := 0) hx hb dL_law_348 (by decide) ?_
      refine va_lald hx hb hK hP 5 5 rfl rfl (vp_in_nI (n := 0) (N := 1) (by decide) (by decide)) dL_law_349 ?_
      refine lv_topl (fun v_408 ev_408 => ?_)
      obtain rfl : v_408 = (20 : Int32).toInt64 := ev_408.trans rfl
      refine lv_iload hx hb dL_law_350 (lv_at hl 0 rfl) ?_
      refine lv_i2l (v := (20 : Int32).toInt64) hx hb dL_law_352 rfl ?_
      refine W.lcmp hx hb dL_law_353 ?_
      refine lv_topi (fun v_409 ev_409 => ?_)
      obtain rfl : v_409 = 0 := ev_409.trans (zcmp_self _)
      refine lv_if_eq (tgt := 359) hx hb dL_law_354 (by decide) (fun c_410 => ?_) (fun c_410 => absurd (rfl) c_410)
      refine lv_goto (tgt := 1463) hx hb dL_law_359 (by decide) ?_
      have hl := lv_sub hl (l' := [(4, .int 0), (3, .ref ou), (2, .ref mo), (1, .ref o), (0, .ref b)]) [2, 3, 4, 5, 6] rfl
      refine W.widen (k := 2000) (n := 20000) (by omega) (by omega) ?_
      subst hAe
      exact znext C1 o mo ou H locs ls hS hl
    · have h_b := True.intro
      refine lv_iconst (v := 1) hx hb dL_law_282 (by decide) ?_
      refine lv_goto (tgt := 287) hx hb dL_law_283 (by decide) ?_
      refine lv_aload_n hx hb dL_law_287 rfl (lv_at hl 1 rfl) ?_
      refine zcalliSW (hh := [(0, 14, 17, 13)]) (As := [.ref o, .int (xs 1), .int (xs 2), .int (xs 3), .int 1, .ref ou]) (rest := []) (wc := [(o, .inr (3, [.ref kA, .int 0, .int 20, .int 60, .int 2000, .int 0, .ref iA, .int 0, .int 0, .int 0, .ref tA, .ref tr, .ref lA, .int 0])), (ou, .inl (cJ, 1, .inr (.inl (fun _ => 0))))]) (wr := [(kA, .inl (cK, 10, .inr (.inr (.inr (.inr (fun _ => none)))))), (tA, .inl (cT, 120, .inl (fun _ => 0))), (mo, .inr (4, [.int 0, .int 0, .ref kT, .int 20, .int 60, .int 2000, .int 0, .int 0, .ref tb, .ref ld, .int 0, .ref lK, .ref lC, .int 0])), (kT, .inl (e1, 60, .inl (fun _ => 0))), (tb, .inl (e2, 366, .inl (fun _ => 0))), (ld, .inl (e3, 61, .inl (fun _ => 0)))]) ⟨hx, hb, hml, hown, hts⟩ (c_LsetRules_ok_1 l D _ o kA iA tA tr lA ou cJ (fun _ => 0) (xs 1) (xs 2) (xs 3) h) (vx_cwSW 6 hts zgS_L_setRules rfl rfl rfl (by decide +kernel) ⟨by rw [hRf]; exact Nat.le_of_ble_eq_true rfl, by rw [hRl]; exact Nat.le_of_ble_eq_true rfl⟩) hK hP hD hS hA [0, 7] [1, 2, 3, 4, 5, 6] rfl (by decide) rfl (by decide) (by decide) [5] rfl rfl hl.1 rfl (Nat.le_of_ble_eq_true rfl) dL_law_288 ⟨by omega, by omega⟩ (fun r_411 u_412 H locs hwu_412 hnu_412 hzu_412 hK hP hD hS => ?_)
      have hK : va_K D vwCl [(cK, .object RX1), (cT, .int), (e1, .int), (e2, .int), (e3, .int), (cJ, .long), (cJ, .long)] s := hK
      have hP : va_P D vwCl ([(kA, .inl (cK, 10, .inr (.inr (.inr (.inr (fun _ => none)))))), (tA, .inl (cT, 120, .inl (fun _ => 0))), (mo, .inr (4, [.int 0, .int 0, .ref kT, .int 20, .int 60, .int 2000, .int 0, .int 0, .ref tb, .ref ld, .int 0, .ref lK, .ref lC, .int 0])), (kT, .inl (e1, 60, .inl (fun _ => 0))), (tb, .inl (e2, 366, .inl (fun _ => 0))), (ld, .inl (e3, 61, .inl (fun _ => 0))), (ou, .inl (cJ, 1, .inr (.inl (vp_updL (fun _ => 0) 0 (20 : Int32).toInt64))))]) H := hP
      have hD : va_D A ([(kA, .inl (cK, 10, .inr (.inr (.inr (.inr (fun _ => none)))))), (tA, .inl (cT, 120, .inl (fun _ => 0))), (mo, .inr (4, [.int 0, .int 0, .ref kT, .int 20, .int 60, .int 2000, .int 0, .int 0, .ref tb, .ref ld, .int 0, .ref lK, .ref lC, .int 0])), (kT, .inl (e1, 60, .inl (fun _ => 0))), (tb, .inl (e2, 366, .inl (fun _ => 0))), (ld, .inl (e3, 61, .inl (fun _ => 0))), (ou, .inl (cJ, 1, .inr (.inl (vp_updL (fun _ => 0) 0 (20 : Int32).toInt64))))]) := hD
      refine lv_topi (fun v_413 ev_413 => ?_)
      obtain rfl : v_413 = 0 := ev_413.trans hwu_412
      refine lv_istore (lv' := [(5, .int 0), (4, .int 0), (3, .ref ou), (2, .ref mo), (1, .ref o), (0, .ref b)]) hx hb dL_law_291 hl (by decide) rfl (fun ls hl => ?_)
      refine lv_aload_n hx hb dL_law_293 rfl (lv_at hl 3 rfl) ?_
      refine lv_aload_n hx hb dL_law_294 rfl (lv_at hl 5 rfl) ?_
      refine lv_iload hx hb dL_law_295 (lv_at hl 1 rfl) ?_
      refine lv_iconst (v := 1) hx hb dL_law_297 (by decide) ?_
      refine lv_iadd hx hb dL_law_298 ?_
      refine lv_topi (fun v_414 ev_414 => ?_)
      obtain rfl : v_414 = 1 := ev_414.trans (by decide)
      refine va_sld hx hb hX hbl hbA hS (vp_in_nI (n := 1) (N := 7) (by decide) (by decide)) dL_law_299 ?_
      refine lv_topi (fun v_415 ev_415 => ?_)
      obtain rfl : v_415 = (xs 1) := ev_415.trans rfl
      refine lv_aload_n hx hb dL_law_300 rfl (lv_at hl 5 rfl) ?_
      refine lv_iload hx hb dL_law_301 (lv_at hl 1 rfl) ?_
      refine lv_iconst (v := 2) hx hb dL_law_303 (by decide) ?_
      refine lv_iadd hx hb dL_law_304 ?_
      refine lv_topi (fun v_416 ev_416 => ?_)
      obtain rfl : v_416 = 2 := ev_416.trans (by decide)
      refine va_sld hx hb hX hbl hbA hS (vp_in_nI (n := 2) (N := 7) (by decide) (by decide)) dL_law_305 ?_
      refine lv_topi (fun v_417 ev_417 => ?_)
      obtain rfl : v_417 = (xs 2) := ev_417.trans rfl
      refine lv_aload_n hx hb dL_law_306 rfl (lv_at hl 5 rfl) ?_
      refine lv_iload hx hb dL_law_307 (lv_at hl 1 rfl) ?_
      refine lv_iconst (v := 3) hx hb dL_law_309 (by decide) ?_
      refine lv_iadd hx hb dL_law_310 ?_
      refine lv_topi (fun v_418 ev_418 => ?_)
      obtain rfl : v_418 = 3 := ev_418.trans (by decide)
      refine va_sld hx hb hX hbl hbA hS (vp_in_nI (n := 3) (N := 7) (by decide) (by decide)) dL_law_311 ?_
      refine lv_topi (fun v_419 ev_419 => ?_)
      obtain rfl : v_419 = (xs 3) := ev_419.trans rfl
      refine lv_aload_n hx hb dL_law_312 rfl (lv_at hl 5 rfl) ?_
      refine lv_iload hx hb dL_law_313 (lv_at hl 1 rfl) ?_
      refine lv_iconst (v := 4) hx hb dL_law_315 (by decide) ?_
      refine lv_iadd hx hb dL_law_316 ?_
      refine lv_topi (fun v_420 ev_420 => ?_)
      obtain rfl : v_420 = 4 := ev_420.trans (by decide)
      refine va_sld hx hb hX hbl hbA hS (vp_in_nI (n := 4) (N := 7) (by decide) (by decide)) dL_law_317 ?_
      refine lv_topi (fun v_421 ev_421 => ?_)
      obtain rfl : v_421 = (xs 4) := ev_421.trans rfl
      refine lv_if_eq (tgt := 325) hx hb dL_law_318 (by decide) (fun c_422 => absurd c_422 (c_388)) (fun c_422 => ?_)
      refine lv_iconst (v := 1) hx hb dL_law_321 (by decide) ?_
      refine lv_goto (tgt := 326) hx hb dL_law_322 (by decide) ?_
      refine zcalliV (As := [.int (xs 1), .int (xs 2), .int (xs 3), .int 1]) (rest := []) (wc := [(mo, .inr (4, [.int 0, .int 0, .ref kT, .int 20, .int 60, .int 2000, .int 0, .int 0, .ref tb, .ref ld, .int 0, .ref lK, .ref lC, .int 0]))]) (wr := [(kA, .inl (cK, 10, .inr (.inr (.inr (.inr (fun _ => none)))))), (tA, .inl (cT, 120, .inl (fun _ => 0))), (kT, .inl (e1, 60, .inl (fun _ => 0))), (tb, .inl (e2, 366, .inl (fun _ => 0))), (ld, .inl (e3, 61, .inl (fun _ => 0))), (ou, .inl (cJ, 1, .inr (.inl (vp_updL (fun _ => 0) 0 (20 : Int32).toInt64))))]) ⟨hx, hb, hml, hown, hts⟩ (c_MsetRules_ok_1 l D _ mo kT tb ld lK lC (xs 1) (xs 2) (xs 3) h) (cwV 4 hts zgV_X4_setRules rfl rfl rfl (by decide +kernel) ⟨by rw [hRf]; exact Nat.le_of_ble_eq_true rfl, by rw [hRl]; exact Nat.le_of_ble_eq_true rfl⟩) hK hP hD hS hA [2] [0, 1, 3, 4, 5, 6] rfl (by decide) rfl (by decide) (by decide) [] rfl (ci := 4) (q0 := 2) rfl rfl rfl hl.1 rfl (Nat.le_of_ble_eq_true rfl) dL_law_326 ⟨by omega, by omega⟩ (fun r_423 u_424 H locs hwu_424 hnu_424 hzu_424 hK hP hD hS => ?_)
      have hK : va_K D vwCl [(cK, .object RX1), (cT, .int), (e1, .int), (e2, .int), (e3, .int), (cJ, .long), (cJ, .long)] s := hK
      have hP : va_P D vwCl ([(kA, .inl (cK, 10, .inr (.inr (.inr (.inr (fun _ => none)))))), (tA, .inl (cT, 120, .inl (fun _ => 0))), (kT, .inl (e1, 60, .inl (fun _ => 0))), (tb, .inl (e2, 366, .inl (fun _ => 0))), (ld, .inl (e3, 61, .inl (fun _ => 0))), (ou, .inl (cJ, 1, .inr (.inl (vp_updL (fun _ => 0) 0 (20 : Int32).toInt64)))), (mo, .inr (4, [.int 0, .int 0, .ref kT, .int (xs 1), .int (xs 2), .int (xs 3), .int 1, .int 0, .ref tb, .ref ld, .int 0, .ref lK, .ref lC, .int 0]))]) H := hP
      have hD : va_D A ([(kA, .inl (cK, 10, .inr (.inr (.inr (.inr (fun _ => none)))))), (tA, .inl (cT, 120, .inl (fun _ => 0))), (kT, .inl (e1, 60, .inl (fun _ => 0))), (tb, .inl (e2, 366, .inl (fun _ => 0))), (ld, .inl (e3, 61, .inl (fun _ => 0))), (ou, .inl (cJ, 1, .inr (.inl (vp_updL (fun _ => 0) 0 (20 : Int32).toInt64)))), (mo, .inr (4, [.int 0, .int 0, .ref kT, .int (xs 1), .int (xs 2), .int (xs 3), .int 1, .int 0, .ref tb, .ref ld, .int 0, .ref lK, .ref lC, .int 0]))]) := hD
      refine lv_topi (fun v_425 ev_425 => ?_)
      obtain rfl : v_425 = 20 := ev_425.trans hwu_424
      refine lv_istore (lv' := [(6, .int 20), (5, .int 0), (4, .int 0), (3, .ref ou), (2, .ref mo), (1, .ref o), (0, .ref b)]) hx hb dL_law_329 hl (by decide) rfl (fun ls hl => ?_)
      refine lv_aload_n hx hb dL_law_331 rfl (lv_at hl 4 rfl) ?_
      refine zrdV (As := []) (rest := []) (wc := [(mo, .inr (4, [.int 0, .int 0, .ref kT, .int (xs 1), .int (xs 2), .int (xs 3), .int 1, .int 0, .ref tb, .ref ld, .int 0, .ref lK, .ref lC, .int 0]))]) ⟨hx, hb, hml, hown, hts⟩ (c_thrown l D _ mo [.int 0, .int 0, .ref kT, .int (xs 1), .int (xs 2), .int (xs 3), .int 1, .int 0, .ref tb, .ref ld, .int 0, .ref lK, .ref lC, .int 0] 0 rfl) (cwV 0 hts zgV_X4_thrown rfl rfl rfl (by decide +kernel) ⟨by rw [hRf]; exact Nat.le_of_ble_eq_true rfl, by rw [hRl]; exact Nat.le_of_ble_eq_true rfl⟩) hK hP hD [6] rfl (by decide) [] rfl (ci := 4) (q0 := 6) rfl rfl rfl hl.1 rfl (Nat.le_of_ble_eq_true rfl) dL_law_332 ⟨by omega, by omega⟩ (fun r_426 hr_426 => ?_)
      refine lv_topi (fun v_427 ev_427 => ?_)
      obtain rfl : v_427 = 0 := ev_427.trans hr_426
      refine lv_iload hx hb dL_law_335 (lv_at hl 1 rfl) ?_
      refine lv_icmp_eq (tgt := 342) hx hb dL_law_337 (by decide) (fun c_428 => ?_) (fun c_428 => absurd (rfl) c_428)
      refine lv_iload hx hb dL_law_342 (lv_at hl 1 rfl) ?_
      refine lv_if_ne (tgt := 359) hx hb dL_law_344 (by decide) (fun c_429 => absurd (rfl) c_429) (fun c_429 => ?_)
      refine lv_aload_n hx hb dL_law_347 rfl (lv_at hl 3 rfl) ?_
      refine lv_iconst (v := 0) hx hb dL_law_348 (by decide) ?_
      refine va_lald hx hb hK hP 5 5 rfl rfl (vp_in_nI (n := 0) (N := 1) (by decide) (by decide)) dL_law_349 ?_
      refine lv_topl (fun v_430 ev_430 => ?_)
      obtain rfl : v_430 = (20 : Int32).toInt64 := ev_430.trans rfl
      refine lv_iload hx hb dL_law_350 (lv_at hl 0 rfl) ?_
      refine lv_i2l (v := (20 : Int32).toInt64) hx hb dL_law_352 rfl ?_
      refine W.lcmp hx hb dL_law_353 ?_
      refine lv_topi (fun v_431 ev_431 => ?_)
      obtain rfl : v_431 = 0 := ev_431.trans (zcmp_self _)
      refine lv_if_eq (tgt := 359) hx hb dL_law_354 (by decide) (fun c_432 => ?_) (fun c_432 => absurd (rfl) c_432)
      refine lv_goto (tgt := 1463) hx hb dL_law_359 (by decide) ?_
      have hl := lv_sub hl (l' := [(4, .int 0), (3, .ref ou), (2, .ref mo), (1, .ref o), (0, .ref b)]) [2, 3, 4, 5, 6] rfl
      refine W.widen (k := 2000) (n := 20000) (by omega) (by omega) ?_
      subst hAe
      exact znext C1 o mo ou H locs ls hS hl
  · have h_b := True.intro
    refine lv_aload_n hx hb dL_law_254 rfl (lv_at hl 3 rfl) ?_
    refine lv_aload_n hx hb dL_law_255 rfl (lv_at hl 4 rfl) ?_
    refine lv_iload hx hb dL_law_256 (lv_at hl 0 rfl) ?_
    refine lv_iconst (v := 1) hx hb dL_law_258 (by decide) ?_
    refine lv_iadd hx hb dL_law_259 ?_
    refine lv_topi (fun v_433 ev_433 => ?_)
    obtain rfl : v_433 = 1 := ev_433.trans (by decide)
    refine va_sld hx hb hX hbl hbA hS (vp_in_nI (n := 1) (N := 7) (by decide) (by decide)) dL_law_260 ?_
    refine lv_topi (fun v_434 ev_434 => ?_)
    obtain rfl : v_434 = (xs 1) := ev_434.trans rfl
    refine lv_aload_n hx hb dL_law_261 rfl (lv_at hl 4 rfl) ?_
    refine lv_iload hx hb dL_law_262 (lv_at hl 0 rfl) ?_
    refine lv_iconst (v := 2) hx hb dL_law_264 (by decide) ?_
    refine lv_iadd hx hb dL_law_265 ?_
    refine lv_topi (fun v_435 ev_435 => ?_)
    obtain rfl : v_435 = 2 := ev_435.trans (by decide)
    refine va_sld hx hb hX hbl hbA hS (vp_in_nI (n := 2) (N := 7) (by decide) (by decide)) dL_law_266 ?_
    refine lv_topi (fun v_436 ev_436 => ?_)
    obtain rfl : v_436 = (xs 2) := ev_436.trans rfl
    refine lv_aload_n hx hb dL_law_267 rfl (lv_at hl 4 rfl) ?_
    refine lv_iload hx hb dL_law_268 (lv_at hl 0 rfl) ?_
    refine lv_iconst (v := 3) hx hb dL_law_270 (by decide) ?_
    refine lv_iadd hx hb dL_law_271 ?_
    refine lv_topi (fun v_437 ev_437 => ?_)
    obtain rfl : v_437 = 3 := ev_437.trans (by decide)
    refine va_sld hx hb hX hbl hbA hS (vp_in_nI (n := 3) (N := 7) (by decide) (by decide)) dL_law_272 ?_
    refine lv_topi (fun v_438 ev_438 => ?_)
    obtain rfl : v_438 = (xs 3) := ev_438.trans rfl
    refine lv_aload_n hx hb dL_law_273 rfl (lv_at hl 4 rfl) ?_
    refine lv_iload hx hb dL_law_274 (lv_at hl 0 rfl) ?_
    refine lv_iconst (v := 4) hx hb dL_law_276 (by decide) ?_
    refine lv_iadd hx hb dL_law_277 ?_
    refine lv_topi (fun v_439 ev_439 => ?_)
    obtain rfl : v_439 = 4 := ev_439.trans (by decide)
    refine va_sld hx hb hX hbl hbA hS (vp_in_nI (n := 4) (N := 7) (by decide) (by decide)) dL_law_278 ?_
    refine lv_topi (fun v_440 ev_440 => ?_)
    obtain rfl : v_440 = (xs 4) := ev_440.trans rfl
    refine lv_if_eq (tgt := 286) hx hb dL_law_279 (by decide) (fun c_441 => ?_) (fun c_441 => ?_)
    · have h_b := True.intro
      refine lv_iconst (v := 0) hx hb dL_law_286 (by decide) ?_
      refine lv_aload_n hx hb dL_law_287 rfl (lv_at hl 1 rfl) ?_
      refine zcalliSWK (hh := [(0, 14, 17, 13)]) (As := [.ref o, .int (xs 1), .int (xs 2), .int (xs 3), .int 0, .ref ou]) (rest := []) (wc := [(o, .inr (3, [.ref kA, .int 0, .int 20, .int 60, .int 2000, .int 0, .ref iA, .int 0, .int 0, .int 0, .ref tA, .ref tr, .ref lA, .int 0]))]) (wr := [(kA, .inl (cK, 10, .inr (.inr (.inr (.inr (fun _ => none)))))), (tA, .inl (cT, 120, .inl (fun _ => 0))), (mo, .inr (4, [.int 0, .int 0, .ref kT, .int 20, .int 60, .int 2000, .int 0, .int 0, .ref tb, .ref ld, .int 0, .ref lK, .ref lC, .int 0])), (kT, .inl (e1, 60, .inl (fun _ => 0))), (tb, .inl (e2, 366, .inl (fun _ => 0))), (ld, .inl (e3, 61, .inl (fun _ => 0))), (ou, .inl (cJ, 1, .inr (.inl (fun _ => 0))))]) ⟨hx, hb, hml, hown, hts⟩ (c_LsetRules_x l D _ hfl o kA iA tA tr lA ou (xs 1) (xs 2) (xs 3) 0 h) (vx_cwSW 6 hts zgS_L_setRules rfl rfl rfl (by decide +kernel) ⟨by rw [hRf]; exact Nat.le_of_ble_eq_true rfl, by rw [hRl]; exact Nat.le_of_ble_eq_true rfl⟩) hKX hK hP hD hS hA [0] [1, 2, 3, 4, 5, 6, 7] rfl (by decide) rfl (by decide) (by decide) [] rfl rfl hl.1 rfl (Nat.le_of_ble_eq_true rfl) dL_law_288 ⟨by omega, by omega⟩ (fun r_442 u_443 H locs hwu_443 hnu_443 hzu_443 hK hP hD hS => ?_)
      have hK : va_K D vwCl [(cK, .object RX1), (cT, .int), (e1, .int), (e2, .int), (e3, .int), (cJ, .long)] s := hK
      have hP : va_P D vwCl ([(kA, .inl (cK, 10, .inr (.inr (.inr (.inr (fun _ => none)))))), (tA, .inl (cT, 120, .inl (fun _ => 0))), (mo, .inr (4, [.int 0, .int 0, .ref kT, .int 20, .int 60, .int 2000, .int 0, .int 0, .ref tb, .ref ld, .int 0, .ref lK, .ref lC, .int 0])), (kT, .inl (e1, 60, .inl (fun _ => 0))), (tb, .inl (e2, 366, .inl (fun _ => 0))), (ld, .inl (e3, 61, .inl (fun _ => 0))), (ou, .inl (cJ, 1, .inr (.inl (fun _ => 0))))]) H := hP
      have hD : va_D A ([(kA, .inl (cK, 10, .inr (.inr (.inr (.inr (fun _ => none)))))), (tA, .inl (cT, 120, .inl (fun _ => 0))), (mo, .inr (4, [.int 0, .int 0, .ref kT, .int 20, .int 60, .int 2000, .int 0, .int 0, .ref tb, .ref ld, .int 0, .ref lK, .ref lC, .int 0])), (kT, .inl (e1, 60, .inl (fun _ => 0))), (tb, .inl (e2, 366, .inl (fun _ => 0))), (ld, .inl (e3, 61, .inl (fun _ => 0))), (ou, .inl (cJ, 1, .inr (.inl (fun _ => 0))))]) := hD
      refine lv_topi (fun v_444 ev_444 => ?_)
      obtain rfl : v_444 = 1 := ev_444.trans hwu_443
      refine lv_istore (lv' := [(5, .int 1), (4, .int 0), (3, .ref ou), (2, .ref mo), (1, .ref o), (0, .ref b)]) hx hb dL_law_291 hl (by decide) rfl (fun ls hl => ?_)
      refine lv_aload_n hx hb dL_law_293 rfl (lv_at hl 3 rfl) ?_
      refine lv_aload_n hx hb dL_law_294 rfl (lv_at hl 5 rfl) ?_
      refine lv_iload hx hb dL_law_295 (lv_at hl 1 rfl) ?_
      refine lv_iconst (v := 1) hx hb dL_law_297 (by decide) ?_
      refine lv_iadd hx hb dL_law_298 ?_
      refine lv_topi (fun v_445 ev_445 => ?_)
      obtain rfl : v_445 = 1 := ev_445.trans (by decide)
      refine va_sld hx hb hX hbl hbA hS (vp_in_nI (n := 1) (N := 7) (by decide) (by decide)) dL_law_299 ?_
      refine lv_topi (fun v_446 ev_446 => ?_)
      obtain rfl : v_446 = (xs 1) := ev_446.trans rfl
      refine lv_aload_n hx hb dL_law_300 rfl (lv_at hl 5 rfl) ?_
      refine lv_iload hx hb dL_law_301 (lv_at hl 1 rfl) ?_
      refine lv_iconst (v := 2) hx hb dL_law_303 (by decide) ?_
      refine lv_iadd hx hb dL_law_304 ?_
      refine lv_topi (fun v_447 ev_447 => ?_)
      obtain rfl : v_447 = 2 := ev_447.trans (by decide)
      refine va_sld hx hb hX hbl hbA hS (vp_in_nI (n := 2) (N := 7) (by decide) (by decide)) dL_law_305 ?_
      refine lv_topi (fun v_448 ev_448 => ?_)
      obtain rfl : v_448 = (xs 2) := ev_448.trans rfl
      refine lv_aload_n hx hb dL_law_306 rfl (lv_at hl 5 rfl) ?_
      refine lv_iload hx hb dL_law_307 (lv_at hl 1 rfl) ?_
      refine lv_iconst (v := 3) hx hb dL_law_309 (by decide) ?_
      refine lv_iadd hx hb dL_law_310 ?_
      refine lv_topi (fun v_449 ev_449 => ?_)
      obtain rfl : v_449 = 3 := ev_449.trans (by decide)
      refine va_sld hx hb hX hbl hbA hS (vp_in_nI (n := 3) (N := 7) (by decide) (by decide)) dL_law_311 ?_
      refine lv_topi (fun v_450 ev_450 => ?_)
      obtain rfl : v_450 = (xs 3) := ev_450.trans rfl
      refine lv_aload_n hx hb dL_law_312 rfl (lv_at hl 5 rfl) ?_
      refine lv_iload hx hb dL_law_313 (lv_at hl 1 rfl) ?_
      refine lv_iconst (v := 4) hx hb dL_law_315 (by decide) ?_
      refine lv_iadd hx hb dL_law_316 ?_
      refine lv_topi (fun v_451 ev_451 => ?_)
      obtain rfl : v_451 = 4 := ev_451.trans (by decide)
      refine va_sld hx hb hX hbl hbA hS (vp_in_nI (n := 4) (N := 7) (by decide) (by decide)) dL_law_317 ?_
      refine lv_topi (fun v_452 ev_452 => ?_)
      obtain rfl : v_452 = (xs 4) := ev_452.trans rfl
      refine lv_if_eq (tgt := 325) hx hb dL_law_318 (by decide) (fun c_453 => ?_) (fun c_453 => absurd (c_441) c_453)
      refine lv_iconst (v := 0) hx hb dL_law_325 (by decide) ?_
      refine zcalliV (As := [.int (xs 1), .int (xs 2), .int (xs 3), .int 0]) (rest := []) (wc := [(mo, .inr (4, [.int 0, .int 0, .ref kT, .int 20, .int 60, .int 2000, .int 0, .int 0, .ref tb, .ref ld, .int 0, .ref lK, .ref lC, .int 0]))]) (wr := [(kA, .inl (cK, 10, .inr (.inr (.inr (.inr (fun _ => none)))))), (tA, .inl (cT, 120, .inl (fun _ => 0))), (kT, .inl (e1, 60, .inl (fun _ => 0))), (tb, .inl (e2, 366, .inl (fun _ => 0))), (ld, .inl (e3, 61, .inl (fun _ => 0))), (ou, .inl (cJ, 1, .inr (.inl (fun _ => 0))))]) ⟨hx, hb, hml, hown, hts⟩ (c_MsetRules_x l D _ mo kT tb ld lK lC (xs 1) (xs 2) (xs 3) 0 h) (cwV 4 hts zgV_X4_setRules rfl rfl rfl (by decide +kernel) ⟨by rw [hRf]; exact Nat.le_of_ble_eq_true rfl, by rw [hRl]; exact Nat.le_of_ble_eq_true rfl⟩) hK hP hD hS hA [2] [0, 1, 3, 4, 5, 6] rfl (by decide) rfl (by decide) (by decide) [] rfl (ci := 4) (q0 := 2) rfl rfl rfl hl.1 rfl (Nat.le_of_ble_eq_true rfl) dL_law_326 ⟨by omega, by omega⟩ (fun r_454 u_455 H locs hwu_455 hnu_455 hzu_455 hK hP hD hS => ?_)
      have hK : va_K D vwCl [(cK, .object RX1), (cT, .int), (e1, .int), (e2, .int), (e3, .int), (cJ, .long)] s := hK
      have hP : va_P D vwCl ([(kA, .inl (cK, 10, .inr (.inr (.inr (.inr (fun _ => none)))))), (tA, .inl (cT, 120, .inl (fun _ => 0))), (kT, .inl (e1, 60, .inl (fun _ => 0))), (tb, .inl (e2, 366, .inl (fun _ => 0))), (ld, .inl (e3, 61, .inl (fun _ => 0))), (ou, .inl (cJ, 1, .inr (.inl (fun _ => 0)))), (mo, .inr (4, [.int 1, .int 0, .ref kT, .int 20, .int 60, .int 2000, .int 0, .int 0, .ref tb, .ref ld, .int 0, .ref lK, .ref lC, .int 0]))]) H := hP
      have hD : va_D A ([(kA, .inl (cK, 10, .inr (.inr (.inr (.inr (fun _ => none)))))), (tA, .inl (cT, 120, .inl (fun _ => 0))), (kT, .inl (e1, 60, .inl (fun _ => 0))), (tb, .inl (e2, 366, .inl (fun _ => 0))), (ld, .inl (e3, 61, .inl (fun _ => 0))), (ou, .inl (cJ, 1, .inr (.inl (fun _ => 0)))), (mo, .inr (4, [.int 1, .int 0, .ref kT, .int 20, .int 60, .int 2000, .int 0, .int 0, .ref tb, .ref ld, .int 0, .ref lK, .ref lC, .int 0]))]) := hD
      refine lv_topi (fun v_456 ev_456 => ?_)
      obtain rfl : v_456 = 0 := ev_456.trans hwu_455
      refine lv_istore (lv' := [(6, .int 0), (5, .int 1), (4, .int 0), (3, .ref ou), (2, .ref mo), (1, .ref o), (0, .ref b)]) hx hb dL_law_329 hl (by decide) rfl (fun ls hl => ?_)
      refine lv_aload_n hx hb dL_law_331 rfl (lv_at hl 4 rfl) ?_
      refine zrdV (As := []) (rest := []) (wc := [(mo, .inr (4, [.int 1, .int 0, .ref kT, .int 20, .int 60, .int 2000, .int 0, .int 0, .ref tb, .ref ld, .int 0, .ref lK, .ref lC, .int 0]))]) ⟨hx, hb, hml, hown, hts⟩ (c_thrown l D _ mo [.int 1, .int 0, .ref kT, .int 20, .int 60, .int 2000, .int 0, .int 0, .ref tb, .ref ld, .int 0, .ref lK, .ref lC, .int 0] 1 rfl) (cwV 0 hts zgV_X4_thrown rfl rfl rfl (by decide +kernel) ⟨by rw [hRf]; exact Nat.le_of_ble_eq_true rfl, by rw [hRl]; exact Nat.le_of_ble_eq_true rfl⟩) hK hP hD [6] rfl (by decide) [] rfl (ci := 4) (q0 := 6) rfl rfl rfl hl.1 rfl (Nat.le_of_ble_eq_true rfl) dL_law_332 ⟨by omega, by omega⟩ (fun r_457 hr_457 => ?_)
      refine lv_topi (fun v_458 ev_458 => ?_)
      obtain rfl : v_458 = 1 := ev_458.trans hr_457
      refine lv_iload hx hb dL_law_335 (lv_at hl 1 rfl) ?_
      refine lv_icmp_eq (tgt := 342) hx hb dL_law_337 (by decide) (fun c_459 => ?_) (fun c_459 => absurd (rfl) c_459)
      refine lv_iload hx hb dL_law_342 (lv_at hl 1 rfl) ?_
      refine lv_if_ne (tgt := 359) hx hb dL_law_344 (by decide) (fun c_460 => ?_) (fun c_460 => absurd c_460 (by decide))
      refine lv_goto (tgt := 1463) hx hb dL_law_359 (by decide) ?_
      have hl := lv_sub hl (l' := [(4, .int 0), (3, .ref ou), (2, .ref mo), (1, .ref o), (0, .ref b)]) [2, 3, 4, 5, 6] rfl
      refine W.widen (k := 2000) (n := 20000) (by omega) (by omega) ?_
      subst hAe
      exact znext C1 o mo ou H locs ls hS hl
    · have h_b := True.intro
      refine lv_iconst (v := 1) hx hb dL_law_282 (by decide) ?_
      refine lv_goto (tgt := 287) hx hb dL_law_283 (by decide) ?_
      refine lv_aload_n hx hb dL_law_287 rfl (lv_at hl 1 rfl) ?_
      refine zcalliSWK (hh := [(0, 14, 17, 13)]) (As := [.ref o, .int (xs 1), .int (xs 2), .int (xs 3), .int 1, .ref ou]) (rest := []) (wc := [(o, .inr (3, [.ref kA, .int 0, .int 20, .int 60, .int 2000, .int 0, .ref iA, .int 0, .int 0, .int 0, .ref tA, .ref tr, .ref lA, .int 0]))]) (wr := [(kA, .inl (cK, 10, .inr (.inr (.inr (.inr (fun _ => none)))))), (tA, .inl (cT, 120, .inl (fun _ => 0))), (mo, .inr (4, [.int 0, .int 0, .ref kT, .int 20, .int 60, .int 2000, .int 0, .int 0, .ref tb, .ref ld, .int 0, .ref lK, .ref lC, .int 0])), (kT, .inl (e1, 60, .inl (fun _ => 0))), (tb, .inl (e2, 366, .inl (fun _ => 0))), (ld, .inl (e3, 61, .inl (fun _ => 0))), (ou, .inl (cJ, 1, .inr (.inl (fun _ => 0))))]) ⟨hx, hb, hml, hown, hts⟩ (c_LsetRules_x l D _ hfl o kA iA tA tr lA ou (xs 1) (xs 2) (xs 3) 1 h) (vx_cwSW 6 hts zgS_L_setRules rfl rfl rfl (by decide +kernel) ⟨by rw [hRf]; exact Nat.le_of_ble_eq_true rfl, by rw [hRl]; exact Nat.le_of_ble_eq_true rfl⟩) hKX hK hP hD hS hA [0] [1, 2, 3, 4, 5, 6, 7] rfl (by decide) rfl (by decide) (by decide) [] rfl rfl hl.1 rfl (Nat.le_of_ble_eq_true rfl) dL_law_288 ⟨by omega, by omega⟩ (fun r_461 u_462 H locs hwu_462 hnu_462 hzu_462 hK hP hD hS => ?_)
      have hK : va_K D vwCl [(cK, .object RX1), (cT, .int), (e1, .int), (e2, .int), (e3, .int), (cJ, .long)] s := hK
      have hP : va_P D vwCl ([(kA, .inl (cK, 10, .inr (.inr (.inr (.inr (fun _ => none)))))), (tA, .inl (cT, 120, .inl (fun _ => 0))), (mo, .inr (4, [.int 0, .int 0, .ref kT, .int 20, .int 60, .int 2000, .int 0, .int 0, .ref tb, .ref ld, .int 0, .ref lK, .ref lC, .int 0])), (kT, .inl (e1, 60, .inl (fun _ => 0))), (tb, .inl (e2, 366, .inl (fun _ => 0))), (ld, .inl (e3, 61, .inl (fun _ => 0))), (ou, .inl (cJ, 1, .inr (.inl (fun _ => 0))))]) H := hP
      have hD : va_D A ([(kA, .inl (cK, 10, .inr (.inr (.inr (.inr (fun _ => none)))))), (tA, .inl (cT, 120, .inl (fun _ => 0))), (mo, .inr (4, [.int 0, .int 0, .ref kT, .int 20, .int 60, .int 2000, .int 0, .int 0, .ref tb, .ref ld, .int 0, .ref lK, .ref lC, .int 0])), (kT, .inl (e1, 60, .inl (fun _ => 0))), (tb, .inl (e2, 366, .inl (fun _ => 0))), (ld, .inl (e3, 61, .inl (fun _ => 0))), (ou, .inl (cJ, 1, .inr (.inl (fun _ => 0))))]) := hD
      refine lv_topi (fun v_463 ev_463 => ?_)
      obtain rfl : v_463 = 1 := ev_463.trans hwu_462
      refine lv_istore (lv' := [(5, .int 1), (4, .int 0), (3, .ref ou), (2, .ref mo), (1, .ref o), (0, .ref b)]) hx hb dL_law_291 hl (by decide) rfl (fun ls hl => ?_)
      refine lv_aload_n hx hb dL_law_293 rfl (lv_at hl 3 rfl) ?_
      refine lv_aload_n hx hb dL_law_294 rfl (lv_at hl 5 rfl) ?_
      refine lv_iload hx hb dL_law_295 (lv_at hl 1 rfl) ?_
      refine lv_iconst (v := 1) hx hb dL_law_297 (by decide) ?_
      refine lv_iadd hx hb dL_law_298 ?_
      refine lv_topi (fun v_464 ev_464 => ?_)
      obtain rfl : v_464 = 1 := ev_464.trans (by decide)
      refine va_sld hx hb hX hbl hbA hS (vp_in_nI (n := 1) (N := 7) (by decide) (by decide)) dL_law_299 ?_
      refine lv_topi (fun v_465 ev_465 => ?_)
      obtain rfl : v_465 = (xs 1) := ev_465.trans rfl
      refine lv_aload_n hx hb dL_law_300 rfl (lv_at hl 5 rfl) ?_
      refine lv_iload hx hb dL_law_301 (lv_at hl 1 rfl) ?_
      refine lv_iconst (v := 2) hx hb dL_law_303 (by decide) ?_
      refine lv_iadd hx hb dL_law_304 ?_
      refine lv_topi (fun v_466 ev_466 => ?_)
      obtain rfl : v_466 = 2 := ev_466.trans (by decide)
      refine va_sld hx hb hX hbl hbA hS (vp_in_nI (n := 2) (N := 7) (by decide) (by decide)) dL_law_305 ?_
      refine lv_topi (fun v_467 ev_467 => ?_)
      obtain rfl : v_467 = (xs 2) := ev_467.trans rfl
      refine lv_aload_n hx hb dL_law_306 rfl (lv_at hl 5 rfl) ?_
      refine lv_iload hx hb dL_law_307 (lv_at hl 1 rfl) ?_
      refine lv_iconst (v := 3) hx hb dL_law_309 (by decide) ?_
      refine lv_iadd hx hb dL_law_310 ?_
      refine lv_topi (fun v_468 ev_468 => ?_)
      obtain rfl : v_468 = 3 := ev_468.trans (by decide)
      refine va_sld hx hb hX hbl hbA hS (vp_in_nI (n := 3) (N := 7) (by decide) (by decide)) dL_law_311 ?_
      refine lv_topi (fun v_469 ev_469 => ?_)
      obtain rfl : v_469 = (xs 3) := ev_469.trans rfl
      refine lv_aload_n hx hb dL_law_312 rfl (lv_at hl 5 rfl) ?_
      refine lv_iload hx hb dL_law_313 (lv_at hl 1 rfl) ?_
      refine lv_iconst (v := 4) hx hb dL_law_315 (by decide) ?_
      refine lv_iadd hx hb dL_law_316 ?_
      refine lv_topi (fun v_470 ev_470 => ?_)
      obtain rfl : v_470 = 4 := ev_470.trans (by decide)
      refine va_sld hx hb hX hbl hbA hS (vp_in_nI (n := 4) (N := 7) (by decide) (by decide)) dL_law_317 ?_
      refine lv_topi (fun v_471 ev_471 => ?_)
      obtain rfl : v_471 = (xs 4) := ev_471.trans rfl
      refine lv_if_eq (tgt := 325) hx hb dL_law_318 (by decide) (fun c_472 => absurd c_472 (c_441)) (fun c_472 => ?_)
      refine lv_iconst (v := 1) hx hb dL_law_321 (by decide) ?_
      refine lv_goto (tgt := 326) hx hb dL_law_322 (by decide) ?_
      refine zcalliV (As := [.int (xs 1), .int (xs 2), .int (xs 3), .int 1]) (rest := []) (wc := [(mo, .inr (4, [.int 0, .int 0, .ref kT, .int 20, .int 60, .int 2000, .int 0, .int 0, .ref tb, .ref ld, .int 0, .ref lK, .ref lC, .int 0]))]) (wr := [(kA, .inl (cK, 10, .inr (.inr (.inr (.inr (fun _ => none)))))), (tA, .inl (cT, 120, .inl (fun _ => 0))), (kT, .inl (e1, 60, .inl (fun _ => 0))), (tb, .inl (e2, 366, .inl (fun _ => 0))), (ld, .inl (e3, 61, .inl (fun _ => 0))), (ou, .inl (cJ, 1, .inr (.inl (fun _ => 0))))]) ⟨hx, hb, hml, hown, hts⟩ (c_MsetRules_x l D _ mo kT tb ld lK lC (xs 1) (xs 2) (xs 3) 1 h) (cwV 4 hts zgV_X4_setRules rfl rfl rfl (by decide +kernel) ⟨by rw [hRf]; exact Nat.le_of_ble_eq_true rfl, by rw [hRl]; exact Nat.le_of_ble_eq_true rfl⟩) hK hP hD hS hA [2] [0, 1, 3, 4, 5, 6] rfl (by decide) rfl (by decide) (by decide) [] rfl (ci := 4) (q0 := 2) rfl rfl rfl hl.1 rfl (Nat.le_of_ble_eq_true rfl) dL_law_326 ⟨by omega, by omega⟩ (fun r_473 u_474 H locs hwu_474 hnu_474 hzu_474 hK hP hD hS => ?_)
      have hK : va_K D vwCl [(cK, .object RX1), (cT, .int), (e1, .int), (e2, .int), (e3, .int), (cJ, .long)] s := hK
      have hP : va_P D vwCl ([(kA, .inl (cK, 10, .inr (.inr (.inr (.inr (fun _ => none)))))), (tA, .inl (cT, 120, .inl (fun _ => 0))), (kT, .inl (e1, 60, .inl (fun _ => 0))), (tb, .inl (e2, 366, .inl (fun _ => 0))), (ld, .inl (e3, 61, .inl (fun _ => 0))), (ou, .inl (cJ, 1, .inr (.inl (fun _ => 0)))), (mo, .inr (4, [.int 1, .int 0, .ref kT, .int 20, .int 60, .int 2000, .int 0, .int 0, .ref tb, .ref ld, .int 0, .ref lK, .ref lC, .int 0]))]) H := hP
      have hD : va_D A ([(kA, .inl (cK, 10, .inr (.inr (.inr (.inr (fun _ => none)))))), (tA, .inl (cT, 120, .inl (fun _ => 0))), (kT, .inl (e1, 60, .inl (fun _ => 0))), (tb, .inl (e2, 366, .inl (fun _ => 0))), (ld, .inl (e3, 61, .inl (fun _ => 0))), (ou, .inl (cJ, 1, .inr (.inl (fun _ => 0)))), (mo, .inr (4, [.int 1, .int 0, .ref kT, .int 20, .int 60, .int 2000, .int 0, .int 0, .ref tb, .ref ld, .int 0, .ref lK, .ref lC, .int 0]))]) := hD
      refine lv_topi (fun v_475 ev_475 => ?_)
      obtain rfl : v_475 = 0 := ev_475.trans hwu_474
      refine lv_istore (lv' := [(6, .int 0), (5, .int 1), (4, .int 0), (3, .ref ou), (2, .ref mo), (1, .ref o), (0, .ref b)]) hx hb dL_law_329 hl (by decide) rfl (fun ls hl => ?_)
      refine lv_aload_n hx hb dL_law_331 rfl (lv_at hl 4 rfl) ?_
      refine zrdV (As := []) (rest := []) (wc := [(mo, .inr (4, [.int 1, .int 0, .ref kT, .int 20, .int 60, .int 2000, .int 0, .int 0, .ref tb, .ref ld, .int 0, .ref lK, .ref lC, .int 0]))]) ⟨hx, hb, hml, hown, hts⟩ (c_thrown l D _ mo [.int 1, .int 0, .ref kT, .int 20, .int 60, .int 2000, .int 0, .int 0, .ref tb, .ref ld, .int 0, .ref lK, .ref lC, .int 0] 1 rfl) (cwV 0 hts zgV_X4_thrown rfl rfl rfl (by decide +kernel) ⟨by rw [hRf]; exact Nat.le_of_ble_eq_true rfl, by rw [hRl]; exact Nat.le_of_ble_eq_true rfl⟩) hK hP hD [6] rfl (by decide) [] rfl (ci := 4) (q0 := 6) rfl rfl rfl hl.1 rfl (Nat.le_of_ble_eq_true rfl) dL_law_332 ⟨by omega, by omega⟩ (fun r_476 hr_476 => ?_)
      refine lv_topi (fun v_477 ev_477 => ?_)
      obtain rfl : v_477 = 1 := ev_477.trans hr_476
      refine lv_iload hx hb dL_law_335 (lv_at hl 1 rfl) ?_
      refine lv_icmp_eq (tgt := 342) hx hb dL_law_337 (by decide) (fun c_478 => ?_) (fun c_478 => absurd (rfl) c_478)
      refine lv_iload hx hb dL_law_342 (lv_at hl 1 rfl) ?_
      refine lv_if_ne (tgt := 359) hx hb dL_law_344 (by decide) (fun c_479 => ?_) (fun c_479 => absurd c_479 (by decide))
      refine lv_goto (tgt := 1463) hx hb dL_law_359 (by decide) ?_
      have hl := lv_sub hl (l' := [(4, .int 0), (3, .ref ou), (2, .ref mo), (1, .ref o), (0, .ref b)]) [2, 3, 4, 5, 6] rfl
      refine W.widen (k := 2000) (n := 20000) (by omega) (by omega) ?_
      subst hAe
      exact znext C1 o mo ou H locs ls hS hl
set_option maxHeartbeats 4000000 in
set_option maxRecDepth 100000 in
theorem zc_addKind {p : Program} {e : Env} {s : State} {m : MethodId} {below : List Frame} {meth : Method} {c : Code} {l : Launch} {b : Nat} {xs : Nat → Int32} (C0 : lw_At p s m meth c b 7 xs) (hfl : l.stackTraces = false) {D : zG} (hKX : zKX (fun q : Nat => s.heap.size ≤ q) s) (o kA iA tA tr lA mo kT tb ld lK lC ou : Nat) (cK cT e1 e2 e3 cJ : ClassId) (H : Heap) (locs : List Loc) (ls : Array Slot) (hK : va_K D vwCl [(cK, .object RX1), (cT, .int), (e1, .int), (e2, .int), (e3, .int), (cJ, .long)] s) (hP : va_P D vwCl ([(o, .inr (3, [.ref kA, .int 0, .int 20, .int 60, .int 2000, .int 0, .ref iA, .int 0, .int 0, .int 0, .ref tA, .ref tr, .ref lA, .int 0])), (kA, .inl (cK, 10, .inr (.inr (.inr (.inr (fun _ => none)))))), (tA, .inl (cT, 120, .inl (fun _ => 0))), (mo, .inr (4, [.int 0, .int 0, .ref kT, .int 20, .int 60, .int 2000, .int 0, .int 0, .ref tb, .ref ld, .int 0, .ref lK, .ref lC, .int 0])), (kT, .inl (e1, 60, .inl (fun _ => 0))), (tb, .inl (e2, 366, .inl (fun _ => 0))), (ld, .inl (e3, 61, .inl (fun _ => 0))), (ou, .inl (cJ, 1, .inr (.inl (fun _ => 0))))]) H) (hD : va_D (fun q : Nat => s.heap.size ≤ q) ([(o, .inr (3, [.ref kA, .int 0, .int 20, .int 60, .int 2000, .int 0, .ref iA, .int 0, .int 0, .int 0, .ref tA, .ref tr, .ref lA, .int 0])), (kA, .inl (cK, 10, .inr (.inr (.inr (.inr (fun _ => none)))))), (tA, .inl (cT, 120, .inl (fun _ => 0))), (mo, .inr (4, [.int 0, .int 0, .ref kT, .int 20, .int 60, .int 2000, .int 0, .int 0, .ref tb, .ref ld, .int 0, .ref lK, .ref lC, .int 0])), (kT, .inl (e1, 60, .inl (fun _ => 0))), (tb, .inl (e2, 366, .inl (fun _ => 0))), (ld, .inl (e3, 61, .inl (fun _ => 0))), (ou, .inl (cJ, 1, .inr (.inl (fun _ => 0))))])) (hS : va_S (fun q : Nat => s.heap.size ≤ q) s.heap H locs) (hl : lv_has ls 9 [(4, .int 0), (3, .ref ou), (2, .ref mo), (1, .ref o), (0, .ref b)]) : W p l e room_1 s m #[Value.ref b] below meth c H locs 1000 10000 (lw_Z below #[Value.ref b] s) (F0 m 136 ls []) := by
  have C1 := C0
  obtain ⟨hx, hb, hr, hml, hown, hts, hX, hbl, hlocks, hgv⟩ := C0
  have hA : ∀ q : Nat, s.heap.size ≤ q → (fun q : Nat => s.heap.size ≤ q) q := fun _ h => h
  have hbA : ¬ (fun q : Nat => s.heap.size ≤ q) b := Nat.not_le.mpr hbl
  have hRf : room_1.frames = 13 := rfl
  have hRc : room_1.cells = 600002 := rfl
  have hRs : room_1.slots = 7302232 := rfl
  have hRl : room_1.locals = 522 := rfl
  generalize hAe : (fun q : Nat => s.heap.size ≤ q) = A at hP hD hS hA hbA hKX
  by_cases h : (1 ≤ (xs 1) ∧ (xs 1) ≤ 6) ∧ (1 ≤ (xs 2) ∧ (xs 2) ≤ 6) ∧ (1 ≤ (xs 3) ∧ (xs 3) ≤ 8) ∧ (1 ≤ (xs 4) ∧ (xs 4) ≤ 500) ∧ (0 ≤ (xs 5) ∧ (xs 5) ≤ 5000) ∧ (0 ≤ (xs 6) ∧ (xs 6) ≤ 3)
  · have h_b := True.intro
    refine lv_aload_n hx hb dL_law_136 rfl (lv_at hl 3 rfl) ?_
    refine lv_aload_n hx hb dL_law_137 rfl (lv_at hl 4 rfl) ?_
    refine lv_iload hx hb dL_law_138 (lv_at hl 0 rfl) ?_
    refine lv_iconst (v := 1) hx hb dL_law_140 (by decide) ?_
    refine lv_iadd hx hb dL_law_141 ?_
    refine lv_topi (fun v_480 ev_480 => ?_)
    obtain rfl : v_480 = 1 := ev_480.trans (by decide)
    refine va_sld hx hb hX hbl hbA hS (vp_in_nI (n := 1) (N := 7) (by decide) (by decide)) dL_law_142 ?_
    refine lv_topi (fun v_481 ev_481 => ?_)
    obtain rfl : v_481 = (xs 1) := ev_481.trans rfl
    refine lv_aload_n hx hb dL_law_143 rfl (lv_at hl 4 rfl) ?_
    refine lv_iload hx hb dL_law_144 (lv_at hl 0 rfl) ?_
    refine lv_iconst (v := 2) hx hb dL_law_146 (by decide) ?_
    refine lv_iadd hx hb dL_law_147 ?_
    refine lv_topi (fun v_482 ev_482 => ?_)
    obtain rfl : v_482 = 2 := ev_482.trans (by decide)
    refine va_sld hx hb hX hbl hbA hS (vp_in_nI (n := 2) (N := 7) (by decide) (by decide)) dL_law_148 ?_
    refine lv_topi (fun v_483 ev_483 => ?_)
    obtain rfl : v_483 = (xs 2) := ev_483.trans rfl
    refine lv_aload_n hx hb dL_law_149 rfl (lv_at hl 4 rfl) ?_
    refine lv_iload hx hb dL_law_150 (lv_at hl 0 rfl) ?_
    refine lv_iconst (v := 3) hx hb dL_law_152 (by decide) ?_
    refine lv_iadd hx hb dL_law_153 ?_
    refine lv_topi (fun v_484 ev_484 => ?_)
    obtain rfl : v_484 = 3 := ev_484.trans (by decide)
    refine va_sld hx hb hX hbl hbA hS (vp_in_nI (n := 3) (N := 7) (by decide) (by decide)) dL_law_154 ?_
    refine lv_topi (fun v_485 ev_485 => ?_)
    obtain rfl : v_485 = (xs 3) := ev_485.trans rfl
    refine lv_aload_n hx hb dL_law_155 rfl (lv_at hl 4 rfl) ?_
    refine lv_iload hx hb dL_law_156 (lv_at hl 0 rfl) ?_
    refine lv_iconst (v := 4) hx hb dL_law_158 (by decide) ?_
    refine lv_iadd hx hb dL_law_159 ?_
    refine lv_topi (fun v_486 ev_486 => ?_)
    obtain rfl : v_486 = 4 := ev_486.trans (by decide)
    refine va_sld hx hb hX hbl hbA hS (vp_in_nI (n := 4) (N := 7) (by decide) (by decide)) dL_law_160 ?_
    refine lv_topi (fun v_487 ev_487 => ?_)
    obtain rfl : v_487 = (xs 4) := ev_487.trans rfl
    refine lv_aload_n hx hb dL_law_161 rfl (lv_at hl 4 rfl) ?_
    refine lv_iload hx hb dL_law_162 (lv_at hl 0 rfl) ?_
    refine lv_iconst (v := 5) hx hb dL_law_164 (by decide) ?_
    refine lv_iadd hx hb dL_law_165 ?_
    refine lv_topi (fun v_488 ev_488 => ?_)
    obtain rfl : v_488 = 5 := ev_488.trans (by decide)
    refine va_sld hx hb hX hbl hbA hS (vp_in_nI (n := 5) (N := 7) (by decide) (by decide)) dL_law_166 ?_
    refine lv_topi (fun v_489 ev_489 => ?_)
    obtain rfl : v_489 = (xs 5) := ev_489.trans rfl
    refine lv_aload_n hx hb dL_law_167 rfl (lv_at hl 4 rfl) ?_
    refine lv_iload hx hb dL_law_168 (lv_at hl 0 rfl) ?_
    refine lv_bipush (v := 6) hx hb dL_law_170 (by decide) ?_
    refine lv_iadd hx hb dL_law_172 ?_
    refine lv_topi (fun v_490 ev_490 => ?_)
    obtain rfl : v_490 = 6 := ev_490.trans (by decide)
    refine va_sld hx hb hX hbl hbA hS (vp_in_nI (n := 6) (N := 7) (by decide) (by decide)) dL_law_173 ?_
    refine lv_topi (fun v_491 ev_491 => ?_)
    obtain rfl : v_491 = (xs 6) := ev_491.trans rfl
    refine lv_aload_n hx hb dL_law_174 rfl (lv_at hl 1 rfl) ?_
    refine zcalliSW (hh := [(0, 18, 21, 13), (0, 18, 25, 15)]) (As := [.ref o, .int (xs 1), .int (xs 2), .int (xs 3), .int (xs 4), .int (xs 5), .int (xs 6), .ref ou]) (rest := []) (wc := [(o, .inr (3, [.ref kA, .int 0, .int 20, .int 60, .int 2000, .int 0, .ref iA, .int 0, .int 0, .int 0, .ref tA, .ref tr, .ref lA, .int 0])), (kA, .inl (cK, 10, .inr (.inr (.inr (.inr (fun _ => none)))))), (ou, .inl (cJ, 1, .inr (.inl (fun _ => 0))))]) (wr := [(tA, .inl (cT, 120, .inl (fun _ => 0))), (mo, .inr (4, [.int 0, .int 0, .ref kT, .int 20, .int 60, .int 2000, .int 0, .int 0, .ref tb, .ref ld, .int 0, .ref lK, .ref lC, .int 0])), (kT, .inl (e1, 60, .inl (fun _ => 0))), (tb, .inl (e2, 366, .inl (fun _ => 0))), (ld, .inl (e3, 61, .inl (fun _ => 0)))]) ⟨hx, hb, hml, hown, hts⟩ (c_LaddKind_ok l D _ o kA iA tA tr lA ou cK cJ (fun _ => 0) (xs 1) (xs 2) (xs 3) (xs 4) (xs 5) (xs 6) h) (vx_cwSW 8 hts zgS_L_addKind rfl rfl rfl (by decide +kernel) ⟨by rw [hRf]; exact Nat.le_of_ble_eq_true rfl, by rw [hRl]; exact Nat.le_of_ble_eq_true rfl⟩) hK hP hD hS hA [0, 1, 7] [2, 3, 4, 5, 6] rfl (by decide) rfl (by decide) (by decide) [0, 5] rfl rfl hl.1 rfl (Nat.le_of_ble_eq_true rfl) dL_law_175 ⟨by omega, by omega⟩ (fun r_492 u_493 H locs hwu_493 hnu_493 hzu_493 hK hP hD hS => ?_)
    have hK : va_K D vwCl [(cK, .object RX1), (cT, .int), (e1, .int), (e2, .int), (e3, .int), (cJ, .long), (cJ, .long)] s := hK
    have hP : va_P D vwCl ([(tA, .inl (cT, 120, .inl (fun _ => 0))), (mo, .inr (4, [.int 0, .int 0, .ref kT, .int 20, .int 60, .int 2000, .int 0, .int 0, .ref tb, .ref ld, .int 0, .ref lK, .ref lC, .int 0])), (kT, .inl (e1, 60, .inl (fun _ => 0))), (tb, .inl (e2, 366, .inl (fun _ => 0))), (ld, .inl (e3, 61, .inl (fun _ => 0))), (ou, .inl (cJ, 1, .inr (.inl (vp_updL (fun _ => 0) 0 (0 : Int32).toInt64))))]) H := hP
    have hD : va_D A ([(tA, .inl (cT, 120, .inl (fun _ => 0))), (mo, .inr (4, [.int 0, .int 0, .ref kT, .int 20, .int 60, .int 2000, .int 0, .int 0, .ref tb, .ref ld, .int 0, .ref lK, .ref lC, .int 0])), (kT, .inl (e1, 60, .inl (fun _ => 0))), (tb, .inl (e2, 366, .inl (fun _ => 0))), (ld, .inl (e3, 61, .inl (fun _ => 0))), (ou, .inl (cJ, 1, .inr (.inl (vp_updL (fun _ => 0) 0 (0 : Int32).toInt64))))]) := hD
    refine lv_topi (fun v_494 ev_494 => ?_)
    obtain rfl : v_494 = 0 := ev_494.trans hwu_493
    refine lv_istore (lv' := [(5, .int 0), (4, .int 0), (3, .ref ou), (2, .ref mo), (1, .ref o), (0, .ref b)]) hx hb dL_law_178 hl (by decide) rfl (fun ls hl => ?_)
    refine lv_aload_n hx hb dL_law_180 rfl (lv_at hl 3 rfl) ?_
    refine lv_aload_n hx hb dL_law_181 rfl (lv_at hl 5 rfl) ?_
    refine lv_iload hx hb dL_law_182 (lv_at hl 1 rfl) ?_
    refine lv_iconst (v := 1) hx hb dL_law_184 (by decide) ?_
    refine lv_iadd hx hb dL_law_185 ?_
    refine lv_topi (fun v_495 ev_495 => ?_)
    obtain rfl : v_495 = 1 := ev_495.trans (by decide)
    refine va_sld hx hb hX hbl hbA hS (vp_in_nI (n := 1) (N := 7) (by decide) (by decide)) dL_law_186 ?_
    refine lv_topi (fun v_496 ev_496 => ?_)
    obtain rfl : v_496 = (xs 1) := ev_496.trans rfl
    refine lv_aload_n hx hb dL_law_187 rfl (lv_at hl 5 rfl) ?_
    refine lv_iload hx hb dL_law_188 (lv_at hl 1 rfl) ?_
    refine lv_iconst (v := 2) hx hb dL_law_190 (by decide) ?_
    refine lv_iadd hx hb dL_law_191 ?_
    refine lv_topi (fun v_497 ev_497 => ?_)
    obtain rfl : v_497 = 2 := ev_497.trans (by decide)
    refine va_sld hx hb hX hbl hbA hS (vp_in_nI (n := 2) (N := 7) (by decide) (by decide)) dL_law_192 ?_
    refine lv_topi (fun v_498 ev_498 => ?_)
    obtain rfl : v_498 = (xs 2) := ev_498.trans rfl
    refine lv_aload_n hx hb dL_law_193 rfl (lv_at hl 5 rfl) ?_
    refine lv_iload hx hb dL_law_194 (lv_at hl 1 rfl) ?_
    refine lv_iconst (v := 3) hx hb dL_law_196 (by decide) ?_
    refine lv_iadd hx hb dL_law_197 ?_
    refine lv_topi (fun v_499 ev_499 => ?_)
    obtain rfl : v_499 = 3 := ev_499.trans (by decide)
    refine va_sld hx hb hX hbl hbA hS (vp_in_nI (n := 3) (N := 7) (by decide) (by decide)) dL_law_198 ?_
    refine lv_topi (fun v_500 ev_500 => ?_)
    obtain rfl : v_500 = (xs 3) := ev_500.trans rfl
    refine lv_aload_n hx hb dL_law_199 rfl (lv_at hl 5 rfl) ?_
    refine lv_iload hx hb dL_law_200 (lv_at hl 1 rfl) ?_
    refine lv_iconst (v := 4) hx hb dL_law_202 (by decide) ?_
    refine lv_iadd hx hb dL_law_203 ?_
    refine lv_topi (fun v_501 ev_501 => ?_)
    obtain rfl : v_501 = 4 := ev_501.trans (by decide)
    refine va_sld hx hb hX hbl hbA hS (vp_in_nI (n := 4) (N := 7) (by decide) (by decide)) dL_law_204 ?_
    refine lv_topi (fun v_502 ev_502 => ?_)
    obtain rfl : v_502 = (xs 4) := ev_502.trans rfl
    refine lv_aload_n hx hb dL_law_205 rfl (lv_at hl 5 rfl) ?_
    refine lv_iload hx hb dL_law_206 (lv_at hl 1 rfl) ?_
    refine lv_iconst (v := 5) hx hb dL_law_208 (by decide) ?_
    refine lv_iadd hx hb dL_law_209 ?_
    refine lv_topi (fun v_503 ev_503 => ?_)
    obtain rfl : v_503 = 5 := ev_503.trans (by decide)
    refine va_sld hx hb hX hbl hbA hS (vp_in_nI (n := 5) (N := 7) (by decide) (by decide)) dL_law_210 ?_
    refine lv_topi (fun v_504 ev_504 => ?_)
    obtain rfl : v_504 = (xs 5) := ev_504.trans rfl
    refine lv_aload_n hx hb dL_law_211 rfl (lv_at hl 5 rfl) ?_
    refine lv_iload hx hb dL_law_212 (lv_at hl 1 rfl) ?_
    refine lv_bipush (v := 6) hx hb dL_law_214 (by decide) ?_
    refine lv_iadd hx hb dL_law_216 ?_
    refine lv_topi (fun v_505 ev_505 => ?_)
    obtain rfl : v_505 = 6 := ev_505.trans (by decide)
    refine va_sld hx hb hX hbl hbA hS (vp_in_nI (n := 6) (N := 7) (by decide) (by decide)) dL_law_217 ?_
    refine lv_topi (fun v_506 ev_506 => ?_)
    obtain rfl : v_506 = (xs 6) := ev_506.trans rfl
    refine zcalliV (As := [.int (xs 1), .int (xs 2), .int (xs 3), .int (xs 4), .int (xs 5), .int (xs 6)]) (rest := []) (wc := [(mo, .inr (4, [.int 0, .int 0, .ref kT, .int 20, .int 60, .int 2000, .int 0, .int 0, .ref tb, .ref ld, .int 0, .ref lK, .ref lC, .int 0])), (kT, .inl (e1, 60, .inl (fun _ => 0)))]) (wr := [(tA, .inl (cT, 120, .inl (fun _ => 0))), (tb, .inl (e2, 366, .inl (fun _ => 0))), (ld, .inl (e3, 61, .inl (fun _ => 0))), (ou, .inl (cJ, 1, .inr (.inl (vp_updL (fun _ => 0) 0 (0 : Int32).toInt64))))]) ⟨hx, hb, hml, hown, hts⟩ (c_MaddKind_ok l D _ mo kT tb ld lK lC e1 (xs 1) (xs 2) (xs 3) (xs 4) (xs 5) (xs 6) h) (cwV 6 hts zgV_X4_addKind rfl rfl rfl (by decide +kernel) ⟨by rw [hRf]; exact Nat.le_of_ble_eq_true rfl, by rw [hRl]; exact Nat.le_of_ble_eq_true rfl⟩) hK hP hD hS hA [1, 2] [0, 3, 4, 5] rfl (by decide) rfl (by decide) (by decide) [2] rfl (ci := 4) (q0 := 1) rfl rfl rfl hl.1 rfl (Nat.le_of_ble_eq_true rfl) dL_law_218 ⟨by omega, by omega⟩ (fun r_507 u_508 H locs hwu_508 hnu_508 hzu_508 hK hP hD hS => ?_)
    have hK : va_K D vwCl [(cK, .object RX1), (cT, .int), (e1, .int), (e2, .int), (e3, .int), (cJ, .long), (cJ, .long)] s := hK
    have hP : va_P D vwCl ([(tA, .inl (cT, 120, .inl (fun _ => 0))), (tb, .inl (e2, 366, .inl (fun _ => 0))), (ld, .inl (e3, 61, .inl (fun _ => 0))), (ou, .inl (cJ, 1, .inr (.inl (vp_updL (fun _ => 0) 0 (0 : Int32).toInt64)))), (mo, .inr (4, [.int 0, .int 1, .ref kT, .int 20, .int 60, .int 2000, .int 0, .int 0, .ref tb, .ref ld, .int 0, .ref lK, .ref lC, .int 0]))]) H := hP
    have hD : va_D A ([(tA, .inl (cT, 120, .inl (fun _ => 0))), (tb, .inl (e2, 366, .inl (fun _ => 0))), (ld, .inl (e3, 61, .inl (fun _ => 0))), (ou, .inl (cJ, 1, .inr (.inl (vp_updL (fun _ => 0) 0 (0 : Int32).toInt64)))), (mo, .inr (4, [.int 0, .int 1, .ref kT, .int 20, .int 60, .int 2000, .int 0, .int 0, .ref tb, .ref ld, .int 0, .ref lK, .ref lC, .int 0]))]) := hD
    refine lv_topi (fun v_509 ev_509 => ?_)
    obtain rfl : v_509 = 0 := ev_509.trans hwu_508
    refine lv_istore (lv' := [(6, .int 0), (5, .int 0), (4, .int 0), (3, .ref ou), (2, .ref mo), (1, .ref o), (0, .ref b)]) hx hb dL_law_221 hl (by decide) rfl (fun ls hl => ?_)
    refine lv_aload_n hx hb dL_law_223 rfl (lv_at hl 4 rfl) ?_
    refine zrdV (As := []) (rest := []) (wc := [(mo, .inr (4, [.int 0, .int 1, .ref kT, .int 20, .int 60, .int 2000, .int 0, .int 0, .ref tb, .ref ld, .int 0, .ref lK, .ref lC, .int 0]))]) ⟨hx, hb, hml, hown, hts⟩ (c_thrown l D _ mo [.int 0, .int 1, .ref kT, .int 20, .int 60, .int 2000, .int 0, .int 0, .ref tb, .ref ld, .int 0, .ref lK, .ref lC, .int 0] 0 rfl) (cwV 0 hts zgV_X4_thrown rfl rfl rfl (by decide +kernel) ⟨by rw [hRf]; exact Nat.le_of_ble_eq_true rfl, by rw [hRl]; exact Nat.le_of_ble_eq_true rfl⟩) hK hP hD [4] rfl (by decide) [] rfl (ci := 4) (q0 := 4) rfl rfl rfl hl.1 rfl (Nat.le_of_ble_eq_true rfl) dL_law_224 ⟨by omega, by omega⟩ (fun r_510 hr_510 => ?_)
    refine lv_topi (fun v_511 ev_511 => ?_)
    obtain rfl : v_511 = 0 := ev_511.trans hr_510
    refine lv_iload hx hb dL_law_227 (lv_at hl 1 rfl) ?_
    refine lv_icmp_eq (tgt := 234) hx hb dL_law_229 (by decide) (fun c_512 => ?_) (fun c_512 => absurd (rfl) c_512)
    refine lv_iload hx hb dL_law_234 (lv_at hl 1 rfl) ?_
    refine lv_if_ne (tgt := 251) hx hb dL_law_236 (by decide) (fun c_513 => absurd (rfl) c_513) (fun c_513 => ?_)
    refine lv_aload_n hx hb dL_law_239 rfl (lv_at hl 3 rfl) ?_
    refine lv_iconst (v := 0) hx hb dL_law_240 (by decide) ?_
    refine va_lald hx hb hK hP 3 5 rfl rfl (vp_in_nI (n := 0) (N := 1) (by decide) (by decide)) dL_law_241 ?_
    refine lv_topl (fun v_514 ev_514 => ?_)
    obtain rfl : v_514 = (0 : Int32).toInt64 := ev_514.trans rfl
    refine lv_iload hx hb dL_law_242 (lv_at hl 0 rfl) ?_
    refine lv_i2l (v := (0 : Int32).toInt64) hx hb dL_law_244 rfl ?_
    refine W.lcmp hx hb dL_law_245 ?_
    refine lv_topi (fun v_515 ev_515 => ?_)
    obtain rfl : v_515 = 0 := ev_515.trans (zcmp_self _)
    refine lv_if_eq (tgt := 251) hx hb dL_law_246 (by decide) (fun c_516 => ?_) (fun c_516 => absurd (rfl) c_516)
    refine lv_goto (tgt := 1463) hx hb dL_law_251 (by decide) ?_
    have hl := lv_sub hl (l' := [(4, .int 0), (3, .ref ou), (2, .ref mo), (1, .ref o), (0, .ref b)]) [2, 3, 4, 5, 6] rfl
    refine W.widen (k := 2000) (n := 20000) (by omega) (by omega) ?_
    subst hAe
    exact znext C1 o mo ou H locs ls hS hl
  · have h_b := True.intro
    refine lv_aload_n hx hb dL_law_136 rfl (lv_at hl 3 rfl) ?_
    refine lv_aload_n hx hb dL_law_137 rfl (lv_at hl 4 rfl) ?_
    refine lv_iload hx hb dL_law_138 (lv_at hl 0 rfl) ?_
    refine lv_iconst (v := 1) hx hb dL_law_140 (by decide) ?_
    refine lv_iadd hx hb dL_law_141 ?_
    refine lv_topi (fun v_517 ev_517 => ?_)
    obtain rfl : v_517 = 1 := ev_517.trans (by decide)
    refine va_sld hx hb hX hbl hbA hS (vp_in_nI (n := 1) (N := 7) (by decide) (by decide)) dL_law_142 ?_
    refine lv_topi (fun v_518 ev_518 => ?_)
    obtain rfl : v_518 = (xs 1) := ev_518.trans rfl
    refine lv_aload_n hx hb dL_law_143 rfl (lv_at hl 4 rfl) ?_
    refine lv_iload hx hb dL_law_144 (lv_at hl 0 rfl) ?_
    refine lv_iconst (v := 2) hx hb dL_law_146 (by decide) ?_
    refine lv_iadd hx hb dL_law_147 ?_
    refine lv_topi (fun v_519 ev_519 => ?_)
    obtain rfl : v_519 = 2 := ev_519.trans (by decide)
    refine va_sld hx hb hX hbl hbA hS (vp_in_nI (n := 2) (N := 7) (by decide) (by decide)) dL_law_148 ?_
    refine lv_topi (fun v_520 ev_520 => ?_)
    obtain rfl : v_520 = (xs 2) := ev_520.trans rfl
    refine lv_aload_n hx hb dL_law_149 rfl (lv_at hl 4 rfl) ?_
    refine lv_iload hx hb dL_law_150 (lv_at hl 0 rfl) ?_
    refine lv_iconst (v := 3) hx hb dL_law_152 (by decide) ?_
    refine lv_iadd hx hb dL_law_153 ?_
    refine lv_topi (fun v_521 ev_521 => ?_)
    obtain rfl : v_521 = 3 := ev_521.trans (by decide)
    refine va_sld hx hb hX hbl hbA hS (vp_in_nI (n := 3) (N := 7) (by decide) (by decide)) dL_law_154 ?_
    refine lv_topi (fun v_522 ev_522 => ?_)
    obtain rfl : v_522 = (xs 3) := ev_522.trans rfl
    refine lv_aload_n hx hb dL_law_155 rfl (lv_at hl 4 rfl) ?_
    refine lv_iload hx hb dL_law_156 (lv_at hl 0 rfl) ?_
    refine lv_iconst (v := 4) hx hb dL_law_158 (by decide) ?_
    refine lv_iadd hx hb dL_law_159 ?_
    refine lv_topi (fun v_523 ev_523 => ?_)
    obtain rfl : v_523 = 4 := ev_523.trans (by decide)
    refine va_sld hx hb hX hbl hbA hS (vp_in_nI (n := 4) (N := 7) (by decide) (by decide)) dL_law_160 ?_
    refine lv_topi (fun v_524 ev_524 => ?_)
    obtain rfl : v_524 = (xs 4) := ev_524.trans rfl
    refine lv_aload_n hx hb dL_law_161 rfl (lv_at hl 4 rfl) ?_
    refine lv_iload hx hb dL_law_162 (lv_at hl 0 rfl) ?_
    refine lv_iconst (v := 5) hx hb dL_law_164 (by decide) ?_
    refine lv_iadd hx hb dL_law_165 ?_
    refine lv_topi (fun v_525 ev_525 => ?_)
    obtain rfl : v_525 = 5 := ev_525.trans (by decide)
    refine va_sld hx hb hX hbl hbA hS (vp_in_nI (n := 5) (N := 7) (by decide) (by decide)) dL_law_166 ?_
    refine lv_topi (fun v_526 ev_526 => ?_)
    obtain rfl : v_526 = (xs 5) := ev_526.trans rfl
    refine lv_aload_n hx hb dL_law_167 rfl (lv_at hl 4 rfl) ?_
    refine lv_iload hx hb dL_law_168 (lv_at hl 0 rfl) ?_
    refine lv_bipush (v := 6) hx hb dL_law_170 (by decide) ?_
    refine lv_iadd hx hb dL_law_172 ?_
    refine lv_topi (fun v_527 ev_527 => ?_)
    obtain rfl : v_527 = 6 := ev_527.trans (by decide)
    refine va_sld hx hb hX hbl hbA hS (vp_in_nI (n := 6) (N := 7) (by decide) (by decide)) dL_law_173 ?_
    refine lv_topi (fun v_528 ev_528 => ?_)
    obtain rfl : v_528 = (xs 6) := ev_528.trans rfl
    refine lv_aload_n hx hb dL_law_174 rfl (lv_at hl 1 rfl) ?_
    refine zcalliSWK (hh := [(0, 18, 21, 13), (0, 18, 25, 15)]) (As := [.ref o, .int (xs 1), .int (xs 2), .int (xs 3), .int (xs 4), .int (xs 5), .int (xs 6), .ref ou]) (rest := []) (wc := [(o, .inr (3, [.ref kA, .int 0, .int 20, .int 60, .int 2000, .int 0, .ref iA, .int 0, .int 0, .int 0, .ref tA, .ref tr, .ref lA, .int 0]))]) (wr := [(kA, .inl (cK, 10, .inr (.inr (.inr (.inr (fun _ => none)))))), (tA, .inl (cT, 120, .inl (fun _ => 0))), (mo, .inr (4, [.int 0, .int 0, .ref kT, .int 20, .int 60, .int 2000, .int 0, .int 0, .ref tb, .ref ld, .int 0, .ref lK, .ref lC, .int 0])), (kT, .inl (e1, 60, .inl (fun _ => 0))), (tb, .inl (e2, 366, .inl (fun _ => 0))), (ld, .inl (e3, 61, .inl (fun _ => 0))), (ou, .inl (cJ, 1, .inr (.inl (fun _ => 0))))]) ⟨hx, hb, hml, hown, hts⟩ (c_LaddKind_x l D _ hfl o kA iA tA tr lA ou (xs 1) (xs 2) (xs 3) (xs 4) (xs 5) (xs 6) h) (vx_cwSW 8 hts zgS_L_addKind rfl rfl rfl (by decide +kernel) ⟨by rw [hRf]; exact Nat.le_of_ble_eq_true rfl, by rw [hRl]; exact Nat.le_of_ble_eq_true rfl⟩) hKX hK hP hD hS hA [0] [1, 2, 3, 4, 5, 6, 7] rfl (by decide) rfl (by decide) (by decide) [] rfl rfl hl.1 rfl (Nat.le_of_ble_eq_true rfl) dL_law_175 ⟨by omega, by omega⟩ (fun r_529 u_530 H locs hwu_530 hnu_530 hzu_530 hK hP hD hS => ?_)
    have hK : va_K D vwCl [(cK, .object RX1), (cT, .int), (e1, .int), (e2, .int), (e3, .int), (cJ, .long)] s := hK
    have hP : va_P D vwCl ([(kA, .inl (cK, 10, .inr (.inr (.inr (.inr (fun _ => none)))))), (tA, .inl (cT, 120, .inl (fun _ => 0))), (mo, .inr (4, [.int 0, .int 0, .ref kT, .int 20, .int 60, .int 2000, .int 0, .int 0, .ref tb, .ref ld, .int 0, .ref lK, .ref lC, .int 0])), (kT, .inl (e1, 60, .inl (fun _ => 0))), (tb, .inl (e2, 366, .inl (fun _ => 0))), (ld, .inl (e3, 61, .inl (fun _ => 0))), (ou, .inl (cJ, 1, .inr (.inl (fun _ => 0))))]) H := hP
    have hD : va_D A ([(kA, .inl (cK, 10, .inr (.inr (.inr (.inr (fun _ => none)))))), (tA, .inl (cT, 120, .inl (fun _ => 0))), (mo, .inr (4, [.int 0, .int 0, .ref kT, .int 20, .int 60, .int 2000, .int 0, .int 0, .ref tb, .ref ld, .int 0, .ref lK, .ref lC, .int 0])), (kT, .inl (e1, 60, .inl (fun _ => 0))), (tb, .inl (e2, 366, .inl (fun _ => 0))), (ld, .inl (e3, 61, .inl (fun _ => 0))), (ou, .inl (cJ, 1, .inr (.inl (fun _ => 0))))]) := hD
    refine lv_topi (fun v_531 ev_531 => ?_)
    obtain rfl : v_531 = 1 := ev_531.trans hwu_530
    refine lv_istore (lv' := [(5, .int 1), (4, .int 0), (3, .ref ou), (2, .ref mo), (1, .ref o), (0, .ref b)]) hx hb dL_law_178 hl (by decide) rfl (fun ls hl => ?_)
    refine lv_aload_n hx hb dL_law_180 rfl (lv_at hl 3 rfl) ?_
    refine lv_aload_n hx hb dL_law_181 rfl (lv_at hl 5 rfl) ?_
    refine lv_iload hx hb dL_law_182 (lv_at hl 1 rfl) ?_
    refine lv_iconst (v := 1) hx hb dL_law_184 (by decide) ?_
    refine lv_iadd hx hb dL_law_185 ?_
    refine lv_topi (fun v_532 ev_532 => ?_)
    obtain rfl : v_532 = 1 := ev_532.trans (by decide)
    refine va_sld hx hb hX hbl hbA hS (vp_in_nI (n := 1) (N := 7) (by decide) (by decide)) dL_law_186 ?_
    refine lv_topi (fun v_533 ev_533 => ?_)
    obtain rfl : v_533 = (xs 1) := ev_533.trans rfl
    refine lv_aload_n hx hb dL_law_187 rfl (lv_at hl 5 rfl) ?_
    refine lv_iload hx hb dL_law_188 (lv_at hl 1 rfl) ?_
    refine lv_iconst (v := 2) hx hb dL_law_190 (by decide) ?_
    refine lv_iadd hx hb dL_law_191 ?_
    refine lv_topi (fun v_534 ev_534 => ?_)
    obtain rfl : v_534 = 2 := ev_534.trans (by decide)
    refine va_sld hx hb hX hbl hbA hS (vp_in_nI (n := 2) (N := 7) (by decide) (by decide)) dL_law_192 ?_
    refine lv_topi (fun v_535 ev_535 => ?_)
    obtain rfl : v_535 = (xs 2) := ev_535.trans rfl
    refine lv_aload_n hx hb dL_law_193 rfl (lv_at hl 5 rfl) ?_
    refine lv_iload hx hb dL_law_194 (lv_at hl 1 rfl) ?_
    refine lv_iconst (v := 3) hx hb dL_law_196 (by decide) ?_
    refine lv_iadd hx hb dL_law_197 ?_
    refine lv_topi (fun v_536 ev_536 => ?_)
    obtain rfl : v_536 = 3 := ev_536.trans (by decide)
    refine va_sld hx hb hX hbl hbA hS (vp_in_nI (n := 3) (N := 7) (by decide) (by decide)) dL_law_198 ?_
    refine lv_topi (fun v_537 ev_537 => ?_)
    obtain rfl : v_537 = (xs 3) := ev_537.trans rfl
    refine lv_aload_n hx hb dL_law_199 rfl (lv_at hl 5 rfl) ?_
    refine lv_iload hx hb dL_law_200 (lv_at hl 1 rfl) ?_
    refine lv_iconst (v := 4) hx hb dL_law_202 (by decide) ?_
    refine lv_iadd hx hb dL_law_203 ?_
    refine lv_topi (fun v_538 ev_538 => ?_)
    obtain rfl : v_538 = 4 := ev_538.trans (by decide)
    refine va_sld hx hb hX hbl hbA hS (vp_in_nI (n := 4) (N := 7) (by decide) (by decide)) dL_law_204 ?_
    refine lv_topi (fun v_539 ev_539 => ?_)
    obtain rfl : v_539 = (xs 4) := ev_539.trans rfl
    refine lv_aload_n hx hb dL_law_205 rfl (lv_at hl 5 rfl) ?_
    refine lv_iload hx hb dL_law_206 (lv_at hl 1 rfl) ?_
    refine lv_iconst (v := 5) hx hb dL_law_208 (by decide) ?_
    refine lv_iadd hx hb dL_law_209 ?_
    refine lv_topi (fun v_540 ev_540 => ?_)
    obtain rfl : v_540 = 5 := ev_540.trans (by decide)
    refine va_sld hx hb hX hbl hbA hS (vp_in_nI (n := 5) (N := 7) (by decide) (by decide)) dL_law_210 ?_
    refine lv_topi (fun v_541 ev_541 => ?_)
    obtain rfl : v_541 = (xs 5) := ev_541.trans rfl
    refine lv_aload_n hx hb dL_law_211 rfl (lv_at hl 5 rfl) ?_
    refine lv_iload hx hb dL_law_212 (lv_at hl 1 rfl) ?_
    refine lv_bipush (v := 6) hx hb dL_law_214 (by decide) ?_
    refine lv_iadd hx hb dL_law_216 ?_
    refine lv_topi (fun v_542 ev_542 => ?_)
    obtain rfl : v_542 = 6 := ev_542.trans (by decide)
    refine va_sld hx hb hX hbl hbA hS (vp_in_nI (n := 6) (N := 7) (by decide) (by decide)) dL_law_217 ?_
    refine lv_topi (fun v_543 ev_543 => ?_)
    obtain rfl : v_543 = (xs 6) := ev_543.trans rfl
    refine zcalliV (As := [.int (xs 1), .int (xs 2), .int (xs 3), .int (xs 4), .int (xs 5), .int (xs 6)]) (rest := []) (wc := [(mo, .inr (4, [.int 0, .int 0, .ref kT, .int 20, .int 60, .int 2000, .int 0, .int 0, .ref tb, .ref ld, .int 0, .ref lK, .ref lC, .int 0]))]) (wr := [(kA, .inl (cK, 10, .inr (.inr (.inr (.inr (fun _ => none)))))), (tA, .inl (cT, 120, .inl (fun _ => 0))), (kT, .inl (e1, 60, .inl (fun _ => 0))), (tb, .inl (e2, 366, .inl (fun _ => 0))), (ld, .inl (e3, 61, .inl (fun _ => 0))), (ou, .inl (cJ, 1, .inr (.inl (fun _ => 0))))]) ⟨hx, hb, hml, hown, hts⟩ (c_MaddKind_x l D _ mo kT tb ld lK lC (xs 1) (xs 2) (xs 3) (xs 4) (xs 5) (xs 6) h) (cwV 6 hts zgV_X4_addKind rfl rfl rfl (by decide +kernel) ⟨by rw [hRf]; exact Nat.le_of_ble_eq_true rfl, by rw [hRl]; exact Nat.le_of_ble_eq_true rfl⟩) hK hP hD hS hA [2] [0, 1, 3, 4, 5, 6] rfl (by decide) rfl (by decide) (by decide) [] rfl (ci := 4) (q0 := 2) rfl rfl rfl hl.1 rfl (Nat.le_of_ble_eq_true rfl) dL_law_218 ⟨by omega, by omega⟩ (fun r_544 u_545 H locs hwu_545 hnu_545 hzu_545 hK hP hD hS => ?_)
    have hK : va_K D vwCl [(cK, .object RX1), (cT, .int), (e1, .int), (e2, .int), (e3, .int), (cJ, .long)] s := hK
    have hP : va_P D vwCl ([(kA, .inl (cK, 10, .inr (.inr (.inr (.inr (fun _ => none)))))), (tA, .inl (cT, 120, .inl (fun _ => 0))), (kT, .inl (e1, 60, .inl (fun _ => 0))), (tb, .inl (e2, 366, .inl (fun _ => 0))), (ld, .inl (e3, 61, .inl (fun _ => 0))), (ou, .inl (cJ, 1, .inr (.inl (fun _ => 0)))), (mo, .inr (4, [.int 1, .int 0, .ref kT, .int 20, .int 60, .int 2000, .int 0, .int 0, .ref tb, .ref ld, .int 0, .ref lK, .ref lC, .int 0]))]) H := hP
    have hD : va_D A ([(kA, .inl (cK, 10, .inr (.inr (.inr (.inr (fun _ => none)))))), (tA, .inl (cT, 120, .inl (fun _ => 0))), (kT, .inl (e1, 60, .inl (fun _ => 0))), (tb, .inl (e2, 366, .inl (fun _ => 0))), (ld, .inl (e3, 61, .inl (fun _ => 0))), (ou, .inl (cJ, 1, .inr (.inl (fun _ => 0)))), (mo, .inr (4, [.int 1, .int 0, .ref kT, .int 20, .int 60, .int 2000, .int 0, .int 0, .ref tb, .ref ld, .int 0, .ref lK, .ref lC, .int 0]))]) := hD
    refine lv_topi (fun v_546 ev_546 => ?_)
    obtain rfl : v_546 = 0 := ev_546.trans hwu_545
    refine lv_istore (lv' := [(6, .int 0), (5, .int 1), (4, .int 0), (3, .ref ou), (2, .ref mo), (1, .ref o), (0, .ref b)]) hx hb dL_law_221 hl (by decide) rfl (fun ls hl => ?_)
    refine lv_aload_n hx hb dL_law_223 rfl (lv_at hl 4 rfl) ?_
    refine zrdV (As := []) (rest := []) (wc := [(mo, .inr (4, [.int 1, .int 0, .ref kT, .int 20, .int 60, .int 2000, .int 0, .int 0, .ref tb, .ref ld, .int 0, .ref lK, .ref lC, .int 0]))]) ⟨hx, hb, hml, hown, hts⟩ (c_thrown l D _ mo [.int 1, .int 0, .ref kT, .int 20, .int 60, .int 2000, .int 0, .int 0, .ref tb, .ref ld, .int 0, .ref lK, .ref lC, .int 0] 1 rfl) (cwV 0 hts zgV_X4_thrown rfl rfl rfl (by decide +kernel) ⟨by rw [hRf]; exact Nat.le_of_ble_eq_true rfl, by rw [hRl]; exact Nat.le_of_ble_eq_true rfl⟩) hK hP hD [6] rfl (by decide) [] rfl (ci := 4) (q0 := 6) rfl rfl rfl hl.1 rfl (Nat.le_of_ble_eq_true rfl) dL_law_224 ⟨by omega, by omega⟩ (fun r_547 hr_547 => ?_)
    refine lv_topi (fun v_548 ev_548 => ?_)
    obtain rfl : v_548 = 1 := ev_548.trans hr_547
    refine lv_iload hx hb dL_law_227 (lv_at hl 1 rfl) ?_
    refine lv_icmp_eq (tgt := 234) hx hb dL_law_229 (by decide) (fun c_549 => ?_) (fun c_549 => absurd (rfl) c_549)
    refine lv_iload hx hb dL_law_234 (lv_at hl 1 rfl) ?_
    refine lv_if_ne (tgt := 251) hx hb dL_law_236 (by decide) (fun c_550 => ?_) (fun c_550 => absurd c_550 (by decide))
    refine lv_goto (tgt := 1463) hx hb dL_law_251 (by decide) ?_
    have hl := lv_sub hl (l' := [(4, .int 0), (3, .ref ou), (2, .ref mo), (1, .ref o), (0, .ref b)]) [2, 3, 4, 5, 6] rfl
    refine W.widen (k := 2000) (n := 20000) (by omega) (by omega) ?_
    subst hAe
    exact znext C1 o mo ou H locs ls hS hl
