set_option maxHeartbeats 4000000 in
set_option maxRecDepth 100000 in
theorem zc_reason {p : Program} {e : Env} {s : State} {m : MethodId} {below : List Frame} {meth : Method} {c : Code} {l : Launch} {b : Nat} {xs : Nat → Int32} (C0 : lw_At p s m meth c b 7 xs) (hfl : l.stackTraces = false) {D : zG} (hKX : zKX (fun q : Nat => s.heap.size ≤ q) s) (o kA iA tA tr lA mo kT tb ld lK lC ou : Nat) (cK cT e1 e2 e3 cJ : ClassId) (H : Heap) (locs : List Loc) (ls : Array Slot) (hK : va_K D vwCl [(cK, .object RX1), (cT, .int), (e1, .int), (e2, .int), (e3, .int), (cJ, .long)] s) (hP : va_P D vwCl ([(o, .inr (3, [.ref kA, .int 0, .int 20, .int 60, .int 2000, .int 0, .ref iA, .int 0, .int 0, .int 0, .ref tA, .ref tr, .ref lA, .int 0])), (kA, .inl (cK, 10, .inr (.inr (.inr (.inr (fun _ => none)))))), (tA, .inl (cT, 120, .inl (fun _ => 0))), (mo, .inr (4, [.int 0, .int 0, .ref kT, .int 20, .int 60, .int 2000, .int 0, .int 0, .ref tb, .ref ld, .int 0, .ref lK, .ref lC, .int 0])), (kT, .inl (e1, 60, .inl (fun _ => 0))), (tb, .inl (e2, 366, .inl (fun _ => 0))), (ld, .inl (e3, 61, .inl (fun _ => 0))), (ou, .inl (cJ, 1, .inr (.inl (fun _ => 0))))]) H) (hD : va_D (fun q : Nat => s.heap.size ≤ q) ([(o, .inr (3, [.ref kA, .int 0, .int 20, .int 60, .int 2000, .int 0, .ref iA, .int 0, .int 0, .int 0, .ref tA, .ref tr, .ref lA, .int 0])), (kA, .inl (cK, 10, .inr (.inr (.inr (.inr (fun _ => none)))))), (tA, .inl (cT, 120, .inl (fun _ => 0))), (mo, .inr (4, [.int 0, .int 0, .ref kT, .int 20, .int 60, .int 2000, .int 0, .int 0, .ref tb, .ref ld, .int 0, .ref lK, .ref lC, .int 0])), (kT, .inl (e1, 60, .inl (fun _ => 0))), (tb, .inl (e2, 366, .inl (fun _ => 0))), (ld, .inl (e3, 61, .inl (fun _ => 0))), (ou, .inl (cJ, 1, .inr (.inl (fun _ => 0))))])) (hS : va_S (fun q : Nat => s.heap.size ≤ q) s.heap H locs) (hl : lv_has ls 9 [(4, .int 0), (3, .ref ou), (2, .ref mo), (1, .ref o), (0, .ref b)]) : W p l e room_1 s m #[Value.ref b] below meth c H locs 1000 10000 (lw_Z below #[Value.ref b] s) (F0 m 418 ls []) := by
  have C1 := C0
  obtain ⟨hx, hb, hr, hml, hown, hts, hX, hbl, hlocks, hgv⟩ := C0
  have hA : ∀ q : Nat, s.heap.size ≤ q → (fun q : Nat => s.heap.size ≤ q) q := fun _ h => h
  have hbA : ¬ (fun q : Nat => s.heap.size ≤ q) b := Nat.not_le.mpr hbl
  have hRf : room_1.frames = 13 := rfl
  have hRc : room_1.cells = 600002 := rfl
  have hRs : room_1.slots = 7302232 := rfl
  have hRl : room_1.locals = 522 := rfl
  generalize hAe : (fun q : Nat => s.heap.size ≤ q) = A at hP hD hS hA hbA hKX
  refine lv_aload_n hx hb dL_law_418 rfl (lv_at hl 3 rfl) ?_
  refine lv_aload_n hx hb dL_law_419 rfl (lv_at hl 4 rfl) ?_
  refine lv_iload hx hb dL_law_420 (lv_at hl 0 rfl) ?_
  refine lv_iconst (v := 1) hx hb dL_law_422 (by decide) ?_
  refine lv_iadd hx hb dL_law_423 ?_
  refine lv_topi (fun v_3 ev_3 => ?_)
  obtain rfl : v_3 = 1 := ev_3.trans (by decide)
  refine va_sld hx hb hX hbl hbA hS (vp_in_nI (n := 1) (N := 7) (by decide) (by decide)) dL_law_424 ?_
  refine lv_topi (fun v_4 ev_4 => ?_)
  obtain rfl : v_4 = (xs 1) := ev_4.trans rfl
  refine lv_aload_n hx hb dL_law_425 rfl (lv_at hl 4 rfl) ?_
  refine lv_iload hx hb dL_law_426 (lv_at hl 0 rfl) ?_
  refine lv_iconst (v := 2) hx hb dL_law_428 (by decide) ?_
  refine lv_iadd hx hb dL_law_429 ?_
  refine lv_topi (fun v_5 ev_5 => ?_)
  obtain rfl : v_5 = 2 := ev_5.trans (by decide)
  refine va_sld hx hb hX hbl hbA hS (vp_in_nI (n := 2) (N := 7) (by decide) (by decide)) dL_law_430 ?_
  refine lv_topi (fun v_6 ev_6 => ?_)
  obtain rfl : v_6 = (xs 2) := ev_6.trans rfl
  refine lv_aload_n hx hb dL_law_431 rfl (lv_at hl 4 rfl) ?_
  refine lv_iload hx hb dL_law_432 (lv_at hl 0 rfl) ?_
  refine lv_iconst (v := 3) hx hb dL_law_434 (by decide) ?_
  refine lv_iadd hx hb dL_law_435 ?_
  refine lv_topi (fun v_7 ev_7 => ?_)
  obtain rfl : v_7 = 3 := ev_7.trans (by decide)
  refine va_sld hx hb hX hbl hbA hS (vp_in_nI (n := 3) (N := 7) (by decide) (by decide)) dL_law_436 ?_
  refine lv_topi (fun v_8 ev_8 => ?_)
  obtain rfl : v_8 = (xs 3) := ev_8.trans rfl
  refine lv_aload_n hx hb dL_law_437 rfl (lv_at hl 4 rfl) ?_
  refine lv_iload hx hb dL_law_438 (lv_at hl 0 rfl) ?_
  refine lv_iconst (v := 4) hx hb dL_law_440 (by decide) ?_
  refine lv_iadd hx hb dL_law_441 ?_
  refine lv_topi (fun v_9 ev_9 => ?_)
  obtain rfl : v_9 = 4 := ev_9.trans (by decide)
  refine va_sld hx hb hX hbl hbA hS (vp_in_nI (n := 4) (N := 7) (by decide) (by decide)) dL_law_442 ?_
  refine lv_topi (fun v_10 ev_10 => ?_)
  obtain rfl : v_10 = (xs 4) := ev_10.trans rfl
  refine lv_if_eq (tgt := 450) hx hb dL_law_443 (by decide) (fun c_11 => ?_) (fun c_11 => ?_)
  · have h_b := True.intro
    refine lv_iconst (v := 0) hx hb dL_law_450 (by decide) ?_
    refine lv_aload_n hx hb dL_law_451 rfl (lv_at hl 1 rfl) ?_
    refine zcalliSWK (hh := [(0, 14, 17, 25)]) (As := [.ref o, .int (xs 1), .int (xs 2), .int (xs 3), .int 0, .ref ou]) (rest := []) (wc := [(o, .inr (3, [.ref kA, .int 0, .int 20, .int 60, .int 2000, .int 0, .ref iA, .int 0, .int 0, .int 0, .ref tA, .ref tr, .ref lA, .int 0]))]) (wr := [(kA, .inl (cK, 10, .inr (.inr (.inr (.inr (fun _ => none)))))), (tA, .inl (cT, 120, .inl (fun _ => 0))), (mo, .inr (4, [.int 0, .int 0, .ref kT, .int 20, .int 60, .int 2000, .int 0, .int 0, .ref tb, .ref ld, .int 0, .ref lK, .ref lC, .int 0])), (kT, .inl (e1, 60, .inl (fun _ => 0))), (tb, .inl (e2, 366, .inl (fun _ => 0))), (ld, .inl (e3, 61, .inl (fun _ => 0))), (ou, .inl (cJ, 1, .inr (.inl (fun _ => 0))))]) ⟨hx, hb, hml, hown, hts⟩ (c_Lreason_x l D _ hfl o kA iA tA tr lA ou (xs 1) (xs 2) (xs 3) 0) (vx_cwSW 6 hts zgS_L_reason rfl rfl rfl (by decide +kernel) ⟨by rw [hRf]; exact Nat.le_of_ble_eq_true rfl, by rw [hRl]; exact Nat.le_of_ble_eq_true rfl⟩) hKX hK hP hD hS hA [0] [1, 2, 3, 4, 5, 6, 7] rfl (by decide) rfl (by decide) (by decide) [] rfl rfl hl.1 rfl (Nat.le_of_ble_eq_true rfl) dL_law_452 ⟨by omega, by omega⟩ (fun r_12 u_13 H locs hwu_13 hnu_13 hzu_13 hK hP hD hS => ?_)
    have hK : va_K D vwCl [(cK, .object RX1), (cT, .int), (e1, .int), (e2, .int), (e3, .int), (cJ, .long)] s := hK
    have hP : va_P D vwCl ([(kA, .inl (cK, 10, .inr (.inr (.inr (.inr (fun _ => none)))))), (tA, .inl (cT, 120, .inl (fun _ => 0))), (mo, .inr (4, [.int 0, .int 0, .ref kT, .int 20, .int 60, .int 2000, .int 0, .int 0, .ref tb, .ref ld, .int 0, .ref lK, .ref lC, .int 0])), (kT, .inl (e1, 60, .inl (fun _ => 0))), (tb, .inl (e2, 366, .inl (fun _ => 0))), (ld, .inl (e3, 61, .inl (fun _ => 0))), (ou, .inl (cJ, 1, .inr (.inl (fun _ => 0))))]) H := hP
    have hD : va_D A ([(kA, .inl (cK, 10, .inr (.inr (.inr (.inr (fun _ => none)))))), (tA, .inl (cT, 120, .inl (fun _ => 0))), (mo, .inr (4, [.int 0, .int 0, .ref kT, .int 20, .int 60, .int 2000, .int 0, .int 0, .ref tb, .ref ld, .int 0, .ref lK, .ref lC, .int 0])), (kT, .inl (e1, 60, .inl (fun _ => 0))), (tb, .inl (e2, 366, .inl (fun _ => 0))), (ld, .inl (e3, 61, .inl (fun _ => 0))), (ou, .inl (cJ, 1, .inr (.inl (fun _ => 0))))]) := hD
    refine lv_topi (fun v_14 ev_14 => ?_)
    obtain rfl : v_14 = 1 := ev_14.trans hwu_13
    refine lv_istore (lv' := [(5, .int 1), (4, .int 0), (3, .ref ou), (2, .ref mo), (1, .ref o), (0, .ref b)]) hx hb dL_law_455 hl (by decide) rfl (fun ls hl => ?_)
    refine lv_aload_n hx hb dL_law_457 rfl (lv_at hl 3 rfl) ?_
    refine lv_aload_n hx hb dL_law_458 rfl (lv_at hl 5 rfl) ?_
    refine lv_iload hx hb dL_law_459 (lv_at hl 1 rfl) ?_
    refine lv_iconst (v := 1) hx hb dL_law_461 (by decide) ?_
    refine lv_iadd hx hb dL_law_462 ?_
    refine lv_topi (fun v_15 ev_15 => ?_)
    obtain rfl : v_15 = 1 := ev_15.trans (by decide)
    refine va_sld hx hb hX hbl hbA hS (vp_in_nI (n := 1) (N := 7) (by decide) (by decide)) dL_law_463 ?_
    refine lv_topi (fun v_16 ev_16 => ?_)
    obtain rfl : v_16 = (xs 1) := ev_16.trans rfl
    refine lv_aload_n hx hb dL_law_464 rfl (lv_at hl 5 rfl) ?_
    refine lv_iload hx hb dL_law_465 (lv_at hl 1 rfl) ?_
    refine lv_iconst (v := 2) hx hb dL_law_467 (by decide) ?_
    refine lv_iadd hx hb dL_law_468 ?_
    refine lv_topi (fun v_17 ev_17 => ?_)
    obtain rfl : v_17 = 2 := ev_17.trans (by decide)
    refine va_sld hx hb hX hbl hbA hS (vp_in_nI (n := 2) (N := 7) (by decide) (by decide)) dL_law_469 ?_
    refine lv_topi (fun v_18 ev_18 => ?_)
    obtain rfl : v_18 = (xs 2) := ev_18.trans rfl
    refine lv_aload_n hx hb dL_law_470 rfl (lv_at hl 5 rfl) ?_
    refine lv_iload hx hb dL_law_471 (lv_at hl 1 rfl) ?_
    refine lv_iconst (v := 3) hx hb dL_law_473 (by decide) ?_
    refine lv_iadd hx hb dL_law_474 ?_
    refine lv_topi (fun v_19 ev_19 => ?_)
    obtain rfl : v_19 = 3 := ev_19.trans (by decide)
    refine va_sld hx hb hX hbl hbA hS (vp_in_nI (n := 3) (N := 7) (by decide) (by decide)) dL_law_475 ?_
    refine lv_topi (fun v_20 ev_20 => ?_)
    obtain rfl : v_20 = (xs 3) := ev_20.trans rfl
    refine lv_aload_n hx hb dL_law_476 rfl (lv_at hl 5 rfl) ?_
    refine lv_iload hx hb dL_law_477 (lv_at hl 1 rfl) ?_
    refine lv_iconst (v := 4) hx hb dL_law_479 (by decide) ?_
    refine lv_iadd hx hb dL_law_480 ?_
    refine lv_topi (fun v_21 ev_21 => ?_)
    obtain rfl : v_21 = 4 := ev_21.trans (by decide)
    refine va_sld hx hb hX hbl hbA hS (vp_in_nI (n := 4) (N := 7) (by decide) (by decide)) dL_law_481 ?_
    refine lv_topi (fun v_22 ev_22 => ?_)
    obtain rfl : v_22 = (xs 4) := ev_22.trans rfl
    refine lv_if_eq (tgt := 489) hx hb dL_law_482 (by decide) (fun c_23 => ?_) (fun c_23 => absurd (c_11) c_23)
    refine lv_iconst (v := 0) hx hb dL_law_489 (by decide) ?_
    refine zcalliV (As := [.int (xs 1), .int (xs 2), .int (xs 3), .int 0]) (rest := []) (wc := [(mo, .inr (4, [.int 0, .int 0, .ref kT, .int 20, .int 60, .int 2000, .int 0, .int 0, .ref tb, .ref ld, .int 0, .ref lK, .ref lC, .int 0]))]) (wr := [(kA, .inl (cK, 10, .inr (.inr (.inr (.inr (fun _ => none)))))), (tA, .inl (cT, 120, .inl (fun _ => 0))), (kT, .inl (e1, 60, .inl (fun _ => 0))), (tb, .inl (e2, 366, .inl (fun _ => 0))), (ld, .inl (e3, 61, .inl (fun _ => 0))), (ou, .inl (cJ, 1, .inr (.inl (fun _ => 0))))]) ⟨hx, hb, hml, hown, hts⟩ (c_Mreason l D _ mo kT tb ld lK lC (xs 1) (xs 2) (xs 3) 0) (cwV 4 hts zgV_X4_reason rfl rfl rfl (by decide +kernel) ⟨by rw [hRf]; exact Nat.le_of_ble_eq_true rfl, by rw [hRl]; exact Nat.le_of_ble_eq_true rfl⟩) hK hP hD hS hA [2] [0, 1, 3, 4, 5, 6] rfl (by decide) rfl (by decide) (by decide) [] rfl (ci := 4) (q0 := 2) rfl rfl rfl hl.1 rfl (Nat.le_of_ble_eq_true rfl) dL_law_490 ⟨by omega, by omega⟩ (fun r_24 u_25 H locs hwu_25 hnu_25 hzu_25 hK hP hD hS => ?_)
    have hK : va_K D vwCl [(cK, .object RX1), (cT, .int), (e1, .int), (e2, .int), (e3, .int), (cJ, .long)] s := hK
    have hP : va_P D vwCl ([(kA, .inl (cK, 10, .inr (.inr (.inr (.inr (fun _ => none)))))), (tA, .inl (cT, 120, .inl (fun _ => 0))), (kT, .inl (e1, 60, .inl (fun _ => 0))), (tb, .inl (e2, 366, .inl (fun _ => 0))), (ld, .inl (e3, 61, .inl (fun _ => 0))), (ou, .inl (cJ, 1, .inr (.inl (fun _ => 0)))), (mo, .inr (4, [.int 1, .int 0, .ref kT, .int 20, .int 60, .int 2000, .int 0, .int 0, .ref tb, .ref ld, .int 0, .ref lK, .ref lC, .int 0]))]) H := hP
    have hD : va_D A ([(kA, .inl (cK, 10, .inr (.inr (.inr (.inr (fun _ => none)))))), (tA, .inl (cT, 120, .inl (fun _ => 0))), (kT, .inl (e1, 60, .inl (fun _ => 0))), (tb, .inl (e2, 366, .inl (fun _ => 0))), (ld, .inl (e3, 61, .inl (fun _ => 0))), (ou, .inl (cJ, 1, .inr (.inl (fun _ => 0)))), (mo, .inr (4, [.int 1, .int 0, .ref kT, .int 20, .int 60, .int 2000, .int 0, .int 0, .ref tb, .ref ld, .int 0, .ref lK, .ref lC, .int 0]))]) := hD
    refine lv_topi (fun v_26 ev_26 => ?_)
    obtain rfl : v_26 = 0 := ev_26.trans hwu_25
    refine lv_istore (lv' := [(6, .int 0), (5, .int 1), (4, .int 0), (3, .ref ou), (2, .ref mo), (1, .ref o), (0, .ref b)]) hx hb dL_law_493 hl (by decide) rfl (fun ls hl => ?_)
    refine lv_aload_n hx hb dL_law_495 rfl (lv_at hl 4 rfl) ?_
    refine zrdV (As := []) (rest := []) (wc := [(mo, .inr (4, [.int 1, .int 0, .ref kT, .int 20, .int 60, .int 2000, .int 0, .int 0, .ref tb, .ref ld, .int 0, .ref lK, .ref lC, .int 0]))]) ⟨hx, hb, hml, hown, hts⟩ (c_thrown l D _ mo [.int 1, .int 0, .ref kT, .int 20, .int 60, .int 2000, .int 0, .int 0, .ref tb, .ref ld, .int 0, .ref lK, .ref lC, .int 0] 1 rfl) (cwV 0 hts zgV_X4_thrown rfl rfl rfl (by decide +kernel) ⟨by rw [hRf]; exact Nat.le_of_ble_eq_true rfl, by rw [hRl]; exact Nat.le_of_ble_eq_true rfl⟩) hK hP hD [6] rfl (by decide) [] rfl (ci := 4) (q0 := 6) rfl rfl rfl hl.1 rfl (Nat.le_of_ble_eq_true rfl) dL_law_496 ⟨by omega, by omega⟩ (fun r_27 hr_27 => ?_)
    refine lv_topi (fun v_28 ev_28 => ?_)
    obtain rfl : v_28 = 1 := ev_28.trans hr_27
    refine lv_iload hx hb dL_law_499 (lv_at hl 1 rfl) ?_
    refine lv_icmp_eq (tgt := 506) hx hb dL_law_501 (by decide) (fun c_29 => ?_) (fun c_29 => absurd (rfl) c_29)
    refine lv_iload hx hb dL_law_506 (lv_at hl 1 rfl) ?_
    refine lv_if_ne (tgt := 523) hx hb dL_law_508 (by decide) (fun c_30 => ?_) (fun c_30 => absurd c_30 (by decide))
    refine lv_goto (tgt := 1463) hx hb dL_law_523 (by decide) ?_
    have hl := lv_sub hl (l' := [(4, .int 0), (3, .ref ou), (2, .ref mo), (1, .ref o), (0, .ref b)]) [2, 3, 4, 5, 6] rfl
    refine W.widen (k := 2000) (n := 20000) (by omega) (by omega) ?_
    subst hAe
    exact znext C1 o mo ou H locs ls hS hl
  · have h_b := True.intro
    refine lv_iconst (v := 1) hx hb dL_law_446 (by decide) ?_
    refine lv_goto (tgt := 451) hx hb dL_law_447 (by decide) ?_
    refine lv_aload_n hx hb dL_law_451 rfl (lv_at hl 1 rfl) ?_
    refine zcalliSWK (hh := [(0, 14, 17, 25)]) (As := [.ref o, .int (xs 1), .int (xs 2), .int (xs 3), .int 1, .ref ou]) (rest := []) (wc := [(o, .inr (3, [.ref kA, .int 0, .int 20, .int 60, .int 2000, .int 0, .ref iA, .int 0, .int 0, .int 0, .ref tA, .ref tr, .ref lA, .int 0]))]) (wr := [(kA, .inl (cK, 10, .inr (.inr (.inr (.inr (fun _ => none)))))), (tA, .inl (cT, 120, .inl (fun _ => 0))), (mo, .inr (4, [.int 0, .int 0, .ref kT, .int 20, .int 60, .int 2000, .int 0, .int 0, .ref tb, .ref ld, .int 0, .ref lK, .ref lC, .int 0])), (kT, .inl (e1, 60, .inl (fun _ => 0))), (tb, .inl (e2, 366, .inl (fun _ => 0))), (ld, .inl (e3, 61, .inl (fun _ => 0))), (ou, .inl (cJ, 1, .inr (.inl (fun _ => 0))))]) ⟨hx, hb, hml, hown, hts⟩ (c_Lreason_x l D _ hfl o kA iA tA tr lA ou (xs 1) (xs 2) (xs 3) 1) (vx_cwSW 6 hts zgS_L_reason rfl rfl rfl (by decide +kernel) ⟨by rw [hRf]; exact Nat.le_of_ble_eq_true rfl, by rw [hRl]; exact Nat.le_of_ble_eq_true rfl⟩) hKX hK hP hD hS hA [0] [1, 2, 3, 4, 5, 6, 7] rfl (by decide) rfl (by decide) (by decide) [] rfl rfl hl.1 rfl (Nat.le_of_ble_eq_true rfl) dL_law_452 ⟨by omega, by omega⟩ (fun r_31 u_32 H locs hwu_32 hnu_32 hzu_32 hK hP hD hS => ?_)
    have hK : va_K D vwCl [(cK, .object RX1), (cT, .int), (e1, .int), (e2, .int), (e3, .int), (cJ, .long)] s := hK
    have hP : va_P D vwCl ([(kA, .inl (cK, 10, .inr (.inr (.inr (.inr (fun _ => none)))))), (tA, .inl (cT, 120, .inl (fun _ => 0))), (mo, .inr (4, [.int 0, .int 0, .ref kT, .int 20, .int 60, .int 2000, .int 0, .int 0, .ref tb, .ref ld, .int 0, .ref lK, .ref lC, .int 0])), (kT, .inl (e1, 60, .inl (fun _ => 0))), (tb, .inl (e2, 366, .inl (fun _ => 0))), (ld, .inl (e3, 61, .inl (fun _ => 0))), (ou, .inl (cJ, 1, .inr (.inl (fun _ => 0))))]) H := hP
    have hD : va_D A ([(kA, .inl (cK, 10, .inr (.inr (.inr (.inr (fun _ => none)))))), (tA, .inl (cT, 120, .inl (fun _ => 0))), (mo, .inr (4, [.int 0, .int 0, .ref kT, .int 20, .int 60, .int 2000, .int 0, .int 0, .ref tb, .ref ld, .int 0, .ref lK, .ref lC, .int 0])), (kT, .inl (e1, 60, .inl (fun _ => 0))), (tb, .inl (e2, 366, .inl (fun _ => 0))), (ld, .inl (e3, 61, .inl (fun _ => 0))), (ou, .inl (cJ, 1, .inr (.inl (fun _ => 0))))]) := hD
    refine lv_topi (fun v_33 ev_33 => ?_)
    obtain rfl : v_33 = 1 := ev_33.trans hwu_32
    refine lv_istore (lv' := [(5, .int 1), (4, .int 0), (3, .ref ou), (2, .ref mo), (1, .ref o), (0, .ref b)]) hx hb dL_law_455 hl (by decide) rfl (fun ls hl => ?_)
    refine lv_aload_n hx hb dL_law_457 rfl (lv_at hl 3 rfl) ?_
    refine lv_aload_n hx hb dL_law_458 rfl (lv_at hl 5 rfl) ?_
    refine lv_iload hx hb dL_law_459 (lv_at hl 1 rfl) ?_
    refine lv_iconst (v := 1) hx hb dL_law_461 (by decide) ?_
    refine lv_iadd hx hb dL_law_462 ?_
    refine lv_topi (fun v_34 ev_34 => ?_)
    obtain rfl : v_34 = 1 := ev_34.trans (by decide)
    refine va_sld hx hb hX hbl hbA hS (vp_in_nI (n := 1) (N := 7) (by decide) (by decide)) dL_law_463 ?_
    refine lv_topi (fun v_35 ev_35 => ?_)
    obtain rfl : v_35 = (xs 1) := ev_35.trans rfl
    refine lv_aload_n hx hb dL_law_464 rfl (lv_at hl 5 rfl) ?_
    refine lv_iload hx hb dL_law_465 (lv_at hl 1 rfl) ?_
    refine lv_iconst (v := 2) hx hb dL_law_467 (by decide) ?_
    refine lv_iadd hx hb dL_law_468 ?_
    refine lv_topi (fun v_36 ev_36 => ?_)
    obtain rfl : v_36 = 2 := ev_36.trans (by decide)
    refine va_sld hx hb hX hbl hbA hS (vp_in_nI (n := 2) (N := 7) (by decide) (by decide)) dL_law_469 ?_
    refine lv_topi (fun v_37 ev_37 => ?_)
    obtain rfl : v_37 = (xs 2) := ev_37.trans rfl
    refine lv_aload_n hx hb dL_law_470 rfl (lv_at hl 5 rfl) ?_
    refine lv_iload hx hb dL_law_471 (lv_at hl 1 rfl) ?_
    refine lv_iconst (v := 3) hx hb dL_law_473 (by decide) ?_
    refine lv_iadd hx hb dL_law_474 ?_
    refine lv_topi (fun v_38 ev_38 => ?_)
    obtain rfl : v_38 = 3 := ev_38.trans (by decide)
    refine va_sld hx hb hX hbl hbA hS (vp_in_nI (n := 3) (N := 7) (by decide) (by decide)) dL_law_475 ?_
    refine lv_topi (fun v_39 ev_39 => ?_)
    obtain rfl : v_39 = (xs 3) := ev_39.trans rfl
    refine lv_aload_n hx hb dL_law_476 rfl (lv_at hl 5 rfl) ?_
    refine lv_iload hx hb dL_law_477 (lv_at hl 1 rfl) ?_
    refine lv_iconst (v := 4) hx hb dL_law_479 (by decide) ?_
    refine lv_iadd hx hb dL_law_480 ?_
    refine lv_topi (fun v_40 ev_40 => ?_)
    obtain rfl : v_40 = 4 := ev_40.trans (by decide)
    refine va_sld hx hb hX hbl hbA hS (vp_in_nI (n := 4) (N := 7) (by decide) (by decide)) dL_law_481 ?_
    refine lv_topi (fun v_41 ev_41 => ?_)
    obtain rfl : v_41 = (xs 4) := ev_41.trans rfl
    refine lv_if_eq (tgt := 489) hx hb dL_law_482 (by decide) (fun c_42 => absurd c_42 (c_11)) (fun c_42 => ?_)
    refine lv_iconst (v := 1) hx hb dL_law_485 (by decide) ?_
    refine lv_goto (tgt := 490) hx hb dL_law_486 (by decide) ?_
    refine zcalliV (As := [.int (xs 1), .int (xs 2), .int (xs 3), .int 1]) (rest := []) (wc := [(mo, .inr (4, [.int 0, .int 0, .ref kT, .int 20, .int 60, .int 2000, .int 0, .int 0, .ref tb, .ref ld, .int 0, .ref lK, .ref lC, .int 0]))]) (wr := [(kA, .inl (cK, 10, .inr (.inr (.inr (.inr (fun _ => none)))))), (tA, .inl (cT, 120, .inl (fun _ => 0))), (kT, .inl (e1, 60, .inl (fun _ => 0))), (tb, .inl (e2, 366, .inl (fun _ => 0))), (ld, .inl (e3, 61, .inl (fun _ => 0))), (ou, .inl (cJ, 1, .inr (.inl (fun _ => 0))))]) ⟨hx, hb, hml, hown, hts⟩ (c_Mreason l D _ mo kT tb ld lK lC (xs 1) (xs 2) (xs 3) 1) (cwV 4 hts zgV_X4_reason rfl rfl rfl (by decide +kernel) ⟨by rw [hRf]; exact Nat.le_of_ble_eq_true rfl, by rw [hRl]; exact Nat.le_of_ble_eq_true rfl⟩) hK hP hD hS hA [2] [0, 1, 3, 4, 5, 6] rfl (by decide) rfl (by decide) (by decide) [] rfl (ci := 4) (q0 := 2) rfl rfl rfl hl.1 rfl (Nat.le_of_ble_eq_true rfl) dL_law_490 ⟨by omega, by omega⟩ (fun r_43 u_44 H locs hwu_44 hnu_44 hzu_44 hK hP hD hS => ?_)
    have hK : va_K D vwCl [(cK, .object RX1), (cT, .int), (e1, .int), (e2, .int), (e3, .int), (cJ, .long)] s := hK
    have hP : va_P D vwCl ([(kA, .inl (cK, 10, .inr (.inr (.inr (.inr (fun _ => none)))))), (tA, .inl (cT, 120, .inl (fun _ => 0))), (kT, .inl (e1, 60, .inl (fun _ => 0))), (tb, .inl (e2, 366, .inl (fun _ => 0))), (ld, .inl (e3, 61, .inl (fun _ => 0))), (ou, .inl (cJ, 1, .inr (.inl (fun _ => 0)))), (mo, .inr (4, [.int 1, .int 0, .ref kT, .int 20, .int 60, .int 2000, .int 0, .int 0, .ref tb, .ref ld, .int 0, .ref lK, .ref lC, .int 0]))]) H := hP
    have hD : va_D A ([(kA, .inl (cK, 10, .inr (.inr (.inr (.inr (fun _ => none)))))), (tA, .inl (cT, 120, .inl (fun _ => 0))), (kT, .inl (e1, 60, .inl (fun _ => 0))), (tb, .inl (e2, 366, .inl (fun _ => 0))), (ld, .inl (e3, 61, .inl (fun _ => 0))), (ou, .inl (cJ, 1, .inr (.inl (fun _ => 0)))), (mo, .inr (4, [.int 1, .int 0, .ref kT, .int 20, .int 60, .int 2000, .int 0, .int 0, .ref tb, .ref ld, .int 0, .ref lK, .ref lC, .int 0]))]) := hD
    refine lv_topi (fun v_45 ev_45 => ?_)
    obtain rfl : v_45 = 0 := ev_45.trans hwu_44
    refine lv_istore (lv' := [(6, .int 0), (5, .int 1), (4, .int 0), (3, .ref ou), (2, .ref mo), (1, .ref o), (0, .ref b)]) hx hb dL_law_493 hl (by decide) rfl (fun ls hl => ?_)
    refine lv_aload_n hx hb dL_law_495 rfl (lv_at hl 4 rfl) ?_
    refine zrdV (As := []) (rest := []) (wc := [(mo, .inr (4, [.int 1, .int 0, .ref kT, .int 20, .int 60, .int 2000, .int 0, .int 0, .ref tb, .ref ld, .int 0, .ref lK, .ref lC, .int 0]))]) ⟨hx, hb, hml, hown, hts⟩ (c_thrown l D _ mo [.int 1, .int 0, .ref kT, .int 20, .int 60, .int 2000, .int 0, .int 0, .ref tb, .ref ld, .int 0, .ref lK, .ref lC, .int 0] 1 rfl) (cwV 0 hts zgV_X4_thrown rfl rfl rfl (by decide +kernel) ⟨by rw [hRf]; exact Nat.le_of_ble_eq_true rfl, by rw [hRl]; exact Nat.le_of_ble_eq_true rfl⟩) hK hP hD [6] rfl (by decide) [] rfl (ci := 4) (q0 := 6) rfl rfl rfl hl.1 rfl (Nat.le_of_ble_eq_true rfl) dL_law_496 ⟨by omega, by omega⟩ (fun r_46 hr_46 => ?_)
    refine lv_topi (fun v_47 ev_47 => ?_)
    obtain rfl : v_47 = 1 := ev_47.trans hr_46
    refine lv_iload hx hb dL_law_499 (lv_at hl 1 rfl) ?_
    refine lv_icmp_eq (tgt := 506) hx hb dL_law_501 (by decide) (fun c_48 => ?_) (fun c_48 => absurd (rfl) c_48)
    refine lv_iload hx hb dL_law_506 (lv_at hl 1 rfl) ?_
    refine lv_if_ne (tgt := 523) hx hb dL_law_508 (by decide) (fun c_49 => ?_) (fun c_49 => absurd c_49 (by decide))
    refine lv_goto (tgt := 1463) hx hb dL_law_523 (by decide) ?_
    have hl := lv_sub hl (l' := [(4, .int 0), (3, .ref ou), (2, .ref mo), (1, .ref o), (0, .ref b)]) [2, 3, 4, 5, 6] rfl
    refine W.widen (k := 2000) (n := 20000) (by omega) (by omega) ?_
    subst hAe
    exact znext C1 o mo ou H locs ls hS hl
set_option maxHeartbeats 4000000 in
set_option maxRecDepth 100000 in
theorem zc_put {p : Program} {e : Env} {s : State} {m : MethodId} {below : List Frame} {meth : Method} {c : Code} {l : Launch} {b : Nat} {xs : Nat → Int32} (C0 : lw_At p s m meth c b 7 xs) (hfl : l.stackTraces = false) {D : zG} (hKX : zKX (fun q : Nat => s.heap.size ≤ q) s) (o kA iA tA tr lA mo kT tb ld lK lC ou : Nat) (cK cT e1 e2 e3 cJ : ClassId) (H : Heap) (locs : List Loc) (ls : Array Slot) (hK : va_K D vwCl [(cK, .object RX1), (cT, .int), (e1, .int), (e2, .int), (e3, .int), (cJ, .long)] s) (hP : va_P D vwCl ([(o, .inr (3, [.ref kA, .int 0, .int 20, .int 60, .int 2000, .int 0, .ref iA, .int 0, .int 0, .int 0, .ref tA, .ref tr, .ref lA, .int 0])), (kA, .inl (cK, 10, .inr (.inr (.inr (.inr (fun _ => none)))))), (tA, .inl (cT, 120, .inl (fun _ => 0))), (mo, .inr (4, [.int 0, .int 0, .ref kT, .int 20, .int 60, .int 2000, .int 0, .int 0, .ref tb, .ref ld, .int 0, .ref lK, .ref lC, .int 0])), (kT, .inl (e1, 60, .inl (fun _ => 0))), (tb, .inl (e2, 366, .inl (fun _ => 0))), (ld, .inl (e3, 61, .inl (fun _ => 0))), (ou, .inl (cJ, 1, .inr (.inl (fun _ => 0))))]) H) (hD : va_D (fun q : Nat => s.heap.size ≤ q) ([(o, .inr (3, [.ref kA, .int 0, .int 20, .int 60, .int 2000, .int 0, .ref iA, .int 0, .int 0, .int 0, .ref tA, .ref tr, .ref lA, .int 0])), (kA, .inl (cK, 10, .inr (.inr (.inr (.inr (fun _ => none)))))), (tA, .inl (cT, 120, .inl (fun _ => 0))), (mo, .inr (4, [.int 0, .int 0, .ref kT, .int 20, .int 60, .int 2000, .int 0, .int 0, .ref tb, .ref ld, .int 0, .ref lK, .ref lC, .int 0])), (kT, .inl (e1, 60, .inl (fun _ => 0))), (tb, .inl (e2, 366, .inl (fun _ => 0))), (ld, .inl (e3, 61, .inl (fun _ => 0))), (ou, .inl (cJ, 1, .inr (.inl (fun _ => 0))))])) (hS : va_S (fun q : Nat => s.heap.size ≤ q) s.heap H locs) (hl : lv_has ls 9 [(4, .int 0), (3, .ref ou), (2, .ref mo), (1, .ref o), (0, .ref b)]) : W p l e room_1 s m #[Value.ref b] below meth c H locs 1000 10000 (lw_Z below #[Value.ref b] s) (F0 m 526 ls []) := by
  have C1 := C0
  obtain ⟨hx, hb, hr, hml, hown, hts, hX, hbl, hlocks, hgv⟩ := C0
  have hA : ∀ q : Nat, s.heap.size ≤ q → (fun q : Nat => s.heap.size ≤ q) q := fun _ h => h
  have hbA : ¬ (fun q : Nat => s.heap.size ≤ q) b := Nat.not_le.mpr hbl
  have hRf : room_1.frames = 13 := rfl
  have hRc : room_1.cells = 600002 := rfl
  have hRs : room_1.slots = 7302232 := rfl
  have hRl : room_1.locals = 522 := rfl
  generalize hAe : (fun q : Nat => s.heap.size ≤ q) = A at hP hD hS hA hbA hKX
  refine lv_aload_n hx hb dL_law_526 rfl (lv_at hl 3 rfl) ?_
  refine lv_aload_n hx hb dL_law_527 rfl (lv_at hl 4 rfl) ?_
  refine lv_iload hx hb dL_law_528 (lv_at hl 0 rfl) ?_
  refine lv_iconst (v := 1) hx hb dL_law_530 (by decide) ?_
  refine lv_iadd hx hb dL_law_531 ?_
  refine lv_topi (fun v_50 ev_50 => ?_)
  obtain rfl : v_50 = 1 := ev_50.trans (by decide)
  refine va_sld hx hb hX hbl hbA hS (vp_in_nI (n := 1) (N := 7) (by decide) (by decide)) dL_law_532 ?_
  refine lv_topi (fun v_51 ev_51 => ?_)
  obtain rfl : v_51 = (xs 1) := ev_51.trans rfl
  refine lv_aload_n hx hb dL_law_533 rfl (lv_at hl 4 rfl) ?_
  refine lv_iload hx hb dL_law_534 (lv_at hl 0 rfl) ?_
  refine lv_iconst (v := 2) hx hb dL_law_536 (by decide) ?_
  refine lv_iadd hx hb dL_law_537 ?_
  refine lv_topi (fun v_52 ev_52 => ?_)
  obtain rfl : v_52 = 2 := ev_52.trans (by decide)
  refine va_sld hx hb hX hbl hbA hS (vp_in_nI (n := 2) (N := 7) (by decide) (by decide)) dL_law_538 ?_
  refine lv_topi (fun v_53 ev_53 => ?_)
  obtain rfl : v_53 = (xs 2) := ev_53.trans rfl
  refine lv_aload_n hx hb dL_law_539 rfl (lv_at hl 4 rfl) ?_
  refine lv_iload hx hb dL_law_540 (lv_at hl 0 rfl) ?_
  refine lv_iconst (v := 3) hx hb dL_law_542 (by decide) ?_
  refine lv_iadd hx hb dL_law_543 ?_
  refine lv_topi (fun v_54 ev_54 => ?_)
  obtain rfl : v_54 = 3 := ev_54.trans (by decide)
  refine va_sld hx hb hX hbl hbA hS (vp_in_nI (n := 3) (N := 7) (by decide) (by decide)) dL_law_544 ?_
  refine lv_topi (fun v_55 ev_55 => ?_)
  obtain rfl : v_55 = (xs 3) := ev_55.trans rfl
  refine lv_aload_n hx hb dL_law_545 rfl (lv_at hl 4 rfl) ?_
  refine lv_iload hx hb dL_law_546 (lv_at hl 0 rfl) ?_
  refine lv_iconst (v := 4) hx hb dL_law_548 (by decide) ?_
  refine lv_iadd hx hb dL_law_549 ?_
  refine lv_topi (fun v_56 ev_56 => ?_)
  obtain rfl : v_56 = 4 := ev_56.trans (by decide)
  refine va_sld hx hb hX hbl hbA hS (vp_in_nI (n := 4) (N := 7) (by decide) (by decide)) dL_law_550 ?_
  refine lv_topi (fun v_57 ev_57 => ?_)
  obtain rfl : v_57 = (xs 4) := ev_57.trans rfl
  refine lv_if_eq (tgt := 558) hx hb dL_law_551 (by decide) (fun c_58 => ?_) (fun c_58 => ?_)
  · have h_b := True.intro
    refine lv_iconst (v := 0) hx hb dL_law_558 (by decide) ?_
    refine lv_aload_n hx hb dL_law_559 rfl (lv_at hl 1 rfl) ?_
    refine zcalliSWK (hh := [(0, 14, 17, 25), (0, 14, 21, 15)]) (As := [.ref o, .int (xs 1), .int (xs 2), .int (xs 3), .int 0, .ref ou]) (rest := []) (wc := [(o, .inr (3, [.ref kA, .int 0, .int 20, .int 60, .int 2000, .int 0, .ref iA, .int 0, .int 0, .int 0, .ref tA, .ref tr, .ref lA, .int 0]))]) (wr := [(kA, .inl (cK, 10, .inr (.inr (.inr (.inr (fun _ => none)))))), (tA, .inl (cT, 120, .inl (fun _ => 0))), (mo, .inr (4, [.int 0, .int 0, .ref kT, .int 20, .int 60, .int 2000, .int 0, .int 0, .ref tb, .ref ld, .int 0, .ref lK, .ref lC, .int 0])), (kT, .inl (e1, 60, .inl (fun _ => 0))), (tb, .inl (e2, 366, .inl (fun _ => 0))), (ld, .inl (e3, 61, .inl (fun _ => 0))), (ou, .inl (cJ, 1, .inr (.inl (fun _ => 0))))]) ⟨hx, hb, hml, hown, hts⟩ (c_Lput_x l D _ hfl o kA iA tA tr lA ou (xs 1) (xs 2) (xs 3) 0) (vx_cwSW 6 hts zgS_L_put rfl rfl rfl (by decide +kernel) ⟨by rw [hRf]; exact Nat.le_of_ble_eq_true rfl, by rw [hRl]; exact Nat.le_of_ble_eq_true rfl⟩) hKX hK hP hD hS hA [0] [1, 2, 3, 4, 5, 6, 7] rfl (by decide) rfl (by decide) (by decide) [] rfl rfl hl.1 rfl (Nat.le_of_ble_eq_true rfl) dL_law_560 ⟨by omega, by omega⟩ (fun r_59 u_60 H locs hwu_60 hnu_60 hzu_60 hK hP hD hS => ?_)
    have hK : va_K D vwCl [(cK, .object RX1), (cT, .int), (e1, .int), (e2, .int), (e3, .int), (cJ, .long)] s := hK
    have hP : va_P D vwCl ([(kA, .inl (cK, 10, .inr (.inr (.inr (.inr (fun _ => none)))))), (tA, .inl (cT, 120, .inl (fun _ => 0))), (mo, .inr (4, [.int 0, .int 0, .ref kT, .int 20, .int 60, .int 2000, .int 0, .int 0, .ref tb, .ref ld, .int 0, .ref lK, .ref lC, .int 0])), (kT, .inl (e1, 60, .inl (fun _ => 0))), (tb, .inl (e2, 366, .inl (fun _ => 0))), (ld, .inl (e3, 61, .inl (fun _ => 0))), (ou, .inl (cJ, 1, .inr (.inl (fun _ => 0))))]) H := hP
    have hD : va_D A ([(kA, .inl (cK, 10, .inr (.inr (.inr (.inr (fun _ => none)))))), (tA, .inl (cT, 120, .inl (fun _ => 0))), (mo, .inr (4, [.int 0, .int 0, .ref kT, .int 20, .int 60, .int 2000, .int 0, .int 0, .ref tb, .ref ld, .int 0, .ref lK, .ref lC, .int 0])), (kT, .inl (e1, 60, .inl (fun _ => 0))), (tb, .inl (e2, 366, .inl (fun _ => 0))), (ld, .inl (e3, 61, .inl (fun _ => 0))), (ou, .inl (cJ, 1, .inr (.inl (fun _ => 0))))]) := hD
    refine lv_topi (fun v_61 ev_61 => ?_)
    obtain rfl : v_61 = 1 := ev_61.trans hwu_60
    refine lv_istore (lv' := [(5, .int 1), (4, .int 0), (3, .ref ou), (2, .ref mo), (1, .ref o), (0, .ref b)]) hx hb dL_law_563 hl (by decide) rfl (fun ls hl => ?_)
    refine lv_aload_n hx hb dL_law_565 rfl (lv_at hl 3 rfl) ?_
    refine lv_aload_n hx hb dL_law_566 rfl (lv_at hl 5 rfl) ?_
    refine lv_iload hx hb dL_law_567 (lv_at hl 1 rfl) ?_
    refine lv_iconst (v := 1) hx hb dL_law_569 (by decide) ?_
    refine lv_iadd hx hb dL_law_570 ?_
    refine lv_topi (fun v_62 ev_62 => ?_)
    obtain rfl : v_62 = 1 := ev_62.trans (by decide)
    refine va_sld hx hb hX hbl hbA hS (vp_in_nI (n := 1) (N := 7) (by decide) (by decide)) dL_law_571 ?_
    refine lv_topi (fun v_63 ev_63 => ?_)
    obtain rfl : v_63 = (xs 1) := ev_63.trans rfl
    refine lv_aload_n hx hb dL_law_572 rfl (lv_at hl 5 rfl) ?_
    refine lv_iload hx hb dL_law_573 (lv_at hl 1 rfl) ?_
    refine lv_iconst (v := 2) hx hb dL_law_575 (by decide) ?_
    refine lv_iadd hx hb dL_law_576 ?_
    refine lv_topi (fun v_64 ev_64 => ?_)
    obtain rfl : v_64 = 2 := ev_64.trans (by decide)
    refine va_sld hx hb hX hbl hbA hS (vp_in_nI (n := 2) (N := 7) (by decide) (by decide)) dL_law_577 ?_
    refine lv_topi (fun v_65 ev_65 => ?_)
    obtain rfl : v_65 = (xs 2) := ev_65.trans rfl
    refine lv_aload_n hx hb dL_law_578 rfl (lv_at hl 5 rfl) ?_
    refine lv_iload hx hb dL_law_579 (lv_at hl 1 rfl) ?_
    refine lv_iconst (v := 3) hx hb dL_law_581 (by decide) ?_
    refine lv_iadd hx hb dL_law_582 ?_
    refine lv_topi (fun v_66 ev_66 => ?_)
    obtain rfl : v_66 = 3 := ev_66.trans (by decide)
    refine va_sld hx hb hX hbl hbA hS (vp_in_nI (n := 3) (N := 7) (by decide) (by decide)) dL_law_583 ?_
    refine lv_topi (fun v_67 ev_67 => ?_)
    obtain rfl : v_67 = (xs 3) := ev_67.trans rfl
    refine lv_aload_n hx hb dL_law_584 rfl (lv_at hl 5 rfl) ?_
    refine lv_iload hx hb dL_law_585 (lv_at hl 1 rfl) ?_
    refine lv_iconst (v := 4) hx hb dL_law_587 (by decide) ?_
    refine lv_iadd hx hb dL_law_588 ?_
    refine lv_topi (fun v_68 ev_68 => ?_)
    obtain rfl : v_68 = 4 := ev_68.trans (by decide)
    refine va_sld hx hb hX hbl hbA hS (vp_in_nI (n := 4) (N := 7) (by decide) (by decide)) dL_law_589 ?_
    refine lv_topi (fun v_69 ev_69 => ?_)
    obtain rfl : v_69 = (xs 4) := ev_69.trans rfl
    refine lv_if_eq (tgt := 597) hx hb dL_law_590 (by decide) (fun c_70 => ?_) (fun c_70 => absurd (c_58) c_70)
    refine lv_iconst (v := 0) hx hb dL_law_597 (by decide) ?_
    refine zcalliV (As := [.int (xs 1), .int (xs 2), .int (xs 3), .int 0]) (rest := []) (wc := [(mo, .inr (4, [.int 0, .int 0, .ref kT, .int 20, .int 60, .int 2000, .int 0, .int 0, .ref tb, .ref ld, .int 0, .ref lK, .ref lC, .int 0]))]) (wr := [(kA, .inl (cK, 10, .inr (.inr (.inr (.inr (fun _ => none)))))), (tA, .inl (cT, 120, .inl (fun _ => 0))), (kT, .inl (e1, 60, .inl (fun _ => 0))), (tb, .inl (e2, 366, .inl (fun _ => 0))), (ld, .inl (e3, 61, .inl (fun _ => 0))), (ou, .inl (cJ, 1, .inr (.inl (fun _ => 0))))]) ⟨hx, hb, hml, hown, hts⟩ (c_Mput l D _ mo kT tb ld lK lC (xs 1) (xs 2) (xs 3) 0) (cwV 4 hts zgV_X4_put rfl rfl rfl (by decide +kernel) ⟨by rw [hRf]; exact Nat.le_of_ble_eq_true rfl, by rw [hRl]; exact Nat.le_of_ble_eq_true rfl⟩) hK hP hD hS hA [2] [0, 1, 3, 4, 5, 6] rfl (by decide) rfl (by decide) (by decide) [] rfl (ci := 4) (q0 := 2) rfl rfl rfl hl.1 rfl (Nat.le_of_ble_eq_true rfl) dL_law_598 ⟨by omega, by omega⟩ (fun r_71 u_72 H locs hwu_72 hnu_72 hzu_72 hK hP hD hS => ?_)
    have hK : va_K D vwCl [(cK, .object RX1), (cT, .int), (e1, .int), (e2, .int), (e3, .int), (cJ, .long)] s := hK
    have hP : va_P D vwCl ([(kA, .inl (cK, 10, .inr (.inr (.inr (.inr (fun _ => none)))))), (tA, .inl (cT, 120, .inl (fun _ => 0))), (kT, .inl (e1, 60, .inl (fun _ => 0))), (tb, .inl (e2, 366, .inl (fun _ => 0))), (ld, .inl (e3, 61, .inl (fun _ => 0))), (ou, .inl (cJ, 1, .inr (.inl (fun _ => 0)))), (mo, .inr (4, [.int 1, .int 0, .ref kT, .int 20, .int 60, .int 2000, .int 0, .int 0, .ref tb, .ref ld, .int 0, .ref lK, .ref lC, .int 0]))]) H := hP
    have hD : va_D A ([(kA, .inl (cK, 10, .inr (.inr (.inr (.inr (fun _ => none)))))), (tA, .inl (cT, 120, .inl (fun _ => 0))), (kT, .inl (e1, 60, .inl (fun _ => 0))), (tb, .inl (e2, 366, .inl (fun _ => 0))), (ld, .inl (e3, 61, .inl (fun _ => 0))), (ou, .inl (cJ, 1, .inr (.inl (fun _ => 0)))), (mo, .inr (4, [.int 1, .int 0, .ref kT, .int 20, .int 60, .int 2000, .int 0, .int 0, .ref tb, .ref ld, .int 0, .ref lK, .ref lC, .int 0]))]) := hD
    refine lv_topi (fun v_73 ev_73 => ?_)
    obtain rfl : v_73 = 0 := ev_73.trans hwu_72
    refine lv_istore (lv' := [(6, .int 0), (5, .int 1), (4, .int 0), (3, .ref ou), (2, .ref mo), (1, .ref o), (0, .ref b)]) hx hb dL_law_601 hl (by decide) rfl (fun ls hl => ?_)
    refine lv_aload_n hx hb dL_law_603 rfl (lv_at hl 4 rfl) ?_
    refine zrdV (As := []) (rest := []) (wc := [(mo, .inr (4, [.int 1, .int 0, .ref kT, .int 20, .int 60, .int 2000, .int 0, .int 0, .ref tb, .ref ld, .int 0, .ref lK, .ref lC, .int 0]))]) ⟨hx, hb, hml, hown, hts⟩ (c_thrown l D _ mo [.int 1, .int 0, .ref kT, .int 20, .int 60, .int 2000, .int 0, .int 0, .ref tb, .ref ld, .int 0, .ref lK, .ref lC, .int 0] 1 rfl) (cwV 0 hts zgV_X4_thrown rfl rfl rfl (by decide +kernel) ⟨by rw [hRf]; exact Nat.le_of_ble_eq_true rfl, by rw [hRl]; exact Nat.le_of_ble_eq_true rfl⟩) hK hP hD [6] rfl (by decide) [] rfl (ci := 4) (q0 := 6) rfl rfl rfl hl.1 rfl (Nat.le_of_ble_eq_true rfl) dL_law_604 ⟨by omega, by omega⟩ (fun r_74 hr_74 => ?_)
    refine lv_topi (fun v_75 ev_75 => ?_)
    obtain rfl : v_75 = 1 := ev_75.trans hr_74
    refine lv_iload hx hb dL_law_607 (lv_at hl 1 rfl) ?_
    refine lv_icmp_eq (tgt := 614) hx hb dL_law_609 (by decide) (fun c_76 => ?_) (fun c_76 => absurd (rfl) c_76)
    refine lv_iload hx hb dL_law_614 (lv_at hl 1 rfl) ?_
    refine lv_if_ne (tgt := 631) hx hb dL_law_616 (by decide) (fun c_77 => ?_) (fun c_77 => absurd c_77 (by decide))
    refine lv_goto (tgt := 1463) hx hb dL_law_631 (by decide) ?_
    have hl := lv_sub hl (l' := [(4, .int 0), (3, .ref ou), (2, .ref mo), (1, .ref o), (0, .ref b)]) [2, 3, 4, 5, 6] rfl
    refine W.widen (k := 2000) (n := 20000) (by omega) (by omega) ?_
    subst hAe
    exact znext C1 o mo ou H locs ls hS hl
  · have h_b := True.intro
    refine lv_iconst (v := 1) hx hb dL_law_554 (by decide) ?_
    refine lv_goto (tgt := 559) hx hb dL_law_555 (by decide) ?_
    refine lv_aload_n hx hb dL_law_559 rfl (lv_at hl 1 rfl) ?_
    refine zcalliSWK (hh := [(0, 14, 17, 25), (0, 14, 21, 15)]) (As := [.ref o, .int (xs 1), .int (xs 2), .int (xs 3), .int 1, .ref ou]) (rest := []) (wc := [(o, .inr (3, [.ref kA, .int 0, .int 20, .int 60, .int 2000, .int 0, .ref iA, .int 0, .int 0, .int 0, .ref tA, .ref tr, .ref lA, .int 0]))]) (wr := [(kA, .inl (cK, 10, .inr (.inr (.inr (.inr (fun _ => none)))))), (tA, .inl (cT, 120, .inl (fun _ => 0))), (mo, .inr (4, [.int 0, .int 0, .ref kT, .int 20, .int 60, .int 2000, .int 0, .int 0, .ref tb, .ref ld, .int 0, .ref lK, .ref lC, .int 0])), (kT, .inl (e1, 60, .inl (fun _ => 0))), (tb, .inl (e2, 366, .inl (fun _ => 0))), (ld, .inl (e3, 61, .inl (fun _ => 0))), (ou, .inl (cJ, 1, .inr (.inl (fun _ => 0))))]) ⟨hx, hb, hml, hown, hts⟩ (c_Lput_x l D _ hfl o kA iA tA tr lA ou (xs 1) (xs 2) (xs 3) 1) (vx_cwSW 6 hts zgS_L_put rfl rfl rfl (by decide +kernel) ⟨by rw [hRf]; exact Nat.le_of_ble_eq_true rfl, by rw [hRl]; exact Nat.le_of_ble_eq_true rfl⟩) hKX hK hP hD hS hA [0] [1, 2, 3, 4, 5, 6, 7] rfl (by decide) rfl (by decide) (by decide) [] rfl rfl hl.1 rfl (Nat.le_of_ble_eq_true rfl) dL_law_560 ⟨by omega, by omega⟩ (fun r_78 u_79 H locs hwu_79 hnu_79 hzu_79 hK hP hD hS => ?_)
    have hK : va_K D vwCl [(cK, .object RX1), (cT, .int), (e1, .int), (e2, .int), (e3, .int), (cJ, .long)] s := hK
    have hP : va_P D vwCl ([(kA, .inl (cK, 10, .inr (.inr (.inr (.inr (fun _ => none)))))), (tA, .inl (cT, 120, .inl (fun _ => 0))), (mo, .inr (4, [.int 0, .int 0, .ref kT, .int 20, .int 60, .int 2000, .int 0, .int 0, .ref tb, .ref ld, .int 0, .ref lK, .ref lC, .int 0])), (kT, .inl (e1, 60, .inl (fun _ => 0))), (tb, .inl (e2, 366, .inl (fun _ => 0))), (ld, .inl (e3, 61, .inl (fun _ => 0))), (ou, .inl (cJ, 1, .inr (.inl (fun _ => 0))))]) H := hP
    have hD : va_D A ([(kA, .inl (cK, 10, .inr (.inr (.inr (.inr (fun _ => none)))))), (tA, .inl (cT, 120, .inl (fun _ => 0))), (mo, .inr (4, [.int 0, .int 0, .ref kT, .int 20, .int 60, .int 2000, .int 0, .int 0, .ref tb, .ref ld, .int 0, .ref lK, .ref lC, .int 0])), (kT, .inl (e1, 60, .inl (fun _ => 0))), (tb, .inl (e2, 366, .inl (fun _ => 0))), (ld, .inl (e3, 61, .inl (fun _ => 0))), (ou, .inl (cJ, 1, .inr (.inl (fun _ => 0))))]) := hD
    refine lv_topi (fun v_80 ev_80 => ?_)
    obtain rfl : v_80 = 1 := ev_80.trans hwu_79
    refine lv_istore (lv' := [(5, .int 1), (4, .int 0), (3, .ref ou), (2, .ref mo), (1, .ref o), (0, .ref b)]) hx hb dL_law_563 hl (by decide) rfl (fun ls hl => ?_)
    refine lv_aload_n hx hb dL_law_565 rfl (lv_at hl 3 rfl) ?_
    refine lv_aload_n hx hb dL_law_566 rfl (lv_at hl 5 rfl) ?_
    refine lv_iload hx hb dL_law_567 (lv_at hl 1 rfl) ?_
    refine lv_iconst (v := 1) hx hb dL_law_569 (by decide) ?_
    refine lv_iadd hx hb dL_law_570 ?_
    refine lv_topi (fun v_81 ev_81 => ?_)
    obtain rfl : v_81 = 1 := ev_81.trans (by decide)
    refine va_sld hx hb hX hbl hbA hS (vp_in_nI (n := 1) (N := 7) (by decide) (by decide)) dL_law_571 ?_
    refine lv_topi (fun v_82 ev_82 => ?_)
    obtain rfl : v_82 = (xs 1) := ev_82.trans rfl
    refine lv_aload_n hx hb dL_law_572 rfl (lv_at hl 5 rfl) ?_
    refine lv_iload hx hb dL_law_573 (lv_at hl 1 rfl) ?_
    refine lv_iconst (v := 2) hx hb dL_law_575 (by decide) ?_
    refine lv_iadd hx hb dL_law_576 ?_
    refine lv_topi (fun v_83 ev_83 => ?_)
    obtain rfl : v_83 = 2 := ev_83.trans (by decide)
    refine va_sld hx hb hX hbl hbA hS (vp_in_nI (n := 2) (N := 7) (by decide) (by decide)) dL_law_577 ?_
    refine lv_topi (fun v_84 ev_84 => ?_)
    obtain rfl : v_84 = (xs 2) := ev_84.trans rfl
    refine lv_aload_n hx hb dL_law_578 rfl (lv_at hl 5 rfl) ?_
    refine lv_iload hx hb dL_law_579 (lv_at hl 1 rfl) ?_
    refine lv_iconst (v := 3) hx hb dL_law_581 (by decide) ?_
    refine lv_iadd hx hb dL_law_582 ?_
    refine lv_topi (fun v_85 ev_85 => ?_)
    obtain rfl : v_85 = 3 := ev_85.trans (by decide)
    refine va_sld hx hb hX hbl hbA hS (vp_in_nI (n := 3) (N := 7) (by decide) (by decide)) dL_law_583 ?_
    refine lv_topi (fun v_86 ev_86 => ?_)
    obtain rfl : v_86 = (xs 3) := ev_86.trans rfl
    refine lv_aload_n hx hb dL_law_584 rfl (lv_at hl 5 rfl) ?_
    refine lv_iload hx hb dL_law_585 (lv_at hl 1 rfl) ?_
    refine lv_iconst (v := 4) hx hb dL_law_587 (by decide) ?_
    refine lv_iadd hx hb dL_law_588 ?_
    refine lv_topi (fun v_87 ev_87 => ?_)
    obtain rfl : v_87 = 4 := ev_87.trans (by decide)
    refine va_sld hx hb hX hbl hbA hS (vp_in_nI (n := 4) (N := 7) (by decide) (by decide)) dL_law_589 ?_
    refine lv_topi (fun v_88 ev_88 => ?_)
    obtain rfl : v_88 = (xs 4) := ev_88.trans rfl
    refine lv_if_eq (tgt := 597) hx hb dL_law_590 (by decide) (fun c_89 => absurd c_89 (c_58)) (fun c_89 => ?_)
    refine lv_iconst (v := 1) hx hb dL_law_593 (by decide) ?_
    refine lv_goto (tgt := 598) hx hb dL_law_594 (by decide) ?_
    refine zcalliV (As := [.int (xs 1), .int (xs 2), .int (xs 3), .int 1]) (rest := []) (wc := [(mo, .inr (4, [.int 0, .int 0, .ref kT, .int 20, .int 60, .int 2000, .int 0, .int 0, .ref tb, .ref ld, .int 0, .ref lK, .ref lC, .int 0]))]) (wr := [(kA, .inl (cK, 10, .inr (.inr (.inr (.inr (fun _ => none)))))), (tA, .inl (cT, 120, .inl (fun _ => 0))), (kT, .inl (e1, 60, .inl (fun _ => 0))), (tb, .inl (e2, 366, .inl (fun _ => 0))), (ld, .inl (e3, 61, .inl (fun _ => 0))), (ou, .inl (cJ, 1, .inr (.inl (fun _ => 0))))]) ⟨hx, hb, hml, hown, hts⟩ (c_Mput l D _ mo kT tb ld lK lC (xs 1) (xs 2) (xs 3) 1) (cwV 4 hts zgV_X4_put rfl rfl rfl (by decide +kernel) ⟨by rw [hRf]; exact Nat.le_of_ble_eq_true rfl, by rw [hRl]; exact Nat.le_of_ble_eq_true rfl⟩) hK hP hD hS hA [2] [0, 1, 3, 4, 5, 6] rfl (by decide) rfl (by decide) (by decide) [] rfl (ci := 4) (q0 := 2) rfl rfl rfl hl.1 rfl (Nat.le_of_ble_eq_true rfl) dL_law_598 ⟨by omega, by omega⟩ (fun r_90 u_91 H locs hwu_91 hnu_91 hzu_91 hK hP hD hS => ?_)
    have hK : va_K D vwCl [(cK, .object RX1), (cT, .int), (e1, .int), (e2, .int), (e3, .int), (cJ, .long)] s := hK
    have hP : va_P D vwCl ([(kA, .inl (cK, 10, .inr (.inr (.inr (.inr (fun _ => none)))))), (tA, .inl (cT, 120, .inl (fun _ => 0))), (kT, .inl (e1, 60, .inl (fun _ => 0))), (tb, .inl (e2, 366, .inl (fun _ => 0))), (ld, .inl (e3, 61, .inl (fun _ => 0))), (ou, .inl (cJ, 1, .inr (.inl (fun _ => 0)))), (mo, .inr (4, [.int 1, .int 0, .ref kT, .int 20, .int 60, .int 2000, .int 0, .int 0, .ref tb, .ref ld, .int 0, .ref lK, .ref lC, .int 0]))]) H := hP
    have hD : va_D A ([(kA, .inl (cK, 10, .inr (.inr (.inr (.inr (fun _ => none)))))), (tA, .inl (cT, 120, .inl (fun _ => 0))), (kT, .inl (e1, 60, .inl (fun _ => 0))), (tb, .inl (e2, 366, .inl (fun _ => 0))), (ld, .inl (e3, 61, .inl (fun _ => 0))), (ou, .inl (cJ, 1, .inr (.inl (fun _ => 0)))), (mo, .inr (4, [.int 1, .int 0, .ref kT, .int 20, .int 60, .int 2000, .int 0, .int 0, .ref tb, .ref ld, .int 0, .ref lK, .ref lC, .int 0]))]) := hD
    refine lv_topi (fun v_92 ev_92 => ?_)
    obtain rfl : v_92 = 0 := ev_92.trans hwu_91
    refine lv_istore (lv' := [(6, .int 0), (5, .int 1), (4, .int 0), (3, .ref ou), (2, .ref mo), (1, .ref o), (0, .ref b)]) hx hb dL_law_601 hl (by decide) rfl (fun ls hl => ?_)
    refine lv_aload_n hx hb dL_law_603 rfl (lv_at hl 4 rfl) ?_
    refine zrdV (As := []) (rest := []) (wc := [(mo, .inr (4, [.int 1, .int 0, .ref kT, .int 20, .int 60, .int 2000, .int 0, .int 0, .ref tb, .ref ld, .int 0, .ref lK, .ref lC, .int 0]))]) ⟨hx, hb, hml, hown, hts⟩ (c_thrown l D _ mo [.int 1, .int 0, .ref kT, .int 20, .int 60, .int 2000, .int 0, .int 0, .ref tb, .ref ld, .int 0, .ref lK, .ref lC, .int 0] 1 rfl) (cwV 0 hts zgV_X4_thrown rfl rfl rfl (by decide +kernel) ⟨by rw [hRf]; exact Nat.le_of_ble_eq_true rfl, by rw [hRl]; exact Nat.le_of_ble_eq_true rfl⟩) hK hP hD [6] rfl (by decide) [] rfl (ci := 4) (q0 := 6) rfl rfl rfl hl.1 rfl (Nat.le_of_ble_eq_true rfl) dL_law_604 ⟨by omega, by omega⟩ (fun r_93 hr_93 => ?_)
    refine lv_topi (fun v_94 ev_94 => ?_)
    obtain rfl : v_94 = 1 := ev_94.trans hr_93
    refine lv_iload hx hb dL_law_607 (lv_at hl 1 rfl) ?_
    refine lv_icmp_eq (tgt := 614) hx hb dL_law_609 (by decide) (fun c_95 => ?_) (fun c_95 => absurd (rfl) c_95)
    refine lv_iload hx hb dL_law_614 (lv_at hl 1 rfl) ?_
    refine lv_if_ne (tgt := 631) hx hb dL_law_616 (by decide) (fun c_96 => ?_) (fun c_96 => absurd c_96 (by decide))
    refine lv_goto (tgt := 1463) hx hb dL_law_631 (by decide) ?_
    have hl := lv_sub hl (l' := [(4, .int 0), (3, .ref ou), (2, .ref mo), (1, .ref o), (0, .ref b)]) [2, 3, 4, 5, 6] rfl
    refine W.widen (k := 2000) (n := 20000) (by omega) (by omega) ?_
    subst hAe
    exact znext C1 o mo ou H locs ls hS hl
set_option maxHeartbeats 4000000 in
set_option maxRecDepth 100000 in
theorem zc_takeOff {p : Program} {e : Env} {s : State} {m : MethodId} {below : List Frame} {meth : Method} {c : Code} {l : Launch} {b : Nat} {xs : Nat → Int32} (C0 : lw_At p s m meth c b 7 xs) (hfl : l.stackTraces = false) {D : zG} (hKX : zKX (fun q : Nat => s.heap.size ≤ q) s) (o kA iA tA tr lA mo kT tb ld lK lC ou : Nat) (cK cT e1 e2 e3 cJ : ClassId) (H : Heap) (locs : List Loc) (ls : Array Slot) (hK : va_K D vwCl [(cK, .object RX1), (cT, .int), (e1, .int), (e2, .int), (e3, .int), (cJ, .long)] s) (hP : va_P D vwCl ([(o, .inr (3, [.ref kA, .int 0, .int 20, .int 60, .int 2000, .int 0, .ref iA, .int 0, .int 0, .int 0, .ref tA, .ref tr, .ref lA, .int 0])), (kA, .inl (cK, 10, .inr (.inr (.inr (.inr (fun _ => none)))))), (tA, .inl (cT, 120, .inl (fun _ => 0))), (mo, .inr (4, [.int 0, .int 0, .ref kT, .int 20, .int 60, .int 2000, .int 0, .int 0, .ref tb, .ref ld, .int 0, .ref lK, .ref lC, .int 0])), (kT, .inl (e1, 60, .inl (fun _ => 0))), (tb, .inl (e2, 366, .inl (fun _ => 0))), (ld, .inl (e3, 61, .inl (fun _ => 0))), (ou, .inl (cJ, 1, .inr (.inl (fun _ => 0))))]) H) (hD : va_D (fun q : Nat => s.heap.size ≤ q) ([(o, .inr (3, [.ref kA, .int 0, .int 20, .int 60, .int 2000, .int 0, .ref iA, .int 0, .int 0, .int 0, .ref tA, .ref tr, .ref lA, .int 0])), (kA, .inl (cK, 10, .inr (.inr (.inr (.inr (fun _ => none)))))), (tA, .inl (cT, 120, .inl (fun _ => 0))), (mo, .inr (4, [.int 0, .int 0, .ref kT, .int 20, .int 60, .int 2000, .int 0, .int 0, .ref tb, .ref ld, .int 0, .ref lK, .ref lC, .int 0])), (kT, .inl (e1, 60, .inl (fun _ => 0))), (tb, .inl (e2, 366, .inl (fun _ => 0))), (ld, .inl (e3, 61, .inl (fun _ => 0))), (ou, .inl (cJ, 1, .inr (.inl (fun _ => 0))))])) (hS : va_S (fun q : Nat => s.heap.size ≤ q) s.heap H locs) (hl : lv_has ls 9 [(4, .int 0), (3, .ref ou), (2, .ref mo), (1, .ref o), (0, .ref b)]) : W p l e room_1 s m #[Value.ref b] below meth c H locs 1000 10000 (lw_Z below #[Value.ref b] s) (F0 m 634 ls []) := by
  have C1 := C0
  obtain ⟨hx, hb, hr, hml, hown, hts, hX, hbl, hlocks, hgv⟩ := C0
  have hA : ∀ q : Nat, s.heap.size ≤ q → (fun q : Nat => s.heap.size ≤ q) q := fun _ h => h
  have hbA : ¬ (fun q : Nat => s.heap.size ≤ q) b := Nat.not_le.mpr hbl
  have hRf : room_1.frames = 13 := rfl
  have hRc : room_1.cells = 600002 := rfl
  have hRs : room_1.slots = 7302232 := rfl
  have hRl : room_1.locals = 522 := rfl
  generalize hAe : (fun q : Nat => s.heap.size ≤ q) = A at hP hD hS hA hbA hKX
  refine lv_aload_n hx hb dL_law_634 rfl (lv_at hl 3 rfl) ?_
  refine lv_aload_n hx hb dL_law_635 rfl (lv_at hl 4 rfl) ?_
  refine lv_iload hx hb dL_law_636 (lv_at hl 0 rfl) ?_
  refine lv_iconst (v := 1) hx hb dL_law_638 (by decide) ?_
  refine lv_iadd hx hb dL_law_639 ?_
  refine lv_topi (fun v_97 ev_97 => ?_)
  obtain rfl : v_97 = 1 := ev_97.trans (by decide)
  refine va_sld hx hb hX hbl hbA hS (vp_in_nI (n := 1) (N := 7) (by decide) (by decide)) dL_law_640 ?_
  refine lv_topi (fun v_98 ev_98 => ?_)
  obtain rfl : v_98 = (xs 1) := ev_98.trans rfl
  refine lv_aload_n hx hb dL_law_641 rfl (lv_at hl 1 rfl) ?_
  refine zcalliSWK (hh := [(0, 9, 12, 25), (0, 9, 15, 15)]) (As := [.ref o, .int (xs 1), .ref ou]) (rest := []) (wc := [(o, .inr (3, [.ref kA, .int 0, .int 20, .int 60, .int 2000, .int 0, .ref iA, .int 0, .int 0, .int 0, .ref tA, .ref tr, .ref lA, .int 0]))]) (wr := [(kA, .inl (cK, 10, .inr (.inr (.inr (.inr (fun _ => none)))))), (tA, .inl (cT, 120, .inl (fun _ => 0))), (mo, .inr (4, [.int 0, .int 0, .ref kT, .int 20, .int 60, .int 2000, .int 0, .int 0, .ref tb, .ref ld, .int 0, .ref lK, .ref lC, .int 0])), (kT, .inl (e1, 60, .inl (fun _ => 0))), (tb, .inl (e2, 366, .inl (fun _ => 0))), (ld, .inl (e3, 61, .inl (fun _ => 0))), (ou, .inl (cJ, 1, .inr (.inl (fun _ => 0))))]) ⟨hx, hb, hml, hown, hts⟩ (c_LtakeOff_x l D _ hfl o kA iA tA tr lA ou (xs 1)) (vx_cwSW 3 hts zgS_L_takeOff rfl rfl rfl (by decide +kernel) ⟨by rw [hRf]; exact Nat.le_of_ble_eq_true rfl, by rw [hRl]; exact Nat.le_of_ble_eq_true rfl⟩) hKX hK hP hD hS hA [0] [1, 2, 3, 4, 5, 6, 7] rfl (by decide) rfl (by decide) (by decide) [] rfl rfl hl.1 rfl (Nat.le_of_ble_eq_true rfl) dL_law_642 ⟨by omega, by omega⟩ (fun r_99 u_100 H locs hwu_100 hnu_100 hzu_100 hK hP hD hS => ?_)
  have hK : va_K D vwCl [(cK, .object RX1), (cT, .int), (e1, .int), (e2, .int), (e3, .int), (cJ, .long)] s := hK
  have hP : va_P D vwCl ([(kA, .inl (cK, 10, .inr (.inr (.inr (.inr (fun _ => none)))))), (tA, .inl (cT, 120, .inl (fun _ => 0))), (mo, .inr (4, [.int 0, .int 0, .ref kT, .int 20, .int 60, .int 2000, .int 0, .int 0, .ref tb, .ref ld, .int 0, .ref lK, .ref lC, .int 0])), (kT, .inl (e1, 60, .inl (fun _ => 0))), (tb, .inl (e2, 366, .inl (fun _ => 0))), (ld, .inl (e3, 61, .inl (fun _ => 0))), (ou, .inl (cJ, 1, .inr (.inl (fun _ => 0))))]) H := hP
  have hD : va_D A ([(kA, .inl (cK, 10, .inr (.inr (.inr (.inr (fun _ => none)))))), (tA, .inl (cT, 120, .inl (fun _ => 0))), (mo, .inr (4, [.int 0, .int 0, .ref kT, .int 20, .int 60, .int 2000, .int 0, .int 0, .ref tb, .ref ld, .int 0, .ref lK, .ref lC, .int 0])), (kT, .inl (e1, 60, .inl (fun _ => 0))), (tb, .inl (e2, 366, .inl (fun _ => 0))), (ld, .inl (e3, 61, .inl (fun _ => 0))), (ou, .inl (cJ, 1, .inr (.inl (fun _ => 0))))]) := hD
  refine lv_topi (fun v_101 ev_101 => ?_)
  obtain rfl : v_101 = 1 := ev_101.trans hwu_100
  refine lv_istore (lv' := [(5, .int 1), (4, .int 0), (3, .ref ou), (2, .ref mo), (1, .ref o), (0, .ref b)]) hx hb dL_law_645 hl (by decide) rfl (fun ls hl => ?_)
  refine lv_aload_n hx hb dL_law_647 rfl (lv_at hl 3 rfl) ?_
  refine lv_aload_n hx hb dL_law_648 rfl (lv_at hl 5 rfl) ?_
  refine lv_iload hx hb dL_law_649 (lv_at hl 1 rfl) ?_
  refine lv_iconst (v := 1) hx hb dL_law_651 (by decide) ?_
  refine lv_iadd hx hb dL_law_652 ?_
  refine lv_topi (fun v_102 ev_102 => ?_)
  obtain rfl : v_102 = 1 := ev_102.trans (by decide)
  refine va_sld hx hb hX hbl hbA hS (vp_in_nI (n := 1) (N := 7) (by decide) (by decide)) dL_law_653 ?_
  refine lv_topi (fun v_103 ev_103 => ?_)
  obtain rfl : v_103 = (xs 1) := ev_103.trans rfl
  refine zcalliV (As := [.int (xs 1)]) (rest := []) (wc := [(mo, .inr (4, [.int 0, .int 0, .ref kT, .int 20, .int 60, .int 2000, .int 0, .int 0, .ref tb, .ref ld, .int 0, .ref lK, .ref lC, .int 0]))]) (wr := [(kA, .inl (cK, 10, .inr (.inr (.inr (.inr (fun _ => none)))))), (tA, .inl (cT, 120, .inl (fun _ => 0))), (kT, .inl (e1, 60, .inl (fun _ => 0))), (tb, .inl (e2, 366, .inl (fun _ => 0))), (ld, .inl (e3, 61, .inl (fun _ => 0))), (ou, .inl (cJ, 1, .inr (.inl (fun _ => 0))))]) ⟨hx, hb, hml, hown, hts⟩ (c_MtakeOff l D _ mo kT tb ld lK lC (xs 1)) (cwV 1 hts zgV_X4_takeOff rfl rfl rfl (by decide +kernel) ⟨by rw [hRf]; exact Nat.le_of_ble_eq_true rfl, by rw [hRl]; exact Nat.le_of_ble_eq_true rfl⟩) hK hP hD hS hA [2] [0, 1, 3, 4, 5, 6] rfl (by decide) rfl (by decide) (by decide) [] rfl (ci := 4) (q0 := 2) rfl rfl rfl hl.1 rfl (Nat.le_of_ble_eq_true rfl) dL_law_654 ⟨by omega, by omega⟩ (fun r_104 u_105 H locs hwu_105 hnu_105 hzu_105 hK hP hD hS => ?_)
  have hK : va_K D vwCl [(cK, .object RX1), (cT, .int), (e1, .int), (e2, .int), (e3, .int), (cJ, .long)] s := hK
  have hP : va_P D vwCl ([(kA, .inl (cK, 10, .inr (.inr (.inr (.inr (fun _ => none)))))), (tA, .inl (cT, 120, .inl (fun _ => 0))), (kT, .inl (e1, 60, .inl (fun _ => 0))), (tb, .inl (e2, 366, .inl (fun _ => 0))), (ld, .inl (e3, 61, .inl (fun _ => 0))), (ou, .inl (cJ, 1, .inr (.inl (fun _ => 0)))), (mo, .inr (4, [.int 1, .int 0, .ref kT, .int 20, .int 60, .int 2000, .int 0, .int 0, .ref tb, .ref ld, .int 0, .ref lK, .ref lC, .int 0]))]) H := hP
  have hD : va_D A ([(kA, .inl (cK, 10, .inr (.inr (.inr (.inr (fun _ => none)))))), (tA, .inl (cT, 120, .inl (fun _ => 0))), (kT, .inl (e1, 60, .inl (fun _ => 0))), (tb, .inl (e2, 366, .inl (fun _ => 0))), (ld, .inl (e3, 61, .inl (fun _ => 0))), (ou, .inl (cJ, 1, .inr (.inl (fun _ => 0)))), (mo, .inr (4, [.int 1, .int 0, .ref kT, .int 20, .int 60, .int 2000, .int 0, .int 0, .ref tb, .ref ld, .int 0, .ref lK, .ref lC, .int 0]))]) := hD
  refine lv_topi (fun v_106 ev_106 => ?_)
  obtain rfl : v_106 = 0 := ev_106.trans hwu_105
  refine lv_istore (lv' := [(6, .int 0), (5, .int 1), (4, .int 0), (3, .ref ou), (2, .ref mo), (1, .ref o), (0, .ref b)]) hx hb dL_law_657 hl (by decide) rfl (fun ls hl => ?_)
  refine lv_aload_n hx hb dL_law_659 rfl (lv_at hl 4 rfl) ?_
  refine zrdV (As := []) (rest := []) (wc := [(mo, .inr (4, [.int 1, .int 0, .ref kT, .int 20, .int 60, .int 2000, .int 0, .int 0, .ref tb, .ref ld, .int 0, .ref lK, .ref lC, .int 0]))]) ⟨hx, hb, hml, hown, hts⟩ (c_thrown l D _ mo [.int 1, .int 0, .ref kT, .int 20, .int 60, .int 2000, .int 0, .int 0, .ref tb, .ref ld, .int 0, .ref lK, .ref lC, .int 0] 1 rfl) (cwV 0 hts zgV_X4_thrown rfl rfl rfl (by decide +kernel) ⟨by rw [hRf]; exact Nat.le_of_ble_eq_true rfl, by rw [hRl]; exact Nat.le_of_ble_eq_true rfl⟩) hK hP hD [6] rfl (by decide) [] rfl (ci := 4) (q0 := 6) rfl rfl rfl hl.1 rfl (Nat.le_of_ble_eq_true rfl) dL_law_660 ⟨by omega, by omega⟩ (fun r_107 hr_107 => ?_)
  refine lv_topi (fun v_108 ev_108 => ?_)
  obtain rfl : v_108 = 1 := ev_108.trans hr_107
  refine lv_iload hx hb dL_law_663 (lv_at hl 1 rfl) ?_
  refine lv_icmp_eq (tgt := 670) hx hb dL_law_665 (by decide) (fun c_109 => ?_) (fun c_109 => absurd (rfl) c_109)
  refine lv_iload hx hb dL_law_670 (lv_at hl 1 rfl) ?_
  refine lv_if_ne (tgt := 687) hx hb dL_law_672 (by decide) (fun c_110 => ?_) (fun c_110 => absurd c_110 (by decide))
  refine lv_goto (tgt := 1463) hx hb dL_law_687 (by decide) ?_
  have hl := lv_sub hl (l' := [(4, .int 0), (3, .ref ou), (2, .ref mo), (1, .ref o), (0, .ref b)]) [2, 3, 4, 5, 6] rfl
  refine W.widen (k := 2000) (n := 20000) (by omega) (by omega) ?_
  subst hAe
  exact znext C1 o mo ou H locs ls hS hl
set_option maxHeartbeats 4000000 in
set_option maxRecDepth 100000 in
theorem zc_item {p : Program} {e : Env} {s : State} {m : MethodId} {below : List Frame} {meth : Method} {c : Code} {l : Launch} {b : Nat} {xs : Nat → Int32} (C0 : lw_At p s m meth c b 7 xs) (hfl : l.stackTraces = false) {D : zG} (hKX : zKX (fun q : Nat => s.heap.size ≤ q) s) (o kA iA tA tr lA mo kT tb ld lK lC ou : Nat) (cK cT e1 e2 e3 cJ : ClassId) (H : Heap) (locs : List Loc) (ls : Array Slot) (hK : va_K D vwCl [(cK, .object RX1), (cT, .int), (e1, .int), (e2, .int), (e3, .int), (cJ, .long)] s) (hP : va_P D vwCl ([(o, .inr (3, [.ref kA, .int 0, .int 20, .int 60, .int 2000, .int 0, .ref iA, .int 0, .int 0, .int 0, .ref tA, .ref tr, .ref lA, .int 0])), (kA, .inl (cK, 10, .inr (.inr (.inr (.inr (fun _ => none)))))), (tA, .inl (cT, 120, .inl (fun _ => 0))), (mo, .inr (4, [.int 0, .int 0, .ref kT, .int 20, .int 60, .int 2000, .int 0, .int 0, .ref tb, .ref ld, .int 0, .ref lK, .ref lC, .int 0])), (kT, .inl (e1, 60, .inl (fun _ => 0))), (tb, .inl (e2, 366, .inl (fun _ => 0))), (ld, .inl (e3, 61, .inl (fun _ => 0))), (ou, .inl (cJ, 1, .inr (.inl (fun _ => 0))))]) H) (hD : va_D (fun q : Nat => s.heap.size ≤ q) ([(o, .inr (3, [.ref kA, .int 0, .int 20, .int 60, .int 2000, .int 0, .ref iA, .int 0, .int 0, .int 0, .ref tA, .ref tr, .ref lA, .int 0])), (kA, .inl (cK, 10, .inr (.inr (.inr (.inr (fun _ => none)))))), (tA, .inl (cT, 120, .inl (fun _ => 0))), (mo, .inr (4, [.int 0, .int 0, .ref kT, .int 20, .int 60, .int 2000, .int 0, .int 0, .ref tb, .ref ld, .int 0, .ref lK, .ref lC, .int 0])), (kT, .inl (e1, 60, .inl (fun _ => 0))), (tb, .inl (e2, 366, .inl (fun _ => 0))), (ld, .inl (e3, 61, .inl (fun _ => 0))), (ou, .inl (cJ, 1, .inr (.inl (fun _ => 0))))])) (hS : va_S (fun q : Nat => s.heap.size ≤ q) s.heap H locs) (hl : lv_has ls 9 [(4, .int 0), (3, .ref ou), (2, .ref mo), (1, .ref o), (0, .ref b)]) : W p l e room_1 s m #[Value.ref b] below meth c H locs 1000 10000 (lw_Z below #[Value.ref b] s) (F0 m 690 ls []) := by
  have C1 := C0
  obtain ⟨hx, hb, hr, hml, hown, hts, hX, hbl, hlocks, hgv⟩ := C0
  have hA : ∀ q : Nat, s.heap.size ≤ q → (fun q : Nat => s.heap.size ≤ q) q := fun _ h => h
  have hbA : ¬ (fun q : Nat => s.heap.size ≤ q) b := Nat.not_le.mpr hbl
  have hRf : room_1.frames = 13 := rfl
  have hRc : room_1.cells = 600002 := rfl
  have hRs : room_1.slots = 7302232 := rfl
  have hRl : room_1.locals = 522 := rfl
  generalize hAe : (fun q : Nat => s.heap.size ≤ q) = A at hP hD hS hA hbA hKX
  refine lv_aload_n hx hb dL_law_690 rfl (lv_at hl 3 rfl) ?_
  refine lv_aload_n hx hb dL_law_691 rfl (lv_at hl 4 rfl) ?_
  refine lv_iload hx hb dL_law_692 (lv_at hl 0 rfl) ?_
  refine lv_iconst (v := 1) hx hb dL_law_694 (by decide) ?_
  refine lv_iadd hx hb dL_law_695 ?_
  refine lv_topi (fun v_111 ev_111 => ?_)
  obtain rfl : v_111 = 1 := ev_111.trans (by decide)
  refine va_sld hx hb hX hbl hbA hS (vp_in_nI (n := 1) (N := 7) (by decide) (by decide)) dL_law_696 ?_
  refine lv_topi (fun v_112 ev_112 => ?_)
  obtain rfl : v_112 = (xs 1) := ev_112.trans rfl
  refine lv_aload_n hx hb dL_law_697 rfl (lv_at hl 4 rfl) ?_
  refine lv_iload hx hb dL_law_698 (lv_at hl 0 rfl) ?_
  refine lv_iconst (v := 2) hx hb dL_law_700 (by decide) ?_
  refine lv_iadd hx hb dL_law_701 ?_
  refine lv_topi (fun v_113 ev_113 => ?_)
  obtain rfl : v_113 = 2 := ev_113.trans (by decide)
  refine va_sld hx hb hX hbl hbA hS (vp_in_nI (n := 2) (N := 7) (by decide) (by decide)) dL_law_702 ?_
  refine lv_topi (fun v_114 ev_114 => ?_)
  obtain rfl : v_114 = (xs 2) := ev_114.trans rfl
  refine lv_aload_n hx hb dL_law_703 rfl (lv_at hl 1 rfl) ?_
  refine zcalliSWK (hh := [(0, 10, 13, 25)]) (As := [.ref o, .int (xs 1), .int (xs 2), .ref ou]) (rest := []) (wc := [(o, .inr (3, [.ref kA, .int 0, .int 20, .int 60, .int 2000, .int 0, .ref iA, .int 0, .int 0, .int 0, .ref tA, .ref tr, .ref lA, .int 0]))]) (wr := [(kA, .inl (cK, 10, .inr (.inr (.inr (.inr (fun _ => none)))))), (tA, .inl (cT, 120, .inl (fun _ => 0))), (mo, .inr (4, [.int 0, .int 0, .ref kT, .int 20, .int 60, .int 2000, .int 0, .int 0, .ref tb, .ref ld, .int 0, .ref lK, .ref lC, .int 0])), (kT, .inl (e1, 60, .inl (fun _ => 0))), (tb, .inl (e2, 366, .inl (fun _ => 0))), (ld, .inl (e3, 61, .inl (fun _ => 0))), (ou, .inl (cJ, 1, .inr (.inl (fun _ => 0))))]) ⟨hx, hb, hml, hown, hts⟩ (c_Litem_x l D _ hfl o kA iA tA tr lA ou (xs 1) (xs 2)) (vx_cwSW 4 hts zgS_L_item rfl rfl rfl (by decide +kernel) ⟨by rw [hRf]; exact Nat.le_of_ble_eq_true rfl, by rw [hRl]; exact Nat.le_of_ble_eq_true rfl⟩) hKX hK hP hD hS hA [0] [1, 2, 3, 4, 5, 6, 7] rfl (by decide) rfl (by decide) (by decide) [] rfl rfl hl.1 rfl (Nat.le_of_ble_eq_true rfl) dL_law_704 ⟨by omega, by omega⟩ (fun r_115 u_116 H locs hwu_116 hnu_116 hzu_116 hK hP hD hS => ?_)
  have hK : va_K D vwCl [(cK, .object RX1), (cT, .int), (e1, .int), (e2, .int), (e3, .int), (cJ, .long)] s := hK
  have hP : va_P D vwCl ([(kA, .inl (cK, 10, .inr (.inr (.inr (.inr (fun _ => none)))))), (tA, .inl (cT, 120, .inl (fun _ => 0))), (mo, .inr (4, [.int 0, .int 0, .ref kT, .int 20, .int 60, .int 2000, .int 0, .int 0, .ref tb, .ref ld, .int 0, .ref lK, .ref lC, .int 0])), (kT, .inl (e1, 60, .inl (fun _ => 0))), (tb, .inl (e2, 366, .inl (fun _ => 0))), (ld, .inl (e3, 61, .inl (fun _ => 0))), (ou, .inl (cJ, 1, .inr (.inl (fun _ => 0))))]) H := hP
  have hD : va_D A ([(kA, .inl (cK, 10, .inr (.inr (.inr (.inr (fun _ => none)))))), (tA, .inl (cT, 120, .inl (fun _ => 0))), (mo, .inr (4, [.int 0, .int 0, .ref kT, .int 20, .int 60, .int 2000, .int 0, .int 0, .ref tb, .ref ld, .int 0, .ref lK, .ref lC, .int 0])), (kT, .inl (e1, 60, .inl (fun _ => 0))), (tb, .inl (e2, 366, .inl (fun _ => 0))), (ld, .inl (e3, 61, .inl (fun _ => 0))), (ou, .inl (cJ, 1, .inr (.inl (fun _ => 0))))]) := hD
  refine lv_topi (fun v_117 ev_117 => ?_)
  obtain rfl : v_117 = 1 := ev_117.trans hwu_116
  refine lv_istore (lv' := [(5, .int 1), (4, .int 0), (3, .ref ou), (2, .ref mo), (1, .ref o), (0, .ref b)]) hx hb dL_law_707 hl (by decide) rfl (fun ls hl => ?_)
  refine lv_aload_n hx hb dL_law_709 rfl (lv_at hl 3 rfl) ?_
  refine lv_aload_n hx hb dL_law_710 rfl (lv_at hl 5 rfl) ?_
  refine lv_iload hx hb dL_law_711 (lv_at hl 1 rfl) ?_
  refine lv_iconst (v := 1) hx hb dL_law_713 (by decide) ?_
  refine lv_iadd hx hb dL_law_714 ?_
  refine lv_topi (fun v_118 ev_118 => ?_)
  obtain rfl : v_118 = 1 := ev_118.trans (by decide)
  refine va_sld hx hb hX hbl hbA hS (vp_in_nI (n := 1) (N := 7) (by decide) (by decide)) dL_law_715 ?_
  refine lv_topi (fun v_119 ev_119 => ?_)
  obtain rfl : v_119 = (xs 1) := ev_119.trans rfl
  refine lv_aload_n hx hb dL_law_716 rfl (lv_at hl 5 rfl) ?_
  refine lv_iload hx hb dL_law_717 (lv_at hl 1 rfl) ?_
  refine lv_iconst (v := 2) hx hb dL_law_719 (by decide) ?_
  refine lv_iadd hx hb dL_law_720 ?_
  refine lv_topi (fun v_120 ev_120 => ?_)
  obtain rfl : v_120 = 2 := ev_120.trans (by decide)
  refine va_sld hx hb hX hbl hbA hS (vp_in_nI (n := 2) (N := 7) (by decide) (by decide)) dL_law_721 ?_
  refine lv_topi (fun v_121 ev_121 => ?_)
  obtain rfl : v_121 = (xs 2) := ev_121.trans rfl
  refine zcalliV (As := [.int (xs 1), .int (xs 2)]) (rest := []) (wc := [(mo, .inr (4, [.int 0, .int 0, .ref kT, .int 20, .int 60, .int 2000, .int 0, .int 0, .ref tb, .ref ld, .int 0, .ref lK, .ref lC, .int 0]))]) (wr := [(kA, .inl (cK, 10, .inr (.inr (.inr (.inr (fun _ => none)))))), (tA, .inl (cT, 120, .inl (fun _ => 0))), (kT, .inl (e1, 60, .inl (fun _ => 0))), (tb, .inl (e2, 366, .inl (fun _ => 0))), (ld, .inl (e3, 61, .inl (fun _ => 0))), (ou, .inl (cJ, 1, .inr (.inl (fun _ => 0))))]) ⟨hx, hb, hml, hown, hts⟩ (c_Mitem l D _ mo kT tb ld lK lC (xs 1) (xs 2)) (cwV 2 hts zgV_X4_item rfl rfl rfl (by decide +kernel) ⟨by rw [hRf]; exact Nat.le_of_ble_eq_true rfl, by rw [hRl]; exact Nat.le_of_ble_eq_true rfl⟩) hK hP hD hS hA [2] [0, 1, 3, 4, 5, 6] rfl (by decide) rfl (by decide) (by decide) [] rfl (ci := 4) (q0 := 2) rfl rfl rfl hl.1 rfl (Nat.le_of_ble_eq_true rfl) dL_law_722 ⟨by omega, by omega⟩ (fun r_122 u_123 H locs hwu_123 hnu_123 hzu_123 hK hP hD hS => ?_)
  have hK : va_K D vwCl [(cK, .object RX1), (cT, .int), (e1, .int), (e2, .int), (e3, .int), (cJ, .long)] s := hK
  have hP : va_P D vwCl ([(kA, .inl (cK, 10, .inr (.inr (.inr (.inr (fun _ => none)))))), (tA, .inl (cT, 120, .inl (fun _ => 0))), (kT, .inl (e1, 60, .inl (fun _ => 0))), (tb, .inl (e2, 366, .inl (fun _ => 0))), (ld, .inl (e3, 61, .inl (fun _ => 0))), (ou, .inl (cJ, 1, .inr (.inl (fun _ => 0)))), (mo, .inr (4, [.int 1, .int 0, .ref kT, .int 20, .int 60, .int 2000, .int 0, .int 0, .ref tb, .ref ld, .int 0, .ref lK, .ref lC, .int 0]))]) H := hP
  have hD : va_D A ([(kA, .inl (cK, 10, .inr (.inr (.inr (.inr (fun _ => none)))))), (tA, .inl (cT, 120, .inl (fun _ => 0))), (kT, .inl (e1, 60, .inl (fun _ => 0))), (tb, .inl (e2, 366, .inl (fun _ => 0))), (ld, .inl (e3, 61, .inl (fun _ => 0))), (ou, .inl (cJ, 1, .inr (.inl (fun _ => 0)))), (mo, .inr (4, [.int 1, .int 0, .ref kT, .int 20, .int 60, .int 2000, .int 0, .int 0, .ref tb, .ref ld, .int 0, .ref lK, .ref lC, .int 0]))]) := hD
  refine lv_topi (fun v_124 ev_124 => ?_)
  obtain rfl : v_124 = 0 := ev_124.trans hwu_123
  refine lv_istore (lv' := [(6, .int 0), (5, .int 1), (4, .int 0), (3, .ref ou), (2, .ref mo), (1, .ref o), (0, .ref b)]) hx hb dL_law_725 hl (by decide) rfl (fun ls hl => ?_)
  refine lv_aload_n hx hb dL_law_727 rfl (lv_at hl 4 rfl) ?_
  refine zrdV (As := []) (rest := []) (wc := [(mo, .inr (4, [.int 1, .int 0, .ref kT, .int 20, .int 60, .int 2000, .int 0, .int 0, .ref tb, .ref ld, .int 0, .ref lK, .ref lC, .int 0]))]) ⟨hx, hb, hml, hown, hts⟩ (c_thrown l D _ mo [.int 1, .int 0, .ref kT, .int 20, .int 60, .int 2000, .int 0, .int 0, .ref tb, .ref ld, .int 0, .ref lK, .ref lC, .int 0] 1 rfl) (cwV 0 hts zgV_X4_thrown rfl rfl rfl (by decide +kernel) ⟨by rw [hRf]; exact Nat.le_of_ble_eq_true rfl, by rw [hRl]; exact Nat.le_of_ble_eq_true rfl⟩) hK hP hD [6] rfl (by decide) [] rfl (ci := 4) (q0 := 6) rfl rfl rfl hl.1 rfl (Nat.le_of_ble_eq_true rfl) dL_law_728 ⟨by omega, by omega⟩ (fun r_125 hr_125 => ?_)
  refine lv_topi (fun v_126 ev_126 => ?_)
  obtain rfl : v_126 = 1 := ev_126.trans hr_125
  refine lv_iload hx hb dL_law_731 (lv_at hl 1 rfl) ?_
  refine lv_icmp_eq (tgt := 738) hx hb dL_law_733 (by decide) (fun c_127 => ?_) (fun c_127 => absurd (rfl) c_127)
  refine lv_iload hx hb dL_law_738 (lv_at hl 1 rfl) ?_
  refine lv_if_ne (tgt := 755) hx hb dL_law_740 (by decide) (fun c_128 => ?_) (fun c_128 => absurd c_128 (by decide))
  refine lv_goto (tgt := 1463) hx hb dL_law_755 (by decide) ?_
  have hl := lv_sub hl (l' := [(4, .int 0), (3, .ref ou), (2, .ref mo), (1, .ref o), (0, .ref b)]) [2, 3, 4, 5, 6] rfl
  refine W.widen (k := 2000) (n := 20000) (by omega) (by omega) ?_
  subst hAe
  exact znext C1 o mo ou H locs ls hS hl
set_option maxHeartbeats 4000000 in
set_option maxRecDepth 100000 in
theorem zc_restsOn {p : Program} {e : Env} {s : State} {m : MethodId} {below : List Frame} {meth : Method} {c : Code} {l : Launch} {b : Nat} {xs : Nat → Int32} (C0 : lw_At p s m meth c b 7 xs) (hfl : l.stackTraces = false) {D : zG} (hKX : zKX (fun q : Nat => s.heap.size ≤ q) s) (o kA iA tA tr lA mo kT tb ld lK lC ou : Nat) (cK cT e1 e2 e3 cJ : ClassId) (H : Heap) (locs : List Loc) (ls : Array Slot) (hK : va_K D vwCl [(cK, .object RX1), (cT, .int), (e1, .int), (e2, .int), (e3, .int), (cJ, .long)] s) (hP : va_P D vwCl ([(o, .inr (3, [.ref kA, .int 0, .int 20, .int 60, .int 2000, .int 0, .ref iA, .int 0, .int 0, .int 0, .ref tA, .ref tr, .ref lA, .int 0])), (kA, .inl (cK, 10, .inr (.inr (.inr (.inr (fun _ => none)))))), (tA, .inl (cT, 120, .inl (fun _ => 0))), (mo, .inr (4, [.int 0, .int 0, .ref kT, .int 20, .int 60, .int 2000, .int 0, .int 0, .ref tb, .ref ld, .int 0, .ref lK, .ref lC, .int 0])), (kT, .inl (e1, 60, .inl (fun _ => 0))), (tb, .inl (e2, 366, .inl (fun _ => 0))), (ld, .inl (e3, 61, .inl (fun _ => 0))), (ou, .inl (cJ, 1, .inr (.inl (fun _ => 0))))]) H) (hD : va_D (fun q : Nat => s.heap.size ≤ q) ([(o, .inr (3, [.ref kA, .int 0, .int 20, .int 60, .int 2000, .int 0, .ref iA, .int 0, .int 0, .int 0, .ref tA, .ref tr, .ref lA, .int 0])), (kA, .inl (cK, 10, .inr (.inr (.inr (.inr (fun _ => none)))))), (tA, .inl (cT, 120, .inl (fun _ => 0))), (mo, .inr (4, [.int 0, .int 0, .ref kT, .int 20, .int 60, .int 2000, .int 0, .int 0, .ref tb, .ref ld, .int 0, .ref lK, .ref lC, .int 0])), (kT, .inl (e1, 60, .inl (fun _ => 0))), (tb, .inl (e2, 366, .inl (fun _ => 0))), (ld, .inl (e3, 61, .inl (fun _ => 0))), (ou, .inl (cJ, 1, .inr (.inl (fun _ => 0))))])) (hS : va_S (fun q : Nat => s.heap.size ≤ q) s.heap H locs) (hl : lv_has ls 9 [(4, .int 0), (3, .ref ou), (2, .ref mo), (1, .ref o), (0, .ref b)]) : W p l e room_1 s m #[Value.ref b] below meth c H locs 1000 10000 (lw_Z below #[Value.ref b] s) (F0 m 906 ls []) := by
  have C1 := C0
  obtain ⟨hx, hb, hr, hml, hown, hts, hX, hbl, hlocks, hgv⟩ := C0
  have hA : ∀ q : Nat, s.heap.size ≤ q → (fun q : Nat => s.heap.size ≤ q) q := fun _ h => h
  have hbA : ¬ (fun q : Nat => s.heap.size ≤ q) b := Nat.not_le.mpr hbl
  have hRf : room_1.frames = 13 := rfl
  have hRc : room_1.cells = 600002 := rfl
  have hRs : room_1.slots = 7302232 := rfl
  have hRl : room_1.locals = 522 := rfl
  generalize hAe : (fun q : Nat => s.heap.size ≤ q) = A at hP hD hS hA hbA hKX
  refine lv_aload_n hx hb dL_law_906 rfl (lv_at hl 3 rfl) ?_
  refine lv_aload_n hx hb dL_law_907 rfl (lv_at hl 4 rfl) ?_
  refine lv_iload hx hb dL_law_908 (lv_at hl 0 rfl) ?_
  refine lv_iconst (v := 1) hx hb dL_law_910 (by decide) ?_
  refine lv_iadd hx hb dL_law_911 ?_
  refine lv_topi (fun v_129 ev_129 => ?_)
  obtain rfl : v_129 = 1 := ev_129.trans (by decide)
  refine va_sld hx hb hX hbl hbA hS (vp_in_nI (n := 1) (N := 7) (by decide) (by decide)) dL_law_912 ?_
  refine lv_topi (fun v_130 ev_130 => ?_)
  obtain rfl : v_130 = (xs 1) := ev_130.trans rfl
  refine lv_aload_n hx hb dL_law_913 rfl (lv_at hl 4 rfl) ?_
  refine lv_iload hx hb dL_law_914 (lv_at hl 0 rfl) ?_
  refine lv_iconst (v := 2) hx hb dL_law_916 (by decide) ?_
  refine lv_iadd hx hb dL_law_917 ?_
  refine lv_topi (fun v_131 ev_131 => ?_)
  obtain rfl : v_131 = 2 := ev_131.trans (by decide)
  refine va_sld hx hb hX hbl hbA hS (vp_in_nI (n := 2) (N := 7) (by decide) (by decide)) dL_law_918 ?_
  refine lv_topi (fun v_132 ev_132 => ?_)
  obtain rfl : v_132 = (xs 2) := ev_132.trans rfl
  refine lv_aload_n hx hb dL_law_919 rfl (lv_at hl 1 rfl) ?_
  refine zcalliSWK (hh := [(0, 17, 20, 25)]) (As := [.ref o, .int (xs 1), .int (xs 2), .ref ou]) (rest := []) (wc := [(o, .inr (3, [.ref kA, .int 0, .int 20, .int 60, .int 2000, .int 0, .ref iA, .int 0, .int 0, .int 0, .ref tA, .ref tr, .ref lA, .int 0]))]) (wr := [(kA, .inl (cK, 10, .inr (.inr (.inr (.inr (fun _ => none)))))), (tA, .inl (cT, 120, .inl (fun _ => 0))), (mo, .inr (4, [.int 0, .int 0, .ref kT, .int 20, .int 60, .int 2000, .int 0, .int 0, .ref tb, .ref ld, .int 0, .ref lK, .ref lC, .int 0])), (kT, .inl (e1, 60, .inl (fun _ => 0))), (tb, .inl (e2, 366, .inl (fun _ => 0))), (ld, .inl (e3, 61, .inl (fun _ => 0))), (ou, .inl (cJ, 1, .inr (.inl (fun _ => 0))))]) ⟨hx, hb, hml, hown, hts⟩ (c_LrestsOn_x l D _ hfl o kA iA tA tr lA ou (xs 1) (xs 2)) (vx_cwSW 4 hts zgS_L_restsOn rfl rfl rfl (by decide +kernel) ⟨by rw [hRf]; exact Nat.le_of_ble_eq_true rfl, by rw [hRl]; exact Nat.le_of_ble_eq_true rfl⟩) hKX hK hP hD hS hA [0] [1, 2, 3, 4, 5, 6, 7] rfl (by decide) rfl (by decide) (by decide) [] rfl rfl hl.1 rfl (Nat.le_of_ble_eq_true rfl) dL_law_920 ⟨by omega, by omega⟩ (fun r_133 u_134 H locs hwu_134 hnu_134 hzu_134 hK hP hD hS => ?_)
  have hK : va_K D vwCl [(cK, .object RX1), (cT, .int), (e1, .int), (e2, .int), (e3, .int), (cJ, .long)] s := hK
  have hP : va_P D vwCl ([(kA, .inl (cK, 10, .inr (.inr (.inr (.inr (fun _ => none)))))), (tA, .inl (cT, 120, .inl (fun _ => 0))), (mo, .inr (4, [.int 0, .int 0, .ref kT, .int 20, .int 60, .int 2000, .int 0, .int 0, .ref tb, .ref ld, .int 0, .ref lK, .ref lC, .int 0])), (kT, .inl (e1, 60, .inl (fun _ => 0))), (tb, .inl (e2, 366, .inl (fun _ => 0))), (ld, .inl (e3, 61, .inl (fun _ => 0))), (ou, .inl (cJ, 1, .inr (.inl (fun _ => 0))))]) H := hP
  have hD : va_D A ([(kA, .inl (cK, 10, .inr (.inr (.inr (.inr (fun _ => none)))))), (tA, .inl (cT, 120, .inl (fun _ => 0))), (mo, .inr (4, [.int 0, .int 0, .ref kT, .int 20, .int 60, .int 2000, .int 0, .int 0, .ref tb, .ref ld, .int 0, .ref lK, .ref lC, .int 0])), (kT, .inl (e1, 60, .inl (fun _ => 0))), (tb, .inl (e2, 366, .inl (fun _ => 0))), (ld, .inl (e3, 61, .inl (fun _ => 0))), (ou, .inl (cJ, 1, .inr (.inl (fun _ => 0))))]) := hD
  refine lv_topi (fun v_135 ev_135 => ?_)
  obtain rfl : v_135 = 1 := ev_135.trans hwu_134
  refine lv_istore (lv' := [(5, .int 1), (4, .int 0), (3, .ref ou), (2, .ref mo), (1, .ref o), (0, .ref b)]) hx hb dL_law_923 hl (by decide) rfl (fun ls hl => ?_)
  refine lv_aload_n hx hb dL_law_925 rfl (lv_at hl 3 rfl) ?_
  refine lv_aload_n hx hb dL_law_926 rfl (lv_at hl 5 rfl) ?_
  refine lv_iload hx hb dL_law_927 (lv_at hl 1 rfl) ?_
  refine lv_iconst (v := 1) hx hb dL_law_929 (by decide) ?_
  refine lv_iadd hx hb dL_law_930 ?_
  refine lv_topi (fun v_136 ev_136 => ?_)
  obtain rfl : v_136 = 1 := ev_136.trans (by decide)
  refine va_sld hx hb hX hbl hbA hS (vp_in_nI (n := 1) (N := 7) (by decide) (by decide)) dL_law_931 ?_
  refine lv_topi (fun v_137 ev_137 => ?_)
  obtain rfl : v_137 = (xs 1) := ev_137.trans rfl
  refine lv_aload_n hx hb dL_law_932 rfl (lv_at hl 5 rfl) ?_
  refine lv_iload hx hb dL_law_933 (lv_at hl 1 rfl) ?_
  refine lv_iconst (v := 2) hx hb dL_law_935 (by decide) ?_
  refine lv_iadd hx hb dL_law_936 ?_
  refine lv_topi (fun v_138 ev_138 => ?_)
  obtain rfl : v_138 = 2 := ev_138.trans (by decide)
  refine va_sld hx hb hX hbl hbA hS (vp_in_nI (n := 2) (N := 7) (by decide) (by decide)) dL_law_937 ?_
  refine lv_topi (fun v_139 ev_139 => ?_)
  obtain rfl : v_139 = (xs 2) := ev_139.trans rfl
  refine zcalliV (As := [.int (xs 1), .int (xs 2)]) (rest := []) (wc := [(mo, .inr (4, [.int 0, .int 0, .ref kT, .int 20, .int 60, .int 2000, .int 0, .int 0, .ref tb, .ref ld, .int 0, .ref lK, .ref lC, .int 0]))]) (wr := [(kA, .inl (cK, 10, .inr (.inr (.inr (.inr (fun _ => none)))))), (tA, .inl (cT, 120, .inl (fun _ => 0))), (kT, .inl (e1, 60, .inl (fun _ => 0))), (tb, .inl (e2, 366, .inl (fun _ => 0))), (ld, .inl (e3, 61, .inl (fun _ => 0))), (ou, .inl (cJ, 1, .inr (.inl (fun _ => 0))))]) ⟨hx, hb, hml, hown, hts⟩ (c_MrestsOn l D _ mo kT tb ld lK lC (xs 1) (xs 2)) (cwV 2 hts zgV_X4_restsOn rfl rfl rfl (by decide +kernel) ⟨by rw [hRf]; exact Nat.le_of_ble_eq_true rfl, by rw [hRl]; exact Nat.le_of_ble_eq_true rfl⟩) hK hP hD hS hA [2] [0, 1, 3, 4, 5, 6] rfl (by decide) rfl (by decide) (by decide) [] rfl (ci := 4) (q0 := 2) rfl rfl rfl hl.1 rfl (Nat.le_of_ble_eq_true rfl) dL_law_938 ⟨by omega, by omega⟩ (fun r_140 u_141 H locs hwu_141 hnu_141 hzu_141 hK hP hD hS => ?_)
  have hK : va_K D vwCl [(cK, .object RX1), (cT, .int), (e1, .int), (e2, .int), (e3, .int), (cJ, .long)] s := hK
  have hP : va_P D vwCl ([(kA, .inl (cK, 10, .inr (.inr (.inr (.inr (fun _ => none)))))), (tA, .inl (cT, 120, .inl (fun _ => 0))), (kT, .inl (e1, 60, .inl (fun _ => 0))), (tb, .inl (e2, 366, .inl (fun _ => 0))), (ld, .inl (e3, 61, .inl (fun _ => 0))), (ou, .inl (cJ, 1, .inr (.inl (fun _ => 0)))), (mo, .inr (4, [.int 1, .int 0, .ref kT, .int 20, .int 60, .int 2000, .int 0, .int 0, .ref tb, .ref ld, .int 0, .ref lK, .ref lC, .int 0]))]) H := hP
  have hD : va_D A ([(kA, .inl (cK, 10, .inr (.inr (.inr (.inr (fun _ => none)))))), (tA, .inl (cT, 120, .inl (fun _ => 0))), (kT, .inl (e1, 60, .inl (fun _ => 0))), (tb, .inl (e2, 366, .inl (fun _ => 0))), (ld, .inl (e3, 61, .inl (fun _ => 0))), (ou, .inl (cJ, 1, .inr (.inl (fun _ => 0)))), (mo, .inr (4, [.int 1, .int 0, .ref kT, .int 20, .int 60, .int 2000, .int 0, .int 0, .ref tb, .ref ld, .int 0, .ref lK, .ref lC, .int 0]))]) := hD
  refine lv_topi (fun v_142 ev_142 => ?_)
  obtain rfl : v_142 = 0 := ev_142.trans hwu_141
  refine lv_istore (lv' := [(6, .int 0), (5, .int 1), (4, .int 0), (3, .ref ou), (2, .ref mo), (1, .ref o), (0, .ref b)]) hx hb dL_law_941 hl (by decide) rfl (fun ls hl => ?_)
  refine lv_aload_n hx hb dL_law_943 rfl (lv_at hl 4 rfl) ?_
  refine zrdV (As := []) (rest := []) (wc := [(mo, .inr (4, [.int 1, .int 0, .ref kT, .int 20, .int 60, .int 2000, .int 0, .int 0, .ref tb, .ref ld, .int 0, .ref lK, .ref lC, .int 0]))]) ⟨hx, hb, hml, hown, hts⟩ (c_thrown l D _ mo [.int 1, .int 0, .ref kT, .int 20, .int 60, .int 2000, .int 0, .int 0, .ref tb, .ref ld, .int 0, .ref lK, .ref lC, .int 0] 1 rfl) (cwV 0 hts zgV_X4_thrown rfl rfl rfl (by decide +kernel) ⟨by rw [hRf]; exact Nat.le_of_ble_eq_true rfl, by rw [hRl]; exact Nat.le_of_ble_eq_true rfl⟩) hK hP hD [6] rfl (by decide) [] rfl (ci := 4) (q0 := 6) rfl rfl rfl hl.1 rfl (Nat.le_of_ble_eq_true rfl) dL_law_944 ⟨by omega, by omega⟩ (fun r_143 hr_143 => ?_)
  refine lv_topi (fun v_144 ev_144 => ?_)
  obtain rfl : v_144 = 1 := ev_144.trans hr_143
  refine lv_iload hx hb dL_law_947 (lv_at hl 1 rfl) ?_
  refine lv_icmp_eq (tgt := 954) hx hb dL_law_949 (by decide) (fun c_145 => ?_) (fun c_145 => absurd (rfl) c_145)
  refine lv_iload hx hb dL_law_954 (lv_at hl 1 rfl) ?_
  refine lv_if_ne (tgt := 978) hx hb dL_law_956 (by decide) (fun c_146 => ?_) (fun c_146 => absurd c_146 (by decide))
  refine lv_goto (tgt := 1463) hx hb dL_law_978 (by decide) ?_
  have hl := lv_sub hl (l' := [(4, .int 0), (3, .ref ou), (2, .ref mo), (1, .ref o), (0, .ref b)]) [2, 3, 4, 5, 6] rfl
  refine W.widen (k := 2000) (n := 20000) (by omega) (by omega) ?_
  subst hAe
  exact znext C1 o mo ou H locs ls hS hl
set_option maxHeartbeats 4000000 in
set_option maxRecDepth 100000 in
theorem zc_best {p : Program} {e : Env} {s : State} {m : MethodId} {below : List Frame} {meth : Method} {c : Code} {l : Launch} {b : Nat} {xs : Nat → Int32} (C0 : lw_At p s m meth c b 7 xs) (hfl : l.stackTraces = false) {D : zG} (hKX : zKX (fun q : Nat => s.heap.size ≤ q) s) (o kA iA tA tr lA mo kT tb ld lK lC ou : Nat) (cK cT e1 e2 e3 cJ : ClassId) (H : Heap) (locs : List Loc) (ls : Array Slot) (hK : va_K D vwCl [(cK, .object RX1), (cT, .int), (e1, .int), (e2, .int), (e3, .int), (cJ, .long)] s) (hP : va_P D vwCl ([(o, .inr (3, [.ref kA, .int 0, .int 20, .int 60, .int 2000, .int 0, .ref iA, .int 0, .int 0, .int 0, .ref tA, .ref tr, .ref lA, .int 0])), (kA, .inl (cK, 10, .inr (.inr (.inr (.inr (fun _ => none)))))), (tA, .inl (cT, 120, .inl (fun _ => 0))), (mo, .inr (4, [.int 0, .int 0, .ref kT, .int 20, .int 60, .int 2000, .int 0, .int 0, .ref tb, .ref ld, .int 0, .ref lK, .ref lC, .int 0])), (kT, .inl (e1, 60, .inl (fun _ => 0))), (tb, .inl (e2, 366, .inl (fun _ => 0))), (ld, .inl (e3, 61, .inl (fun _ => 0))), (ou, .inl (cJ, 1, .inr (.inl (fun _ => 0))))]) H) (hD : va_D (fun q : Nat => s.heap.size ≤ q) ([(o, .inr (3, [.ref kA, .int 0, .int 20, .int 60, .int 2000, .int 0, .ref iA, .int 0, .int 0, .int 0, .ref tA, .ref tr, .ref lA, .int 0])), (kA, .inl (cK, 10, .inr (.inr (.inr (.inr (fun _ => none)))))), (tA, .inl (cT, 120, .inl (fun _ => 0))), (mo, .inr (4, [.int 0, .int 0, .ref kT, .int 20, .int 60, .int 2000, .int 0, .int 0, .ref tb, .ref ld, .int 0, .ref lK, .ref lC, .int 0])), (kT, .inl (e1, 60, .inl (fun _ => 0))), (tb, .inl (e2, 366, .inl (fun _ => 0))), (ld, .inl (e3, 61, .inl (fun _ => 0))), (ou, .inl (cJ, 1, .inr (.inl (fun _ => 0))))])) (hS : va_S (fun q : Nat => s.heap.size ≤ q) s.heap H locs) (hl : lv_has ls 9 [(4, .int 0), (3, .ref ou), (2, .ref mo), (1, .ref o), (0, .ref b)]) : W p l e room_1 s m #[Value.ref b] below meth c H locs 1000 10000 (lw_Z below #[Value.ref b] s) (F0 m 981 ls []) := by
  have C1 := C0
  obtain ⟨hx, hb, hr, hml, hown, hts, hX, hbl, hlocks, hgv⟩ := C0
  have hA : ∀ q : Nat, s.heap.size ≤ q → (fun q : Nat => s.heap.size ≤ q) q := fun _ h => h
  have hbA : ¬ (fun q : Nat => s.heap.size ≤ q) b := Nat.not_le.mpr hbl
  have hRf : room_1.frames = 13 := rfl
  have hRc : room_1.cells = 600002 := rfl
  have hRs : room_1.slots = 7302232 := rfl
  have hRl : room_1.locals = 522 := rfl
  generalize hAe : (fun q : Nat => s.heap.size ≤ q) = A at hP hD hS hA hbA hKX
  refine lv_aload_n hx hb dL_law_981 rfl (lv_at hl 3 rfl) ?_
  refine lv_aload_n hx hb dL_law_982 rfl (lv_at hl 4 rfl) ?_
  refine lv_iload hx hb dL_law_983 (lv_at hl 0 rfl) ?_
  refine lv_iconst (v := 1) hx hb dL_law_985 (by decide) ?_
  refine lv_iadd hx hb dL_law_986 ?_
  refine lv_topi (fun v_147 ev_147 => ?_)
  obtain rfl : v_147 = 1 := ev_147.trans (by decide)
  refine va_sld hx hb hX hbl hbA hS (vp_in_nI (n := 1) (N := 7) (by decide) (by decide)) dL_law_987 ?_
  refine lv_topi (fun v_148 ev_148 => ?_)
  obtain rfl : v_148 = (xs 1) := ev_148.trans rfl
  refine lv_aload_n hx hb dL_law_988 rfl (lv_at hl 1 rfl) ?_
  refine zcalliSWK (hh := [(0, 9, 12, 25)]) (As := [.ref o, .int (xs 1), .ref ou]) (rest := []) (wc := [(o, .inr (3, [.ref kA, .int 0, .int 20, .int 60, .int 2000, .int 0, .ref iA, .int 0, .int 0, .int 0, .ref tA, .ref tr, .ref lA, .int 0]))]) (wr := [(kA, .inl (cK, 10, .inr (.inr (.inr (.inr (fun _ => none)))))), (tA, .inl (cT, 120, .inl (fun _ => 0))), (mo, .inr (4, [.int 0, .int 0, .ref kT, .int 20, .int 60, .int 2000, .int 0, .int 0, .ref tb, .ref ld, .int 0, .ref lK, .ref lC, .int 0])), (kT, .inl (e1, 60, .inl (fun _ => 0))), (tb, .inl (e2, 366, .inl (fun _ => 0))), (ld, .inl (e3, 61, .inl (fun _ => 0))), (ou, .inl (cJ, 1, .inr (.inl (fun _ => 0))))]) ⟨hx, hb, hml, hown, hts⟩ (c_Lbest_x l D _ hfl o kA iA tA tr lA ou (xs 1)) (vx_cwSW 3 hts zgS_L_best rfl rfl rfl (by decide +kernel) ⟨by rw [hRf]; exact Nat.le_of_ble_eq_true rfl, by rw [hRl]; exact Nat.le_of_ble_eq_true rfl⟩) hKX hK hP hD hS hA [0] [1, 2, 3, 4, 5, 6, 7] rfl (by decide) rfl (by decide) (by decide) [] rfl rfl hl.1 rfl (Nat.le_of_ble_eq_true rfl) dL_law_989 ⟨by omega, by omega⟩ (fun r_149 u_150 H locs hwu_150 hnu_150 hzu_150 hK hP hD hS => ?_)
  have hK : va_K D vwCl [(cK, .object RX1), (cT, .int), (e1, .int), (e2, .int), (e3, .int), (cJ, .long)] s := hK
  have hP : va_P D vwCl ([(kA, .inl (cK, 10, .inr (.inr (.inr (.inr (fun _ => none)))))), (tA, .inl (cT, 120, .inl (fun _ => 0))), (mo, .inr (4, [.int 0, .int 0, .ref kT, .int 20, .int 60, .int 2000, .int 0, .int 0, .ref tb, .ref ld, .int 0, .ref lK, .ref lC, .int 0])), (kT, .inl (e1, 60, .inl (fun _ => 0))), (tb, .inl (e2, 366, .inl (fun _ => 0))), (ld, .inl (e3, 61, .inl (fun _ => 0))), (ou, .inl (cJ, 1, .inr (.inl (fun _ => 0))))]) H := hP
  have hD : va_D A ([(kA, .inl (cK, 10, .inr (.inr (.inr (.inr (fun _ => none)))))), (tA, .inl (cT, 120, .inl (fun _ => 0))), (mo, .inr (4, [.int 0, .int 0, .ref kT, .int 20, .int 60, .int 2000, .int 0, .int 0, .ref tb, .ref ld, .int 0, .ref lK, .ref lC, .int 0])), (kT, .inl (e1, 60, .inl (fun _ => 0))), (tb, .inl (e2, 366, .inl (fun _ => 0))), (ld, .inl (e3, 61, .inl (fun _ => 0))), (ou, .inl (cJ, 1, .inr (.inl (fun _ => 0))))]) := hD
  refine lv_topi (fun v_151 ev_151 => ?_)
  obtain rfl : v_151 = 1 := ev_151.trans hwu_150
  refine lv_istore (lv' := [(5, .int 1), (4, .int 0), (3, .ref ou), (2, .ref mo), (1, .ref o), (0, .ref b)]) hx hb dL_law_992 hl (by decide) rfl (fun ls hl => ?_)
  refine lv_aload_n hx hb dL_law_994 rfl (lv_at hl 3 rfl) ?_
  refine lv_aload_n hx hb dL_law_995 rfl (lv_at hl 5 rfl) ?_
  refine lv_iload hx hb dL_law_996 (lv_at hl 1 rfl) ?_
  refine lv_iconst (v := 1) hx hb dL_law_998 (by decide) ?_
  refine lv_iadd hx hb dL_law_999 ?_
  refine lv_topi (fun v_152 ev_152 => ?_)
  obtain rfl : v_152 = 1 := ev_152.trans (by decide)
  refine va_sld hx hb hX hbl hbA hS (vp_in_nI (n := 1) (N := 7) (by decide) (by decide)) dL_law_1000 ?_
  refine lv_topi (fun v_153 ev_153 => ?_)
  obtain rfl : v_153 = (xs 1) := ev_153.trans rfl
  refine zcalliV (As := [.int (xs 1)]) (rest := []) (wc := [(mo, .inr (4, [.int 0, .int 0, .ref kT, .int 20, .int 60, .int 2000, .int 0, .int 0, .ref tb, .ref ld, .int 0, .ref lK, .ref lC, .int 0]))]) (wr := [(kA, .inl (cK, 10, .inr (.inr (.inr (.inr (fun _ => none)))))), (tA, .inl (cT, 120, .inl (fun _ => 0))), (kT, .inl (e1, 60, .inl (fun _ => 0))), (tb, .inl (e2, 366, .inl (fun _ => 0))), (ld, .inl (e3, 61, .inl (fun _ => 0))), (ou, .inl (cJ, 1, .inr (.inl (fun _ => 0))))]) ⟨hx, hb, hml, hown, hts⟩ (c_Mbest l D _ mo kT tb ld lK lC (xs 1)) (cwV 1 hts zgV_X4_best rfl rfl rfl (by decide +kernel) ⟨by rw [hRf]; exact Nat.le_of_ble_eq_true rfl, by rw [hRl]; exact Nat.le_of_ble_eq_true rfl⟩) hK hP hD hS hA [2] [0, 1, 3, 4, 5, 6] rfl (by decide) rfl (by decide) (by decide) [] rfl (ci := 4) (q0 := 2) rfl rfl rfl hl.1 rfl (Nat.le_of_ble_eq_true rfl) dL_law_1001 ⟨by omega, by omega⟩ (fun r_154 u_155 H locs hwu_155 hnu_155 hzu_155 hK hP hD hS => ?_)
  have hK : va_K D vwCl [(cK, .object RX1), (cT, .int), (e1, .int), (e2, .int), (e3, .int), (cJ, .long)] s := hK
  have hP : va_P D vwCl ([(kA, .inl (cK, 10, .inr (.inr (.inr (.inr (fun _ => none)))))), (tA, .inl (cT, 120, .inl (fun _ => 0))), (kT, .inl (e1, 60, .inl (fun _ => 0))), (tb, .inl (e2, 366, .inl (fun _ => 0))), (ld, .inl (e3, 61, .inl (fun _ => 0))), (ou, .inl (cJ, 1, .inr (.inl (fun _ => 0)))), (mo, .inr (4, [.int 1, .int 0, .ref kT, .int 20, .int 60, .int 2000, .int 0, .int 0, .ref tb, .ref ld, .int 0, .ref lK, .ref lC, .int 0]))]) H := hP
  have hD : va_D A ([(kA, .inl (cK, 10, .inr (.inr (.inr (.inr (fun _ => none)))))), (tA, .inl (cT, 120, .inl (fun _ => 0))), (kT, .inl (e1, 60, .inl (fun _ => 0))), (tb, .inl (e2, 366, .inl (fun _ => 0))), (ld, .inl (e3, 61, .inl (fun _ => 0))), (ou, .inl (cJ, 1, .inr (.inl (fun _ => 0)))), (mo, .inr (4, [.int 1, .int 0, .ref kT, .int 20, .int 60, .int 2000, .int 0, .int 0, .ref tb, .ref ld, .int 0, .ref lK, .ref lC, .int 0]))]) := hD
  refine lv_topi (fun v_156 ev_156 => ?_)
  obtain rfl : v_156 = 0 := ev_156.trans hwu_155
  refine lv_istore (lv' := [(6, .int 0), (5, .int 1), (4, .int 0), (3, .ref ou), (2, .ref mo), (1, .ref o), (0, .ref b)]) hx hb dL_law_1004 hl (by decide) rfl (fun ls hl => ?_)
  refine lv_aload_n hx hb dL_law_1006 rfl (lv_at hl 4 rfl) ?_
  refine zrdV (As := []) (rest := []) (wc := [(mo, .inr (4, [.int 1, .int 0, .ref kT, .int 20, .int 60, .int 2000, .int 0, .int 0, .ref tb, .ref ld, .int 0, .ref lK, .ref lC, .int 0]))]) ⟨hx, hb, hml, hown, hts⟩ (c_thrown l D _ mo [.int 1, .int 0, .ref kT, .int 20, .int 60, .int 2000, .int 0, .int 0, .ref tb, .ref ld, .int 0, .ref lK, .ref lC, .int 0] 1 rfl) (cwV 0 hts zgV_X4_thrown rfl rfl rfl (by decide +kernel) ⟨by rw [hRf]; exact Nat.le_of_ble_eq_true rfl, by rw [hRl]; exact Nat.le_of_ble_eq_true rfl⟩) hK hP hD [6] rfl (by decide) [] rfl (ci := 4) (q0 := 6) rfl rfl rfl hl.1 rfl (Nat.le_of_ble_eq_true rfl) dL_law_1007 ⟨by omega, by omega⟩ (fun r_157 hr_157 => ?_)
  refine lv_topi (fun v_158 ev_158 => ?_)
  obtain rfl : v_158 = 1 := ev_158.trans hr_157
  refine lv_iload hx hb dL_law_1010 (lv_at hl 1 rfl) ?_
  refine lv_icmp_eq (tgt := 1017) hx hb dL_law_1012 (by decide) (fun c_159 => ?_) (fun c_159 => absurd (rfl) c_159)
  refine lv_iload hx hb dL_law_1017 (lv_at hl 1 rfl) ?_
  refine lv_if_ne (tgt := 1034) hx hb dL_law_1019 (by decide) (fun c_160 => ?_) (fun c_160 => absurd c_160 (by decide))
  refine lv_goto (tgt := 1463) hx hb dL_law_1034 (by decide) ?_
  have hl := lv_sub hl (l' := [(4, .int 0), (3, .ref ou), (2, .ref mo), (1, .ref o), (0, .ref b)]) [2, 3, 4, 5, 6] rfl
  refine W.widen (k := 2000) (n := 20000) (by omega) (by omega) ?_
  subst hAe
  exact znext C1 o mo ou H locs ls hS hl
set_option maxHeartbeats 4000000 in
set_option maxRecDepth 100000 in
theorem zc_fill {p : Program} {e : Env} {s : State} {m : MethodId} {below : List Frame} {meth : Method} {c : Code} {l : Launch} {b : Nat} {xs : Nat → Int32} (C0 : lw_At p s m meth c b 7 xs) (hfl : l.stackTraces = false) {D : zG} (hKX : zKX (fun q : Nat => s.heap.size ≤ q) s) (o kA iA tA tr lA mo kT tb ld lK lC ou : Nat) (cK cT e1 e2 e3 cJ : ClassId) (H : Heap) (locs : List Loc) (ls : Array Slot) (hK : va_K D vwCl [(cK, .object RX1), (cT, .int), (e1, .int), (e2, .int), (e3, .int), (cJ, .long)] s) (hP : va_P D vwCl ([(o, .inr (3, [.ref kA, .int 0, .int 20, .int 60, .int 2000, .int 0, .ref iA, .int 0, .int 0, .int 0, .ref tA, .ref tr, .ref lA, .int 0])), (kA, .inl (cK, 10, .inr (.inr (.inr (.inr (fun _ => none)))))), (tA, .inl (cT, 120, .inl (fun _ => 0))), (mo, .inr (4, [.int 0, .int 0, .ref kT, .int 20, .int 60, .int 2000, .int 0, .int 0, .ref tb, .ref ld, .int 0, .ref lK, .ref lC, .int 0])), (kT, .inl (e1, 60, .inl (fun _ => 0))), (tb, .inl (e2, 366, .inl (fun _ => 0))), (ld, .inl (e3, 61, .inl (fun _ => 0))), (ou, .inl (cJ, 1, .inr (.inl (fun _ => 0))))]) H) (hD : va_D (fun q : Nat => s.heap.size ≤ q) ([(o, .inr (3, [.ref kA, .int 0, .int 20, .int 60, .int 2000, .int 0, .ref iA, .int 0, .int 0, .int 0, .ref tA, .ref tr, .ref lA, .int 0])), (kA, .inl (cK, 10, .inr (.inr (.inr (.inr (fun _ => none)))))), (tA, .inl (cT, 120, .inl (fun _ => 0))), (mo, .inr (4, [.int 0, .int 0, .ref kT, .int 20, .int 60, .int 2000, .int 0, .int 0, .ref tb, .ref ld, .int 0, .ref lK, .ref lC, .int 0])), (kT, .inl (e1, 60, .inl (fun _ => 0))), (tb, .inl (e2, 366, .inl (fun _ => 0))), (ld, .inl (e3, 61, .inl (fun _ => 0))), (ou, .inl (cJ, 1, .inr (.inl (fun _ => 0))))])) (hS : va_S (fun q : Nat => s.heap.size ≤ q) s.heap H locs) (hl : lv_has ls 9 [(4, .int 0), (3, .ref ou), (2, .ref mo), (1, .ref o), (0, .ref b)]) : W p l e room_1 s m #[Value.ref b] below meth c H locs 1000 10000 (lw_Z below #[Value.ref b] s) (F0 m 1037 ls []) := by
  have C1 := C0
  obtain ⟨hx, hb, hr, hml, hown, hts, hX, hbl, hlocks, hgv⟩ := C0
  have hA : ∀ q : Nat, s.heap.size ≤ q → (fun q : Nat => s.heap.size ≤ q) q := fun _ h => h
  have hbA : ¬ (fun q : Nat => s.heap.size ≤ q) b := Nat.not_le.mpr hbl
  have hRf : room_1.frames = 13 := rfl
  have hRc : room_1.cells = 600002 := rfl
  have hRs : room_1.slots = 7302232 := rfl
  have hRl : room_1.locals = 522 := rfl
  generalize hAe : (fun q : Nat => s.heap.size ≤ q) = A at hP hD hS hA hbA hKX
  refine lv_aload_n hx hb dL_law_1037 rfl (lv_at hl 3 rfl) ?_
  refine lv_aload_n hx hb dL_law_1038 rfl (lv_at hl 4 rfl) ?_
  refine lv_iload hx hb dL_law_1039 (lv_at hl 0 rfl) ?_
  refine lv_iconst (v := 1) hx hb dL_law_1041 (by decide) ?_
  refine lv_iadd hx hb dL_law_1042 ?_
  refine lv_topi (fun v_161 ev_161 => ?_)
  obtain rfl : v_161 = 1 := ev_161.trans (by decide)
  refine va_sld hx hb hX hbl hbA hS (vp_in_nI (n := 1) (N := 7) (by decide) (by decide)) dL_law_1043 ?_
  refine lv_topi (fun v_162 ev_162 => ?_)
  obtain rfl : v_162 = (xs 1) := ev_162.trans rfl
  refine lv_aload_n hx hb dL_law_1044 rfl (lv_at hl 4 rfl) ?_
  refine lv_iload hx hb dL_law_1045 (lv_at hl 0 rfl) ?_
  refine lv_iconst (v := 2) hx hb dL_law_1047 (by decide) ?_
  refine lv_iadd hx hb dL_law_1048 ?_
  refine lv_topi (fun v_163 ev_163 => ?_)
  obtain rfl : v_163 = 2 := ev_163.trans (by decide)
  refine va_sld hx hb hX hbl hbA hS (vp_in_nI (n := 2) (N := 7) (by decide) (by decide)) dL_law_1049 ?_
  refine lv_topi (fun v_164 ev_164 => ?_)
  obtain rfl : v_164 = (xs 2) := ev_164.trans rfl
  refine lv_aload_n hx hb dL_law_1050 rfl (lv_at hl 1 rfl) ?_
  refine zcalliSWK (hh := [(0, 10, 13, 25), (0, 10, 17, 13)]) (As := [.ref o, .int (xs 1), .int (xs 2), .ref ou]) (rest := []) (wc := [(o, .inr (3, [.ref kA, .int 0, .int 20, .int 60, .int 2000, .int 0, .ref iA, .int 0, .int 0, .int 0, .ref tA, .ref tr, .ref lA, .int 0]))]) (wr := [(kA, .inl (cK, 10, .inr (.inr (.inr (.inr (fun _ => none)))))), (tA, .inl (cT, 120, .inl (fun _ => 0))), (mo, .inr (4, [.int 0, .int 0, .ref kT, .int 20, .int 60, .int 2000, .int 0, .int 0, .ref tb, .ref ld, .int 0, .ref lK, .ref lC, .int 0])), (kT, .inl (e1, 60, .inl (fun _ => 0))), (tb, .inl (e2, 366, .inl (fun _ => 0))), (ld, .inl (e3, 61, .inl (fun _ => 0))), (ou, .inl (cJ, 1, .inr (.inl (fun _ => 0))))]) ⟨hx, hb, hml, hown, hts⟩ (c_Lfill_x l D _ hfl o kA iA tA tr lA ou (xs 1) (xs 2)) (vx_cwSW 4 hts zgS_L_fill rfl rfl rfl (by decide +kernel) ⟨by rw [hRf]; exact Nat.le_of_ble_eq_true rfl, by rw [hRl]; exact Nat.le_of_ble_eq_true rfl⟩) hKX hK hP hD hS hA [0] [1, 2, 3, 4, 5, 6, 7] rfl (by decide) rfl (by decide) (by decide) [] rfl rfl hl.1 rfl (Nat.le_of_ble_eq_true rfl) dL_law_1051 ⟨by omega, by omega⟩ (fun r_165 u_166 H locs hwu_166 hnu_166 hzu_166 hK hP hD hS => ?_)
  have hK : va_K D vwCl [(cK, .object RX1), (cT, .int), (e1, .int), (e2, .int), (e3, .int), (cJ, .long)] s := hK
  have hP : va_P D vwCl ([(kA, .inl (cK, 10, .inr (.inr (.inr (.inr (fun _ => none)))))), (tA, .inl (cT, 120, .inl (fun _ => 0))), (mo, .inr (4, [.int 0, .int 0, .ref kT, .int 20, .int 60, .int 2000, .int 0, .int 0, .ref tb, .ref ld, .int 0, .ref lK, .ref lC, .int 0])), (kT, .inl (e1, 60, .inl (fun _ => 0))), (tb, .inl (e2, 366, .inl (fun _ => 0))), (ld, .inl (e3, 61, .inl (fun _ => 0))), (ou, .inl (cJ, 1, .inr (.inl (fun _ => 0))))]) H := hP
  have hD : va_D A ([(kA, .inl (cK, 10, .inr (.inr (.inr (.inr (fun _ => none)))))), (tA, .inl (cT, 120, .inl (fun _ => 0))), (mo, .inr (4, [.int 0, .int 0, .ref kT, .int 20, .int 60, .int 2000, .int 0, .int 0, .ref tb, .ref ld, .int 0, .ref lK, .ref lC, .int 0])), (kT, .inl (e1, 60, .inl (fun _ => 0))), (tb, .inl (e2, 366, .inl (fun _ => 0))), (ld, .inl (e3, 61, .inl (fun _ => 0))), (ou, .inl (cJ, 1, .inr (.inl (fun _ => 0))))]) := hD
  refine lv_topi (fun v_167 ev_167 => ?_)
  obtain rfl : v_167 = 1 := ev_167.trans hwu_166
  refine lv_istore (lv' := [(5, .int 1), (4, .int 0), (3, .ref ou), (2, .ref mo), (1, .ref o), (0, .ref b)]) hx hb dL_law_1054 hl (by decide) rfl (fun ls hl => ?_)
  refine lv_aload_n hx hb dL_law_1056 rfl (lv_at hl 3 rfl) ?_
  refine lv_aload_n hx hb dL_law_1057 rfl (lv_at hl 5 rfl) ?_
  refine lv_iload hx hb dL_law_1058 (lv_at hl 1 rfl) ?_
  refine lv_iconst (v := 1) hx hb dL_law_1060 (by decide) ?_
  refine lv_iadd hx hb dL_law_1061 ?_
  refine lv_topi (fun v_168 ev_168 => ?_)
  obtain rfl : v_168 = 1 := ev_168.trans (by decide)
  refine va_sld hx hb hX hbl hbA hS (vp_in_nI (n := 1) (N := 7) (by decide) (by decide)) dL_law_1062 ?_
  refine lv_topi (fun v_169 ev_169 => ?_)
  obtain rfl : v_169 = (xs 1) := ev_169.trans rfl
  refine lv_aload_n hx hb dL_law_1063 rfl (lv_at hl 5 rfl) ?_
  refine lv_iload hx hb dL_law_1064 (lv_at hl 1 rfl) ?_
  refine lv_iconst (v := 2) hx hb dL_law_1066 (by decide) ?_
  refine lv_iadd hx hb dL_law_1067 ?_
  refine lv_topi (fun v_170 ev_170 => ?_)
  obtain rfl : v_170 = 2 := ev_170.trans (by decide)
  refine va_sld hx hb hX hbl hbA hS (vp_in_nI (n := 2) (N := 7) (by decide) (by decide)) dL_law_1068 ?_
  refine lv_topi (fun v_171 ev_171 => ?_)
  obtain rfl : v_171 = (xs 2) := ev_171.trans rfl
  refine zcalliV (As := [.int (xs 1), .int (xs 2)]) (rest := []) (wc := [(mo, .inr (4, [.int 0, .int 0, .ref kT, .int 20, .int 60, .int 2000, .int 0, .int 0, .ref tb, .ref ld, .int 0, .ref lK, .ref lC, .int 0]))]) (wr := [(kA, .inl (cK, 10, .inr (.inr (.inr (.inr (fun _ => none)))))), (tA, .inl (cT, 120, .inl (fun _ => 0))), (kT, .inl (e1, 60, .inl (fun _ => 0))), (tb, .inl (e2, 366, .inl (fun _ => 0))), (ld, .inl (e3, 61, .inl (fun _ => 0))), (ou, .inl (cJ, 1, .inr (.inl (fun _ => 0))))]) ⟨hx, hb, hml, hown, hts⟩ (c_Mfill l D _ mo kT tb ld lK lC (xs 1) (xs 2)) (cwV 2 hts zgV_X4_fill rfl rfl rfl (by decide +kernel) ⟨by rw [hRf]; exact Nat.le_of_ble_eq_true rfl, by rw [hRl]; exact Nat.le_of_ble_eq_true rfl⟩) hK hP hD hS hA [2] [0, 1, 3, 4, 5, 6] rfl (by decide) rfl (by decide) (by decide) [] rfl (ci := 4) (q0 := 2) rfl rfl rfl hl.1 rfl (Nat.le_of_ble_eq_true rfl) dL_law_1069 ⟨by omega, by omega⟩ (fun r_172 u_173 H locs hwu_173 hnu_173 hzu_173 hK hP hD hS => ?_)
  have hK : va_K D vwCl [(cK, .object RX1), (cT, .int), (e1, .int), (e2, .int), (e3, .int), (cJ, .long)] s := hK
  have hP : va_P D vwCl ([(kA, .inl (cK, 10, .inr (.inr (.inr (.inr (fun _ => none)))))), (tA, .inl (cT, 120, .inl (fun _ => 0))), (kT, .inl (e1, 60, .inl (fun _ => 0))), (tb, .inl (e2, 366, .inl (fun _ => 0))), (ld, .inl (e3, 61, .inl (fun _ => 0))), (ou, .inl (cJ, 1, .inr (.inl (fun _ => 0)))), (mo, .inr (4, [.int 1, .int 0, .ref kT, .int 20, .int 60, .int 2000, .int 0, .int 0, .ref tb, .ref ld, .int 0, .ref lK, .ref lC, .int 0]))]) H := hP
  have hD : va_D A ([(kA, .inl (cK, 10, .inr (.inr (.inr (.inr (fun _ => none)))))), (tA, .inl (cT, 120, .inl (fun _ => 0))), (kT, .inl (e1, 60, .inl (fun _ => 0))), (tb, .inl (e2, 366, .inl (fun _ => 0))), (ld, .inl (e3, 61, .inl (fun _ => 0))), (ou, .inl (cJ, 1, .inr (.inl (fun _ => 0)))), (mo, .inr (4, [.int 1, .int 0, .ref kT, .int 20, .int 60, .int 2000, .int 0, .int 0, .ref tb, .ref ld, .int 0, .ref lK, .ref lC, .int 0]))]) := hD
  refine lv_topi (fun v_174 ev_174 => ?_)
  obtain rfl : v_174 = 0 := ev_174.trans hwu_173
  refine lv_istore (lv' := [(6, .int 0), (5, .int 1), (4, .int 0), (3, .ref ou), (2, .ref mo), (1, .ref o), (0, .ref b)]) hx hb dL_law_1072 hl (by decide) rfl (fun ls hl => ?_)
  refine lv_aload_n hx hb dL_law_1074 rfl (lv_at hl 4 rfl) ?_
  refine zrdV (As := []) (rest := []) (wc := [(mo, .inr (4, [.int 1, .int 0, .ref kT, .int 20, .int 60, .int 2000, .int 0, .int 0, .ref tb, .ref ld, .int 0, .ref lK, .ref lC, .int 0]))]) ⟨hx, hb, hml, hown, hts⟩ (c_thrown l D _ mo [.int 1, .int 0, .ref kT, .int 20, .int 60, .int 2000, .int 0, .int 0, .ref tb, .ref ld, .int 0, .ref lK, .ref lC, .int 0] 1 rfl) (cwV 0 hts zgV_X4_thrown rfl rfl rfl (by decide +kernel) ⟨by rw [hRf]; exact Nat.le_of_ble_eq_true rfl, by rw [hRl]; exact Nat.le_of_ble_eq_true rfl⟩) hK hP hD [6] rfl (by decide) [] rfl (ci := 4) (q0 := 6) rfl rfl rfl hl.1 rfl (Nat.le_of_ble_eq_true rfl) dL_law_1075 ⟨by omega, by omega⟩ (fun r_175 hr_175 => ?_)
  refine lv_topi (fun v_176 ev_176 => ?_)
  obtain rfl : v_176 = 1 := ev_176.trans hr_175
  refine lv_iload hx hb dL_law_1078 (lv_at hl 1 rfl) ?_
  refine lv_icmp_eq (tgt := 1085) hx hb dL_law_1080 (by decide) (fun c_177 => ?_) (fun c_177 => absurd (rfl) c_177)
  refine lv_iload hx hb dL_law_1085 (lv_at hl 1 rfl) ?_
  refine lv_if_ne (tgt := 1102) hx hb dL_law_1087 (by decide) (fun c_178 => ?_) (fun c_178 => absurd c_178 (by decide))
  refine lv_goto (tgt := 1463) hx hb dL_law_1102 (by decide) ?_
  have hl := lv_sub hl (l' := [(4, .int 0), (3, .ref ou), (2, .ref mo), (1, .ref o), (0, .ref b)]) [2, 3, 4, 5, 6] rfl
  refine W.widen (k := 2000) (n := 20000) (by omega) (by omega) ?_
  subst hAe
  exact znext C1 o mo ou H locs ls hS hl
set_option maxHeartbeats 4000000 in
set_option maxRecDepth 100000 in
theorem zc_addLine {p : Program} {e : Env} {s : State} {m : MethodId} {below : List Frame} {meth : Method} {c : Code} {l : Launch} {b : Nat} {xs : Nat → Int32} (C0 : lw_At p s m meth c b 7 xs) (hfl : l.stackTraces = false) {D : zG} (hKX : zKX (fun q : Nat => s.heap.size ≤ q) s) (o kA iA tA tr lA mo kT tb ld lK lC ou : Nat) (cK cT e1 e2 e3 cJ : ClassId) (H : Heap) (locs : List Loc) (ls : Array Slot) (hK : va_K D vwCl [(cK, .object RX1), (cT, .int), (e1, .int), (e2, .int), (e3, .int), (cJ, .long)] s) (hP : va_P D vwCl ([(o, .inr (3, [.ref kA, .int 0, .int 20, .int 60, .int 2000, .int 0, .ref iA, .int 0, .int 0, .int 0, .ref tA, .ref tr, .ref lA, .int 0])), (kA, .inl (cK, 10, .inr (.inr (.inr (.inr (fun _ => none)))))), (tA, .inl (cT, 120, .inl (fun _ => 0))), (mo, .inr (4, [.int 0, .int 0, .ref kT, .int 20, .int 60, .int 2000, .int 0, .int 0, .ref tb, .ref ld, .int 0, .ref lK, .ref lC, .int 0])), (kT, .inl (e1, 60, .inl (fun _ => 0))), (tb, .inl (e2, 366, .inl (fun _ => 0))), (ld, .inl (e3, 61, .inl (fun _ => 0))), (ou, .inl (cJ, 1, .inr (.inl (fun _ => 0))))]) H) (hD : va_D (fun q : Nat => s.heap.size ≤ q) ([(o, .inr (3, [.ref kA, .int 0, .int 20, .int 60, .int 2000, .int 0, .ref iA, .int 0, .int 0, .int 0, .ref tA, .ref tr, .ref lA, .int 0])), (kA, .inl (cK, 10, .inr (.inr (.inr (.inr (fun _ => none)))))), (tA, .inl (cT, 120, .inl (fun _ => 0))), (mo, .inr (4, [.int 0, .int 0, .ref kT, .int 20, .int 60, .int 2000, .int 0, .int 0, .ref tb, .ref ld, .int 0, .ref lK, .ref lC, .int 0])), (kT, .inl (e1, 60, .inl (fun _ => 0))), (tb, .inl (e2, 366, .inl (fun _ => 0))), (ld, .inl (e3, 61, .inl (fun _ => 0))), (ou, .inl (cJ, 1, .inr (.inl (fun _ => 0))))])) (hS : va_S (fun q : Nat => s.heap.size ≤ q) s.heap H locs) (hl : lv_has ls 9 [(4, .int 0), (3, .ref ou), (2, .ref mo), (1, .ref o), (0, .ref b)]) : W p l e room_1 s m #[Value.ref b] below meth c H locs 1000 10000 (lw_Z below #[Value.ref b] s) (F0 m 1105 ls []) := by
  have C1 := C0
  obtain ⟨hx, hb, hr, hml, hown, hts, hX, hbl, hlocks, hgv⟩ := C0
  have hA : ∀ q : Nat, s.heap.size ≤ q → (fun q : Nat => s.heap.size ≤ q) q := fun _ h => h
  have hbA : ¬ (fun q : Nat => s.heap.size ≤ q) b := Nat.not_le.mpr hbl
  have hRf : room_1.frames = 13 := rfl
  have hRc : room_1.cells = 600002 := rfl
  have hRs : room_1.slots = 7302232 := rfl
  have hRl : room_1.locals = 522 := rfl
  generalize hAe : (fun q : Nat => s.heap.size ≤ q) = A at hP hD hS hA hbA hKX
  refine lv_aload_n hx hb dL_law_1105 rfl (lv_at hl 3 rfl) ?_
  refine lv_aload_n hx hb dL_law_1106 rfl (lv_at hl 4 rfl) ?_
  refine lv_iload hx hb dL_law_1107 (lv_at hl 0 rfl) ?_
  refine lv_iconst (v := 1) hx hb dL_law_1109 (by decide) ?_
  refine lv_iadd hx hb dL_law_1110 ?_
  refine lv_topi (fun v_179 ev_179 => ?_)
  obtain rfl : v_179 = 1 := ev_179.trans (by decide)
  refine va_sld hx hb hX hbl hbA hS (vp_in_nI (n := 1) (N := 7) (by decide) (by decide)) dL_law_1111 ?_
  refine lv_topi (fun v_180 ev_180 => ?_)
  obtain rfl : v_180 = (xs 1) := ev_180.trans rfl
  refine lv_aload_n hx hb dL_law_1112 rfl (lv_at hl 4 rfl) ?_
  refine lv_iload hx hb dL_law_1113 (lv_at hl 0 rfl) ?_
  refine lv_iconst (v := 2) hx hb dL_law_1115 (by decide) ?_
  refine lv_iadd hx hb dL_law_1116 ?_
  refine lv_topi (fun v_181 ev_181 => ?_)
  obtain rfl : v_181 = 2 := ev_181.trans (by decide)
  refine va_sld hx hb hX hbl hbA hS (vp_in_nI (n := 2) (N := 7) (by decide) (by decide)) dL_law_1117 ?_
  refine lv_topi (fun v_182 ev_182 => ?_)
  obtain rfl : v_182 = (xs 2) := ev_182.trans rfl
  refine lv_aload_n hx hb dL_law_1118 rfl (lv_at hl 1 rfl) ?_
  refine zcalliSWK (hh := [(0, 10, 13, 25), (0, 10, 17, 13), (0, 10, 21, 15)]) (As := [.ref o, .int (xs 1), .int (xs 2), .ref ou]) (rest := []) (wc := [(o, .inr (3, [.ref kA, .int 0, .int 20, .int 60, .int 2000, .int 0, .ref iA, .int 0, .int 0, .int 0, .ref tA, .ref tr, .ref lA, .int 0]))]) (wr := [(kA, .inl (cK, 10, .inr (.inr (.inr (.inr (fun _ => none)))))), (tA, .inl (cT, 120, .inl (fun _ => 0))), (mo, .inr (4, [.int 0, .int 0, .ref kT, .int 20, .int 60, .int 2000, .int 0, .int 0, .ref tb, .ref ld, .int 0, .ref lK, .ref lC, .int 0])), (kT, .inl (e1, 60, .inl (fun _ => 0))), (tb, .inl (e2, 366, .inl (fun _ => 0))), (ld, .inl (e3, 61, .inl (fun _ => 0))), (ou, .inl (cJ, 1, .inr (.inl (fun _ => 0))))]) ⟨hx, hb, hml, hown, hts⟩ (c_LaddLine_x l D _ hfl o kA iA tA tr lA ou (xs 1) (xs 2)) (vx_cwSW 4 hts zgS_L_addLine rfl rfl rfl (by decide +kernel) ⟨by rw [hRf]; exact Nat.le_of_ble_eq_true rfl, by rw [hRl]; exact Nat.le_of_ble_eq_true rfl⟩) hKX hK hP hD hS hA [0] [1, 2, 3, 4, 5, 6, 7] rfl (by decide) rfl (by decide) (by decide) [] rfl rfl hl.1 rfl (Nat.le_of_ble_eq_true rfl) dL_law_1119 ⟨by omega, by omega⟩ (fun r_183 u_184 H locs hwu_184 hnu_184 hzu_184 hK hP hD hS => ?_)
  have hK : va_K D vwCl [(cK, .object RX1), (cT, .int), (e1, .int), (e2, .int), (e3, .int), (cJ, .long)] s := hK
  have hP : va_P D vwCl ([(kA, .inl (cK, 10, .inr (.inr (.inr (.inr (fun _ => none)))))), (tA, .inl (cT, 120, .inl (fun _ => 0))), (mo, .inr (4, [.int 0, .int 0, .ref kT, .int 20, .int 60, .int 2000, .int 0, .int 0, .ref tb, .ref ld, .int 0, .ref lK, .ref lC, .int 0])), (kT, .inl (e1, 60, .inl (fun _ => 0))), (tb, .inl (e2, 366, .inl (fun _ => 0))), (ld, .inl (e3, 61, .inl (fun _ => 0))), (ou, .inl (cJ, 1, .inr (.inl (fun _ => 0))))]) H := hP
  have hD : va_D A ([(kA, .inl (cK, 10, .inr (.inr (.inr (.inr (fun _ => none)))))), (tA, .inl (cT, 120, .inl (fun _ => 0))), (mo, .inr (4, [.int 0, .int 0, .ref kT, .int 20, .int 60, .int 2000, .int 0, .int 0, .ref tb, .ref ld, .int 0, .ref lK, .ref lC, .int 0])), (kT, .inl (e1, 60, .inl (fun _ => 0))), (tb, .inl (e2, 366, .inl (fun _ => 0))), (ld, .inl (e3, 61, .inl (fun _ => 0))), (ou, .inl (cJ, 1, .inr (.inl (fun _ => 0))))]) := hD
  refine lv_topi (fun v_185 ev_185 => ?_)
  obtain rfl : v_185 = 1 := ev_185.trans hwu_184
  refine lv_istore (lv' := [(5, .int 1), (4, .int 0), (3, .ref ou), (2, .ref mo), (1, .ref o), (0, .ref b)]) hx hb dL_law_1122 hl (by decide) rfl (fun ls hl => ?_)
  refine lv_aload_n hx hb dL_law_1124 rfl (lv_at hl 3 rfl) ?_
  refine lv_aload_n hx hb dL_law_1125 rfl (lv_at hl 5 rfl) ?_
  refine lv_iload hx hb dL_law_1126 (lv_at hl 1 rfl) ?_
  refine lv_iconst (v := 1) hx hb dL_law_1128 (by decide) ?_
  refine lv_iadd hx hb dL_law_1129 ?_
  refine lv_topi (fun v_186 ev_186 => ?_)
  obtain rfl : v_186 = 1 := ev_186.trans (by decide)
  refine va_sld hx hb hX hbl hbA hS (vp_in_nI (n := 1) (N := 7) (by decide) (by decide)) dL_law_1130 ?_
  refine lv_topi (fun v_187 ev_187 => ?_)
  obtain rfl : v_187 = (xs 1) := ev_187.trans rfl
  refine lv_aload_n hx hb dL_law_1131 rfl (lv_at hl 5 rfl) ?_
  refine lv_iload hx hb dL_law_1132 (lv_at hl 1 rfl) ?_
  refine lv_iconst (v := 2) hx hb dL_law_1134 (by decide) ?_
  refine lv_iadd hx hb dL_law_1135 ?_
  refine lv_topi (fun v_188 ev_188 => ?_)
  obtain rfl : v_188 = 2 := ev_188.trans (by decide)
  refine va_sld hx hb hX hbl hbA hS (vp_in_nI (n := 2) (N := 7) (by decide) (by decide)) dL_law_1136 ?_
  refine lv_topi (fun v_189 ev_189 => ?_)
  obtain rfl : v_189 = (xs 2) := ev_189.trans rfl
  refine zcalliV (As := [.int (xs 1), .int (xs 2)]) (rest := []) (wc := [(mo, .inr (4, [.int 0, .int 0, .ref kT, .int 20, .int 60, .int 2000, .int 0, .int 0, .ref tb, .ref ld, .int 0, .ref lK, .ref lC, .int 0]))]) (wr := [(kA, .inl (cK, 10, .inr (.inr (.inr (.inr (fun _ => none)))))), (tA, .inl (cT, 120, .inl (fun _ => 0))), (kT, .inl (e1, 60, .inl (fun _ => 0))), (tb, .inl (e2, 366, .inl (fun _ => 0))), (ld, .inl (e3, 61, .inl (fun _ => 0))), (ou, .inl (cJ, 1, .inr (.inl (fun _ => 0))))]) ⟨hx, hb, hml, hown, hts⟩ (c_MaddLine l D _ mo kT tb ld lK lC (xs 1) (xs 2)) (cwV 2 hts zgV_X4_addLine rfl rfl rfl (by decide +kernel) ⟨by rw [hRf]; exact Nat.le_of_ble_eq_true rfl, by rw [hRl]; exact Nat.le_of_ble_eq_true rfl⟩) hK hP hD hS hA [2] [0, 1, 3, 4, 5, 6] rfl (by decide) rfl (by decide) (by decide) [] rfl (ci := 4) (q0 := 2) rfl rfl rfl hl.1 rfl (Nat.le_of_ble_eq_true rfl) dL_law_1137 ⟨by omega, by omega⟩ (fun r_190 u_191 H locs hwu_191 hnu_191 hzu_191 hK hP hD hS => ?_)
  have hK : va_K D vwCl [(cK, .object RX1), (cT, .int), (e1, .int), (e2, .int), (e3, .int), (cJ, .long)] s := hK
  have hP : va_P D vwCl ([(kA, .inl (cK, 10, .inr (.inr (.inr (.inr (fun _ => none)))))), (tA, .inl (cT, 120, .inl (fun _ => 0))), (kT, .inl (e1, 60, .inl (fun _ => 0))), (tb, .inl (e2, 366, .inl (fun _ => 0))), (ld, .inl (e3, 61, .inl (fun _ => 0))), (ou, .inl (cJ, 1, .inr (.inl (fun _ => 0)))), (mo, .inr (4, [.int 1, .int 0, .ref kT, .int 20, .int 60, .int 2000, .int 0, .int 0, .ref tb, .ref ld, .int 0, .ref lK, .ref lC, .int 0]))]) H := hP
  have hD : va_D A ([(kA, .inl (cK, 10, .inr (.inr (.inr (.inr (fun _ => none)))))), (tA, .inl (cT, 120, .inl (fun _ => 0))), (kT, .inl (e1, 60, .inl (fun _ => 0))), (tb, .inl (e2, 366, .inl (fun _ => 0))), (ld, .inl (e3, 61, .inl (fun _ => 0))), (ou, .inl (cJ, 1, .inr (.inl (fun _ => 0)))), (mo, .inr (4, [.int 1, .int 0, .ref kT, .int 20, .int 60, .int 2000, .int 0, .int 0, .ref tb, .ref ld, .int 0, .ref lK, .ref lC, .int 0]))]) := hD
  refine lv_topi (fun v_192 ev_192 => ?_)
  obtain rfl : v_192 = 0 := ev_192.trans hwu_191
  refine lv_istore (lv' := [(6, .int 0), (5, .int 1), (4, .int 0), (3, .ref ou), (2, .ref mo), (1, .ref o), (0, .ref b)]) hx hb dL_law_1140 hl (by decide) rfl (fun ls hl => ?_)
  refine lv_aload_n hx hb dL_law_1142 rfl (lv_at hl 4 rfl) ?_
  refine zrdV (As := []) (rest := []) (wc := [(mo, .inr (4, [.int 1, .int 0, .ref kT, .int 20, .int 60, .int 2000, .int 0, .int 0, .ref tb, .ref ld, .int 0, .ref lK, .ref lC, .int 0]))]) ⟨hx, hb, hml, hown, hts⟩ (c_thrown l D _ mo [.int 1, .int 0, .ref kT, .int 20, .int 60, .int 2000, .int 0, .int 0, .ref tb, .ref ld, .int 0, .ref lK, .ref lC, .int 0] 1 rfl) (cwV 0 hts zgV_X4_thrown rfl rfl rfl (by decide +kernel) ⟨by rw [hRf]; exact Nat.le_of_ble_eq_true rfl, by rw [hRl]; exact Nat.le_of_ble_eq_true rfl⟩) hK hP hD [6] rfl (by decide) [] rfl (ci := 4) (q0 := 6) rfl rfl rfl hl.1 rfl (Nat.le_of_ble_eq_true rfl) dL_law_1143 ⟨by omega, by omega⟩ (fun r_193 hr_193 => ?_)
  refine lv_topi (fun v_194 ev_194 => ?_)
  obtain rfl : v_194 = 1 := ev_194.trans hr_193
  refine lv_iload hx hb dL_law_1146 (lv_at hl 1 rfl) ?_
  refine lv_icmp_eq (tgt := 1153) hx hb dL_law_1148 (by decide) (fun c_195 => ?_) (fun c_195 => absurd (rfl) c_195)
  refine lv_iload hx hb dL_law_1153 (lv_at hl 1 rfl) ?_
  refine lv_if_ne (tgt := 1170) hx hb dL_law_1155 (by decide) (fun c_196 => ?_) (fun c_196 => absurd c_196 (by decide))
  refine lv_goto (tgt := 1463) hx hb dL_law_1170 (by decide) ?_
  have hl := lv_sub hl (l' := [(4, .int 0), (3, .ref ou), (2, .ref mo), (1, .ref o), (0, .ref b)]) [2, 3, 4, 5, 6] rfl
  refine W.widen (k := 2000) (n := 20000) (by omega) (by omega) ?_
  subst hAe
  exact znext C1 o mo ou H locs ls hS hl
set_option maxHeartbeats 4000000 in
set_option maxRecDepth 100000 in
theorem zc_line {p : Program} {e : Env} {s : State} {m : MethodId} {below : List Frame} {meth : Method} {c : Code} {l : Launch} {b : Nat} {xs : Nat → Int32} (C0 : lw_At p s m meth c b 7 xs) (hfl : l.stackTraces = false) {D : zG} (hKX : zKX (fun q : Nat => s.heap.size ≤ q) s) (o kA iA tA tr lA mo kT tb ld lK lC ou : Nat) (cK cT e1 e2 e3 cJ : ClassId) (H : Heap) (locs : List Loc) (ls : Array Slot) (hK : va_K D vwCl [(cK, .object RX1), (cT, .int), (e1, .int), (e2, .int), (e3, .int), (cJ, .long)] s) (hP : va_P D vwCl ([(o, .inr (3, [.ref kA, .int 0, .int 20, .int 60, .int 2000, .int 0, .ref iA, .int 0, .int 0, .int 0, .ref tA, .ref tr, .ref lA, .int 0])), (kA, .inl (cK, 10, .inr (.inr (.inr (.inr (fun _ => none)))))), (tA, .inl (cT, 120, .inl (fun _ => 0))), (mo, .inr (4, [.int 0, .int 0, .ref kT, .int 20, .int 60, .int 2000, .int 0, .int 0, .ref tb, .ref ld, .int 0, .ref lK, .ref lC, .int 0])), (kT, .inl (e1, 60, .inl (fun _ => 0))), (tb, .inl (e2, 366, .inl (fun _ => 0))), (ld, .inl (e3, 61, .inl (fun _ => 0))), (ou, .inl (cJ, 1, .inr (.inl (fun _ => 0))))]) H) (hD : va_D (fun q : Nat => s.heap.size ≤ q) ([(o, .inr (3, [.ref kA, .int 0, .int 20, .int 60, .int 2000, .int 0, .ref iA, .int 0, .int 0, .int 0, .ref tA, .ref tr, .ref lA, .int 0])), (kA, .inl (cK, 10, .inr (.inr (.inr (.inr (fun _ => none)))))), (tA, .inl (cT, 120, .inl (fun _ => 0))), (mo, .inr (4, [.int 0, .int 0, .ref kT, .int 20, .int 60, .int 2000, .int 0, .int 0, .ref tb, .ref ld, .int 0, .ref lK, .ref lC, .int 0])), (kT, .inl (e1, 60, .inl (fun _ => 0))), (tb, .inl (e2, 366, .inl (fun _ => 0))), (ld, .inl (e3, 61, .inl (fun _ => 0))), (ou, .inl (cJ, 1, .inr (.inl (fun _ => 0))))])) (hS : va_S (fun q : Nat => s.heap.size ≤ q) s.heap H locs) (hl : lv_has ls 9 [(4, .int 0), (3, .ref ou), (2, .ref mo), (1, .ref o), (0, .ref b)]) : W p l e room_1 s m #[Value.ref b] below meth c H locs 1000 10000 (lw_Z below #[Value.ref b] s) (F0 m 1186 ls []) := by
  have C1 := C0
  obtain ⟨hx, hb, hr, hml, hown, hts, hX, hbl, hlocks, hgv⟩ := C0
  have hA : ∀ q : Nat, s.heap.size ≤ q → (fun q : Nat => s.heap.size ≤ q) q := fun _ h => h
  have hbA : ¬ (fun q : Nat => s.heap.size ≤ q) b := Nat.not_le.mpr hbl
  have hRf : room_1.frames = 13 := rfl
  have hRc : room_1.cells = 600002 := rfl
  have hRs : room_1.slots = 7302232 := rfl
  have hRl : room_1.locals = 522 := rfl
  generalize hAe : (fun q : Nat => s.heap.size ≤ q) = A at hP hD hS hA hbA hKX
  refine lv_aload_n hx hb dL_law_1186 rfl (lv_at hl 3 rfl) ?_
  refine lv_aload_n hx hb dL_law_1187 rfl (lv_at hl 4 rfl) ?_
  refine lv_iload hx hb dL_law_1188 (lv_at hl 0 rfl) ?_
  refine lv_iconst (v := 1) hx hb dL_law_1190 (by decide) ?_
  refine lv_iadd hx hb dL_law_1191 ?_
  refine lv_topi (fun v_197 ev_197 => ?_)
  obtain rfl : v_197 = 1 := ev_197.trans (by decide)
  refine va_sld hx hb hX hbl hbA hS (vp_in_nI (n := 1) (N := 7) (by decide) (by decide)) dL_law_1192 ?_
  refine lv_topi (fun v_198 ev_198 => ?_)
  obtain rfl : v_198 = (xs 1) := ev_198.trans rfl
  refine lv_aload_n hx hb dL_law_1193 rfl (lv_at hl 4 rfl) ?_
  refine lv_iload hx hb dL_law_1194 (lv_at hl 0 rfl) ?_
  refine lv_iconst (v := 2) hx hb dL_law_1196 (by decide) ?_
  refine lv_iadd hx hb dL_law_1197 ?_
  refine lv_topi (fun v_199 ev_199 => ?_)
  obtain rfl : v_199 = 2 := ev_199.trans (by decide)
  refine va_sld hx hb hX hbl hbA hS (vp_in_nI (n := 2) (N := 7) (by decide) (by decide)) dL_law_1198 ?_
  refine lv_topi (fun v_200 ev_200 => ?_)
  obtain rfl : v_200 = (xs 2) := ev_200.trans rfl
  refine lv_if_eq (tgt := 1206) hx hb dL_law_1199 (by decide) (fun c_201 => ?_) (fun c_201 => ?_)
  · have h_b := True.intro
    refine lv_iconst (v := 0) hx hb dL_law_1206 (by decide) ?_
    refine lv_aload_n hx hb dL_law_1207 rfl (lv_at hl 1 rfl) ?_
    refine zcalliSWK (hh := [(0, 10, 13, 25)]) (As := [.ref o, .int (xs 1), .int 0, .ref ou]) (rest := []) (wc := [(o, .inr (3, [.ref kA, .int 0, .int 20, .int 60, .int 2000, .int 0, .ref iA, .int 0, .int 0, .int 0, .ref tA, .ref tr, .ref lA, .int 0]))]) (wr := [(kA, .inl (cK, 10, .inr (.inr (.inr (.inr (fun _ => none)))))), (tA, .inl (cT, 120, .inl (fun _ => 0))), (mo, .inr (4, [.int 0, .int 0, .ref kT, .int 20, .int 60, .int 2000, .int 0, .int 0, .ref tb, .ref ld, .int 0, .ref lK, .ref lC, .int 0])), (kT, .inl (e1, 60, .inl (fun _ => 0))), (tb, .inl (e2, 366, .inl (fun _ => 0))), (ld, .inl (e3, 61, .inl (fun _ => 0))), (ou, .inl (cJ, 1, .inr (.inl (fun _ => 0))))]) ⟨hx, hb, hml, hown, hts⟩ (c_Lline_x l D _ hfl o kA iA tA tr lA ou (xs 1) 0) (vx_cwSW 4 hts zgS_L_line rfl rfl rfl (by decide +kernel) ⟨by rw [hRf]; exact Nat.le_of_ble_eq_true rfl, by rw [hRl]; exact Nat.le_of_ble_eq_true rfl⟩) hKX hK hP hD hS hA [0] [1, 2, 3, 4, 5, 6, 7] rfl (by decide) rfl (by decide) (by decide) [] rfl rfl hl.1 rfl (Nat.le_of_ble_eq_true rfl) dL_law_1208 ⟨by omega, by omega⟩ (fun r_202 u_203 H locs hwu_203 hnu_203 hzu_203 hK hP hD hS => ?_)
    have hK : va_K D vwCl [(cK, .object RX1), (cT, .int), (e1, .int), (e2, .int), (e3, .int), (cJ, .long)] s := hK
    have hP : va_P D vwCl ([(kA, .inl (cK, 10, .inr (.inr (.inr (.inr (fun _ => none)))))), (tA, .inl (cT, 120, .inl (fun _ => 0))), (mo, .inr (4, [.int 0, .int 0, .ref kT, .int 20, .int 60, .int 2000, .int 0, .int 0, .ref tb, .ref ld, .int 0, .ref lK, .ref lC, .int 0])), (kT, .inl (e1, 60, .inl (fun _ => 0))), (tb, .inl (e2, 366, .inl (fun _ => 0))), (ld, .inl (e3, 61, .inl (fun _ => 0))), (ou, .inl (cJ, 1, .inr (.inl (fun _ => 0))))]) H := hP
    have hD : va_D A ([(kA, .inl (cK, 10, .inr (.inr (.inr (.inr (fun _ => none)))))), (tA, .inl (cT, 120, .inl (fun _ => 0))), (mo, .inr (4, [.int 0, .int 0, .ref kT, .int 20, .int 60, .int 2000, .int 0, .int 0, .ref tb, .ref ld, .int 0, .ref lK, .ref lC, .int 0])), (kT, .inl (e1, 60, .inl (fun _ => 0))), (tb, .inl (e2, 366, .inl (fun _ => 0))), (ld, .inl (e3, 61, .inl (fun _ => 0))), (ou, .inl (cJ, 1, .inr (.inl (fun _ => 0))))]) := hD
    refine lv_topi (fun v_204 ev_204 => ?_)
    obtain rfl : v_204 = 1 := ev_204.trans hwu_203
    refine lv_istore (lv' := [(5, .int 1), (4, .int 0), (3, .ref ou), (2, .ref mo), (1, .ref o), (0, .ref b)]) hx hb dL_law_1211 hl (by decide) rfl (fun ls hl => ?_)
    refine lv_aload_n hx hb dL_law_1213 rfl (lv_at hl 3 rfl) ?_
    refine lv_aload_n hx hb dL_law_1214 rfl (lv_at hl 5 rfl) ?_
    refine lv_iload hx hb dL_law_1215 (lv_at hl 1 rfl) ?_
    refine lv_iconst (v := 1) hx hb dL_law_1217 (by decide) ?_
    refine lv_iadd hx hb dL_law_1218 ?_
    refine lv_topi (fun v_205 ev_205 => ?_)
    obtain rfl : v_205 = 1 := ev_205.trans (by decide)
    refine va_sld hx hb hX hbl hbA hS (vp_in_nI (n := 1) (N := 7) (by decide) (by decide)) dL_law_1219 ?_
    refine lv_topi (fun v_206 ev_206 => ?_)
    obtain rfl : v_206 = (xs 1) := ev_206.trans rfl
    refine lv_aload_n hx hb dL_law_1220 rfl (lv_at hl 5 rfl) ?_
    refine lv_iload hx hb dL_law_1221 (lv_at hl 1 rfl) ?_
    refine lv_iconst (v := 2) hx hb dL_law_1223 (by decide) ?_
    refine lv_iadd hx hb dL_law_1224 ?_
    refine lv_topi (fun v_207 ev_207 => ?_)
    obtain rfl : v_207 = 2 := ev_207.trans (by decide)
    refine va_sld hx hb hX hbl hbA hS (vp_in_nI (n := 2) (N := 7) (by decide) (by decide)) dL_law_1225 ?_
    refine lv_topi (fun v_208 ev_208 => ?_)
    obtain rfl : v_208 = (xs 2) := ev_208.trans rfl
    refine lv_if_eq (tgt := 1233) hx hb dL_law_1226 (by decide) (fun c_209 => ?_) (fun c_209 => absurd (c_201) c_209)
    refine lv_iconst (v := 0) hx hb dL_law_1233 (by decide) ?_
    refine zcalliV (As := [.int (xs 1), .int 0]) (rest := []) (wc := [(mo, .inr (4, [.int 0, .int 0, .ref kT, .int 20, .int 60, .int 2000, .int 0, .int 0, .ref tb, .ref ld, .int 0, .ref lK, .ref lC, .int 0]))]) (wr := [(kA, .inl (cK, 10, .inr (.inr (.inr (.inr (fun _ => none)))))), (tA, .inl (cT, 120, .inl (fun _ => 0))), (kT, .inl (e1, 60, .inl (fun _ => 0))), (tb, .inl (e2, 366, .inl (fun _ => 0))), (ld, .inl (e3, 61, .inl (fun _ => 0))), (ou, .inl (cJ, 1, .inr (.inl (fun _ => 0))))]) ⟨hx, hb, hml, hown, hts⟩ (c_Mline l D _ mo kT tb ld lK lC (xs 1) 0) (cwV 2 hts zgV_X4_line rfl rfl rfl (by decide +kernel) ⟨by rw [hRf]; exact Nat.le_of_ble_eq_true rfl, by rw [hRl]; exact Nat.le_of_ble_eq_true rfl⟩) hK hP hD hS hA [2] [0, 1, 3, 4, 5, 6] rfl (by decide) rfl (by decide) (by decide) [] rfl (ci := 4) (q0 := 2) rfl rfl rfl hl.1 rfl (Nat.le_of_ble_eq_true rfl) dL_law_1234 ⟨by omega, by omega⟩ (fun r_210 u_211 H locs hwu_211 hnu_211 hzu_211 hK hP hD hS => ?_)
    have hK : va_K D vwCl [(cK, .object RX1), (cT, .int), (e1, .int), (e2, .int), (e3, .int), (cJ, .long)] s := hK
    have hP : va_P D vwCl ([(kA, .inl (cK, 10, .inr (.inr (.inr (.inr (fun _ => none)))))), (tA, .inl (cT, 120, .inl (fun _ => 0))), (kT, .inl (e1, 60, .inl (fun _ => 0))), (tb, .inl (e2, 366, .inl (fun _ => 0))), (ld, .inl (e3, 61, .inl (fun _ => 0))), (ou, .inl (cJ, 1, .inr (.inl (fun _ => 0)))), (mo, .inr (4, [.int 1, .int 0, .ref kT, .int 20, .int 60, .int 2000, .int 0, .int 0, .ref tb, .ref ld, .int 0, .ref lK, .ref lC, .int 0]))]) H := hP
    have hD : va_D A ([(kA, .inl (cK, 10, .inr (.inr (.inr (.inr (fun _ => none)))))), (tA, .inl (cT, 120, .inl (fun _ => 0))), (kT, .inl (e1, 60, .inl (fun _ => 0))), (tb, .inl (e2, 366, .inl (fun _ => 0))), (ld, .inl (e3, 61, .inl (fun _ => 0))), (ou, .inl (cJ, 1, .inr (.inl (fun _ => 0)))), (mo, .inr (4, [.int 1, .int 0, .ref kT, .int 20, .int 60, .int 2000, .int 0, .int 0, .ref tb, .ref ld, .int 0, .ref lK, .ref lC, .int 0]))]) := hD
    refine lv_topi (fun v_212 ev_212 => ?_)
    obtain rfl : v_212 = 0 := ev_212.trans hwu_211
    refine lv_istore (lv' := [(6, .int 0), (5, .int 1), (4, .int 0), (3, .ref ou), (2, .ref mo), (1, .ref o), (0, .ref b)]) hx hb dL_law_1237 hl (by decide) rfl (fun ls hl => ?_)
    refine lv_aload_n hx hb dL_law_1239 rfl (lv_at hl 4 rfl) ?_
    refine zrdV (As := []) (rest := []) (wc := [(mo, .inr (4, [.int 1, .int 0, .ref kT, .int 20, .int 60, .int 2000, .int 0, .int 0, .ref tb, .ref ld, .int 0, .ref lK, .ref lC, .int 0]))]) ⟨hx, hb, hml, hown, hts⟩ (c_thrown l D _ mo [.int 1, .int 0, .ref kT, .int 20, .int 60, .int 2000, .int 0, .int 0, .ref tb, .ref ld, .int 0, .ref lK, .ref lC, .int 0] 1 rfl) (cwV 0 hts zgV_X4_thrown rfl rfl rfl (by decide +kernel) ⟨by rw [hRf]; exact Nat.le_of_ble_eq_true rfl, by rw [hRl]; exact Nat.le_of_ble_eq_true rfl⟩) hK hP hD [6] rfl (by decide) [] rfl (ci := 4) (q0 := 6) rfl rfl rfl hl.1 rfl (Nat.le_of_ble_eq_true rfl) dL_law_1240 ⟨by omega, by omega⟩ (fun r_213 hr_213 => ?_)
    refine lv_topi (fun v_214 ev_214 => ?_)
    obtain rfl : v_214 = 1 := ev_214.trans hr_213
    refine lv_iload hx hb dL_law_1243 (lv_at hl 1 rfl) ?_
    refine lv_icmp_eq (tgt := 1250) hx hb dL_law_1245 (by decide) (fun c_215 => ?_) (fun c_215 => absurd (rfl) c_215)
    refine lv_iload hx hb dL_law_1250 (lv_at hl 1 rfl) ?_
    refine lv_if_ne (tgt := 1267) hx hb dL_law_1252 (by decide) (fun c_216 => ?_) (fun c_216 => absurd c_216 (by decide))
    refine lv_goto (tgt := 1463) hx hb dL_law_1267 (by decide) ?_
    have hl := lv_sub hl (l' := [(4, .int 0), (3, .ref ou), (2, .ref mo), (1, .ref o), (0, .ref b)]) [2, 3, 4, 5, 6] rfl
    refine W.widen (k := 2000) (n := 20000) (by omega) (by omega) ?_
    subst hAe
    exact znext C1 o mo ou H locs ls hS hl
  · have h_b := True.intro
    refine lv_iconst (v := 1) hx hb dL_law_1202 (by decide) ?_
    refine lv_goto (tgt := 1207) hx hb dL_law_1203 (by decide) ?_
    refine lv_aload_n hx hb dL_law_1207 rfl (lv_at hl 1 rfl) ?_
    refine zcalliSWK (hh := [(0, 10, 13, 25)]) (As := [.ref o, .int (xs 1), .int 1, .ref ou]) (rest := []) (wc := [(o, .inr (3, [.ref kA, .int 0, .int 20, .int 60, .int 2000, .int 0, .ref iA, .int 0, .int 0, .int 0, .ref tA, .ref tr, .ref lA, .int 0]))]) (wr := [(kA, .inl (cK, 10, .inr (.inr (.inr (.inr (fun _ => none)))))), (tA, .inl (cT, 120, .inl (fun _ => 0))), (mo, .inr (4, [.int 0, .int 0, .ref kT, .int 20, .int 60, .int 2000, .int 0, .int 0, .ref tb, .ref ld, .int 0, .ref lK, .ref lC, .int 0])), (kT, .inl (e1, 60, .inl (fun _ => 0))), (tb, .inl (e2, 366, .inl (fun _ => 0))), (ld, .inl (e3, 61, .inl (fun _ => 0))), (ou, .inl (cJ, 1, .inr (.inl (fun _ => 0))))]) ⟨hx, hb, hml, hown, hts⟩ (c_Lline_x l D _ hfl o kA iA tA tr lA ou (xs 1) 1) (vx_cwSW 4 hts zgS_L_line rfl rfl rfl (by decide +kernel) ⟨by rw [hRf]; exact Nat.le_of_ble_eq_true rfl, by rw [hRl]; exact Nat.le_of_ble_eq_true rfl⟩) hKX hK hP hD hS hA [0] [1, 2, 3, 4, 5, 6, 7] rfl (by decide) rfl (by decide) (by decide) [] rfl rfl hl.1 rfl (Nat.le_of_ble_eq_true rfl) dL_law_1208 ⟨by omega, by omega⟩ (fun r_217 u_218 H locs hwu_218 hnu_218 hzu_218 hK hP hD hS => ?_)
    have hK : va_K D vwCl [(cK, .object RX1), (cT, .int), (e1, .int), (e2, .int), (e3, .int), (cJ, .long)] s := hK
    have hP : va_P D vwCl ([(kA, .inl (cK, 10, .inr (.inr (.inr (.inr (fun _ => none)))))), (tA, .inl (cT, 120, .inl (fun _ => 0))), (mo, .inr (4, [.int 0, .int 0, .ref kT, .int 20, .int 60, .int 2000, .int 0, .int 0, .ref tb, .ref ld, .int 0, .ref lK, .ref lC, .int 0])), (kT, .inl (e1, 60, .inl (fun _ => 0))), (tb, .inl (e2, 366, .inl (fun _ => 0))), (ld, .inl (e3, 61, .inl (fun _ => 0))), (ou, .inl (cJ, 1, .inr (.inl (fun _ => 0))))]) H := hP
    have hD : va_D A ([(kA, .inl (cK, 10, .inr (.inr (.inr (.inr (fun _ => none)))))), (tA, .inl (cT, 120, .inl (fun _ => 0))), (mo, .inr (4, [.int 0, .int 0, .ref kT, .int 20, .int 60, .int 2000, .int 0, .int 0, .ref tb, .ref ld, .int 0, .ref lK, .ref lC, .int 0])), (kT, .inl (e1, 60, .inl (fun _ => 0))), (tb, .inl (e2, 366, .inl (fun _ => 0))), (ld, .inl (e3, 61, .inl (fun _ => 0))), (ou, .inl (cJ, 1, .inr (.inl (fun _ => 0))))]) := hD
    refine lv_topi (fun v_219 ev_219 => ?_)
    obtain rfl : v_219 = 1 := ev_219.trans hwu_218
    refine lv_istore (lv' := [(5, .int 1), (4, .int 0), (3, .ref ou), (2, .ref mo), (1, .ref o), (0, .ref b)]) hx hb dL_law_1211 hl (by decide) rfl (fun ls hl => ?_)
    refine lv_aload_n hx hb dL_law_1213 rfl (lv_at hl 3 rfl) ?_
    refine lv_aload_n hx hb dL_law_1214 rfl (lv_at hl 5 rfl) ?_
    refine lv_iload hx hb dL_law_1215 (lv_at hl 1 rfl) ?_
    refine lv_iconst (v := 1) hx hb dL_law_1217 (by decide) ?_
    refine lv_iadd hx hb dL_law_1218 ?_
    refine lv_topi (fun v_220 ev_220 => ?_)
    obtain rfl : v_220 = 1 := ev_220.trans (by decide)
    refine va_sld hx hb hX hbl hbA hS (vp_in_nI (n := 1) (N := 7) (by decide) (by decide)) dL_law_1219 ?_
    refine lv_topi (fun v_221 ev_221 => ?_)
    obtain rfl : v_221 = (xs 1) := ev_221.trans rfl
    refine lv_aload_n hx hb dL_law_1220 rfl (lv_at hl 5 rfl) ?_
    refine lv_iload hx hb dL_law_1221 (lv_at hl 1 rfl) ?_
    refine lv_iconst (v := 2) hx hb dL_law_1223 (by decide) ?_
    refine lv_iadd hx hb dL_law_1224 ?_
    refine lv_topi (fun v_222 ev_222 => ?_)
    obtain rfl : v_222 = 2 := ev_222.trans (by decide)
    refine va_sld hx hb hX hbl hbA hS (vp_in_nI (n := 2) (N := 7) (by decide) (by decide)) dL_law_1225 ?_
    refine lv_topi (fun v_223 ev_223 => ?_)
    obtain rfl : v_223 = (xs 2) := ev_223.trans rfl
    refine lv_if_eq (tgt := 1233) hx hb dL_law_1226 (by decide) (fun c_224 => absurd c_224 (c_201)) (fun c_224 => ?_)
    refine lv_iconst (v := 1) hx hb dL_law_1229 (by decide) ?_
    refine lv_goto (tgt := 1234) hx hb dL_law_1230 (by decide) ?_
    refine zcalliV (As := [.int (xs 1), .int 1]) (rest := []) (wc := [(mo, .inr (4, [.int 0, .int 0, .ref kT, .int 20, .int 60, .int 2000, .int 0, .int 0, .ref tb, .ref ld, .int 0, .ref lK, .ref lC, .int 0]))]) (wr := [(kA, .inl (cK, 10, .inr (.inr (.inr (.inr (fun _ => none)))))), (tA, .inl (cT, 120, .inl (fun _ => 0))), (kT, .inl (e1, 60, .inl (fun _ => 0))), (tb, .inl (e2, 366, .inl (fun _ => 0))), (ld, .inl (e3, 61, .inl (fun _ => 0))), (ou, .inl (cJ, 1, .inr (.inl (fun _ => 0))))]) ⟨hx, hb, hml, hown, hts⟩ (c_Mline l D _ mo kT tb ld lK lC (xs 1) 1) (cwV 2 hts zgV_X4_line rfl rfl rfl (by decide +kernel) ⟨by rw [hRf]; exact Nat.le_of_ble_eq_true rfl, by rw [hRl]; exact Nat.le_of_ble_eq_true rfl⟩) hK hP hD hS hA [2] [0, 1, 3, 4, 5, 6] rfl (by decide) rfl (by decide) (by decide) [] rfl (ci := 4) (q0 := 2) rfl rfl rfl hl.1 rfl (Nat.le_of_ble_eq_true rfl) dL_law_1234 ⟨by omega, by omega⟩ (fun r_225 u_226 H locs hwu_226 hnu_226 hzu_226 hK hP hD hS => ?_)
    have hK : va_K D vwCl [(cK, .object RX1), (cT, .int), (e1, .int), (e2, .int), (e3, .int), (cJ, .long)] s := hK
    have hP : va_P D vwCl ([(kA, .inl (cK, 10, .inr (.inr (.inr (.inr (fun _ => none)))))), (tA, .inl (cT, 120, .inl (fun _ => 0))), (kT, .inl (e1, 60, .inl (fun _ => 0))), (tb, .inl (e2, 366, .inl (fun _ => 0))), (ld, .inl (e3, 61, .inl (fun _ => 0))), (ou, .inl (cJ, 1, .inr (.inl (fun _ => 0)))), (mo, .inr (4, [.int 1, .int 0, .ref kT, .int 20, .int 60, .int 2000, .int 0, .int 0, .ref tb, .ref ld, .int 0, .ref lK, .ref lC, .int 0]))]) H := hP
    have hD : va_D A ([(kA, .inl (cK, 10, .inr (.inr (.inr (.inr (fun _ => none)))))), (tA, .inl (cT, 120, .inl (fun _ => 0))), (kT, .inl (e1, 60, .inl (fun _ => 0))), (tb, .inl (e2, 366, .inl (fun _ => 0))), (ld, .inl (e3, 61, .inl (fun _ => 0))), (ou, .inl (cJ, 1, .inr (.inl (fun _ => 0)))), (mo, .inr (4, [.int 1, .int 0, .ref kT, .int 20, .int 60, .int 2000, .int 0, .int 0, .ref tb, .ref ld, .int 0, .ref lK, .ref lC, .int 0]))]) := hD
    refine lv_topi (fun v_227 ev_227 => ?_)
    obtain rfl : v_227 = 0 := ev_227.trans hwu_226
    refine lv_istore (lv' := [(6, .int 0), (5, .int 1), (4, .int 0), (3, .ref ou), (2, .ref mo), (1, .ref o), (0, .ref b)]) hx hb dL_law_1237 hl (by decide) rfl (fun ls hl => ?_)
    refine lv_aload_n hx hb dL_law_1239 rfl (lv_at hl 4 rfl) ?_
    refine zrdV (As := []) (rest := []) (wc := [(mo, .inr (4, [.int 1, .int 0, .ref kT, .int 20, .int 60, .int 2000, .int 0, .int 0, .ref tb, .ref ld, .int 0, .ref lK, .ref lC, .int 0]))]) ⟨hx, hb, hml, hown, hts⟩ (c_thrown l D _ mo [.int 1, .int 0, .ref kT, .int 20, .int 60, .int 2000, .int 0, .int 0, .ref tb, .ref ld, .int 0, .ref lK, .ref lC, .int 0] 1 rfl) (cwV 0 hts zgV_X4_thrown rfl rfl rfl (by decide +kernel) ⟨by rw [hRf]; exact Nat.le_of_ble_eq_true rfl, by rw [hRl]; exact Nat.le_of_ble_eq_true rfl⟩) hK hP hD [6] rfl (by decide) [] rfl (ci := 4) (q0 := 6) rfl rfl rfl hl.1 rfl (Nat.le_of_ble_eq_true rfl) dL_law_1240 ⟨by omega, by omega⟩ (fun r_228 hr_228 => ?_)
    refine lv_topi (fun v_229 ev_229 => ?_)
    obtain rfl : v_229 = 1 := ev_229.trans hr_228
    refine lv_iload hx hb dL_law_1243 (lv_at hl 1 rfl) ?_
    refine lv_icmp_eq (tgt := 1250) hx hb dL_law_1245 (by decide) (fun c_230 => ?_) (fun c_230 => absurd (rfl) c_230)
    refine lv_iload hx hb dL_law_1250 (lv_at hl 1 rfl) ?_
    refine lv_if_ne (tgt := 1267) hx hb dL_law_1252 (by decide) (fun c_231 => ?_) (fun c_231 => absurd c_231 (by decide))
    refine lv_goto (tgt := 1463) hx hb dL_law_1267 (by decide) ?_
    have hl := lv_sub hl (l' := [(4, .int 0), (3, .ref ou), (2, .ref mo), (1, .ref o), (0, .ref b)]) [2, 3, 4, 5, 6] rfl
    refine W.widen (k := 2000) (n := 20000) (by omega) (by omega) ?_
    subst hAe
    exact znext C1 o mo ou H locs ls hS hl
