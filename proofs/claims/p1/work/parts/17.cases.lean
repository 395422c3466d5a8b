set_option maxHeartbeats 4000000 in
set_option maxRecDepth 100000 in
theorem zc_stack {p : Program} {e : Env} {s : State} {m : MethodId} {below : List Frame} {meth : Method} {c : Code} {l : Launch} {b : Nat} {xs : Nat → Int32} (C0 : lw_At p s m meth c b 7 xs) (hfl : l.stackTraces = false) {D : zG} (hKX : zKX (fun q : Nat => s.heap.size ≤ q) s) (o kA iA tA tr lA mo kT tb ld lK lC ou : Nat) (cK cT e1 e2 e3 cJ : ClassId) (H : Heap) (locs : List Loc) (ls : Array Slot) (hK : va_K D vwCl [(cK, .object RX1), (cT, .int), (e1, .int), (e2, .int), (e3, .int), (cJ, .long)] s) (hP : va_P D vwCl ([(o, .inr (3, [.ref kA, .int 0, .int 20, .int 60, .int 2000, .int 0, .ref iA, .int 0, .int 0, .int 0, .ref tA, .ref tr, .ref lA, .int 0])), (kA, .inl (cK, 10, .inr (.inr (.inr (.inr (fun _ => none)))))), (tA, .inl (cT, 120, .inl (fun _ => 0))), (mo, .inr (4, [.int 0, .int 0, .ref kT, .int 20, .int 60, .int 2000, .int 0, .int 0, .ref tb, .ref ld, .int 0, .ref lK, .ref lC, .int 0])), (kT, .inl (e1, 60, .inl (fun _ => 0))), (tb, .inl (e2, 366, .inl (fun _ => 0))), (ld, .inl (e3, 61, .inl (fun _ => 0))), (ou, .inl (cJ, 1, .inr (.inl (fun _ => 0))))]) H) (hD : va_D (fun q : Nat => s.heap.size ≤ q) ([(o, .inr (3, [.ref kA, .int 0, .int 20, .int 60, .int 2000, .int 0, .ref iA, .int 0, .int 0, .int 0, .ref tA, .ref tr, .ref lA, .int 0])), (kA, .inl (cK, 10, .inr (.inr (.inr (.inr (fun _ => none)))))), (tA, .inl (cT, 120, .inl (fun _ => 0))), (mo, .inr (4, [.int 0, .int 0, .ref kT, .int 20, .int 60, .int 2000, .int 0, .int 0, .ref tb, .ref ld, .int 0, .ref lK, .ref lC, .int 0])), (kT, .inl (e1, 60, .inl (fun _ => 0))), (tb, .inl (e2, 366, .inl (fun _ => 0))), (ld, .inl (e3, 61, .inl (fun _ => 0))), (ou, .inl (cJ, 1, .inr (.inl (fun _ => 0))))])) (hS : va_S (fun q : Nat => s.heap.size ≤ q) s.heap H locs) (hl : lv_has ls 9 [(4, .int 0), (3, .ref ou), (2, .ref mo), (1, .ref o), (0, .ref b)]) : W p l e room_1 s m #[Value.ref b] below meth c H locs 1000 10000 (lw_Z below #[Value.ref b] s) (F0 m 1173 ls []) := by
  have C1 := C0
  obtain ⟨hx, hb, hr, hml, hown, hts, hX, hbl, hlocks, hgv⟩ := C0
  have hA : ∀ q : Nat, s.heap.size ≤ q → (fun q : Nat => s.heap.size ≤ q) q := fun _ h => h
  have hbA : ¬ (fun q : Nat => s.heap.size ≤ q) b := Nat.not_le.mpr hbl
  have hRf : room_1.frames = 13 := rfl
  have hRc : room_1.cells = 600002 := rfl
  have hRs : room_1.slots = 7302232 := rfl
  have hRl : room_1.locals = 522 := rfl
  generalize hAe : (fun q : Nat => s.heap.size ≤ q) = A at hP hD hS hA hbA hKX
  refine lv_aload_n hx hb dL_law_1173 rfl (lv_at hl 3 rfl) ?_
  refine zrdV (As := []) (rest := []) (wc := [(o, .inr (3, [.ref kA, .int 0, .int 20, .int 60, .int 2000, .int 0, .ref iA, .int 0, .int 0, .int 0, .ref tA, .ref tr, .ref lA, .int 0]))]) ⟨hx, hb, hml, hown, hts⟩ (c_stack0 l D _ o kA iA tA tr lA) (cwV 0 hts zgV_X3_stack rfl rfl rfl (by decide +kernel) ⟨by rw [hRf]; exact Nat.le_of_ble_eq_true rfl, by rw [hRl]; exact Nat.le_of_ble_eq_true rfl⟩) hK hP hD [0] rfl (by decide) [] rfl (ci := 3) (q0 := 0) rfl rfl rfl hl.1 rfl (Nat.le_of_ble_eq_true rfl) dL_law_1174 ⟨by omega, by omega⟩ (fun r_551 hr_551 => ?_)
  refine lv_topi (fun v_552 ev_552 => ?_)
  obtain rfl : v_552 = 0 := ev_552.trans hr_551
  refine lv_aload_n hx hb dL_law_1177 rfl (lv_at hl 2 rfl) ?_
  refine zcalliV (As := []) (rest := [.int 0]) (wc := [(mo, .inr (4, [.int 0, .int 0, .ref kT, .int 20, .int 60, .int 2000, .int 0, .int 0, .ref tb, .ref ld, .int 0, .ref lK, .ref lC, .int 0]))]) (wr := [(o, .inr (3, [.ref kA, .int 0, .int 20, .int 60, .int 2000, .int 0, .ref iA, .int 0, .int 0, .int 0, .ref tA, .ref tr, .ref lA, .int 0])), (kA, .inl (cK, 10, .inr (.inr (.inr (.inr (fun _ => none)))))), (tA, .inl (cT, 120, .inl (fun _ => 0))), (kT, .inl (e1, 60, .inl (fun _ => 0))), (tb, .inl (e2, 366, .inl (fun _ => 0))), (ld, .inl (e3, 61, .inl (fun _ => 0))), (ou, .inl (cJ, 1, .inr (.inl (fun _ => 0))))]) ⟨hx, hb, hml, hown, hts⟩ (c_Mstack l D _ mo kT tb ld lK lC) (cwV 0 hts zgV_X4_stack rfl rfl rfl (by decide +kernel) ⟨by rw [hRf]; exact Nat.le_of_ble_eq_true rfl, by rw [hRl]; exact Nat.le_of_ble_eq_true rfl⟩) hK hP hD hS hA [3] [0, 1, 2, 4, 5, 6, 7] rfl (by decide) rfl (by decide) (by decide) [] rfl (ci := 4) (q0 := 3) rfl rfl rfl hl.1 rfl (Nat.le_of_ble_eq_true rfl) dL_law_1178 ⟨by omega, by omega⟩ (fun r_553 u_554 H locs hwu_554 hnu_554 hzu_554 hK hP hD hS => ?_)
  have hK : va_K D vwCl [(cK, .object RX1), (cT, .int), (e1, .int), (e2, .int), (e3, .int), (cJ, .long)] s := hK
  have hP : va_P D vwCl ([(o, .inr (3, [.ref kA, .int 0, .int 20, .int 60, .int 2000, .int 0, .ref iA, .int 0, .int 0, .int 0, .ref tA, .ref tr, .ref lA, .int 0])), (kA, .inl (cK, 10, .inr (.inr (.inr (.inr (fun _ => none)))))), (tA, .inl (cT, 120, .inl (fun _ => 0))), (kT, .inl (e1, 60, .inl (fun _ => 0))), (tb, .inl (e2, 366, .inl (fun _ => 0))), (ld, .inl (e3, 61, .inl (fun _ => 0))), (ou, .inl (cJ, 1, .inr (.inl (fun _ => 0)))), (mo, .inr (4, [.int 0, .int 0, .ref kT, .int 20, .int 60, .int 2000, .int 0, .int 0, .ref tb, .ref ld, .int 0, .ref lK, .ref lC, .int 0]))]) H := hP
  have hD : va_D A ([(o, .inr (3, [.ref kA, .int 0, .int 20, .int 60, .int 2000, .int 0, .ref iA, .int 0, .int 0, .int 0, .ref tA, .ref tr, .ref lA, .int 0])), (kA, .inl (cK, 10, .inr (.inr (.inr (.inr (fun _ => none)))))), (tA, .inl (cT, 120, .inl (fun _ => 0))), (kT, .inl (e1, 60, .inl (fun _ => 0))), (tb, .inl (e2, 366, .inl (fun _ => 0))), (ld, .inl (e3, 61, .inl (fun _ => 0))), (ou, .inl (cJ, 1, .inr (.inl (fun _ => 0)))), (mo, .inr (4, [.int 0, .int 0, .ref kT, .int 20, .int 60, .int 2000, .int 0, .int 0, .ref tb, .ref ld, .int 0, .ref lK, .ref lC, .int 0]))]) := hD
  refine lv_topi (fun v_555 ev_555 => ?_)
  obtain rfl : v_555 = 0 := ev_555.trans hwu_554
  refine lv_icmp_eq (tgt := 1463) hx hb dL_law_1181 (by decide) (fun c_556 => ?_) (fun c_556 => absurd (rfl) c_556)
  have hl := lv_sub hl (l' := [(4, .int 0), (3, .ref ou), (2, .ref mo), (1, .ref o), (0, .ref b)]) [0, 1, 2, 3, 4] rfl
  refine W.widen (k := 2000) (n := 20000) (by omega) (by omega) ?_
  subst hAe
  exact znext C1 o mo ou H locs ls hS hl
set_option maxHeartbeats 4000000 in
set_option maxRecDepth 100000 in
theorem zc_clear {p : Program} {e : Env} {s : State} {m : MethodId} {below : List Frame} {meth : Method} {c : Code} {l : Launch} {b : Nat} {xs : Nat → Int32} (C0 : lw_At p s m meth c b 7 xs) (hfl : l.stackTraces = false) {D : zG} (hKX : zKX (fun q : Nat => s.heap.size ≤ q) s) (o kA iA tA tr lA mo kT tb ld lK lC ou : Nat) (cK cT e1 e2 e3 cJ : ClassId) (H : Heap) (locs : List Loc) (ls : Array Slot) (hK : va_K D vwCl [(cK, .object RX1), (cT, .int), (e1, .int), (e2, .int), (e3, .int), (cJ, .long)] s) (hP : va_P D vwCl ([(o, .inr (3, [.ref kA, .int 0, .int 20, .int 60, .int 2000, .int 0, .ref iA, .int 0, .int 0, .int 0, .ref tA, .ref tr, .ref lA, .int 0])), (kA, .inl (cK, 10, .inr (.inr (.inr (.inr (fun _ => none)))))), (tA, .inl (cT, 120, .inl (fun _ => 0))), (mo, .inr (4, [.int 0, .int 0, .ref kT, .int 20, .int 60, .int 2000, .int 0, .int 0, .ref tb, .ref ld, .int 0, .ref lK, .ref lC, .int 0])), (kT, .inl (e1, 60, .inl (fun _ => 0))), (tb, .inl (e2, 366, .inl (fun _ => 0))), (ld, .inl (e3, 61, .inl (fun _ => 0))), (ou, .inl (cJ, 1, .inr (.inl (fun _ => 0))))]) H) (hD : va_D (fun q : Nat => s.heap.size ≤ q) ([(o, .inr (3, [.ref kA, .int 0, .int 20, .int 60, .int 2000, .int 0, .ref iA, .int 0, .int 0, .int 0, .ref tA, .ref tr, .ref lA, .int 0])), (kA, .inl (cK, 10, .inr (.inr (.inr (.inr (fun _ => none)))))), (tA, .inl (cT, 120, .inl (fun _ => 0))), (mo, .inr (4, [.int 0, .int 0, .ref kT, .int 20, .int 60, .int 2000, .int 0, .int 0, .ref tb, .ref ld, .int 0, .ref lK, .ref lC, .int 0])), (kT, .inl (e1, 60, .inl (fun _ => 0))), (tb, .inl (e2, 366, .inl (fun _ => 0))), (ld, .inl (e3, 61, .inl (fun _ => 0))), (ou, .inl (cJ, 1, .inr (.inl (fun _ => 0))))])) (hS : va_S (fun q : Nat => s.heap.size ≤ q) s.heap H locs) (hl : lv_has ls 9 [(4, .int 0), (3, .ref ou), (2, .ref mo), (1, .ref o), (0, .ref b)]) : W p l e room_1 s m #[Value.ref b] below meth c H locs 1000 10000 (lw_Z below #[Value.ref b] s) (F0 m 1270 ls []) := by
  have C1 := C0
  obtain ⟨hx, hb, hr, hml, hown, hts, hX, hbl, hlocks, hgv⟩ := C0
  have hA : ∀ q : Nat, s.heap.size ≤ q → (fun q : Nat => s.heap.size ≤ q) q := fun _ h => h
  have hbA : ¬ (fun q : Nat => s.heap.size ≤ q) b := Nat.not_le.mpr hbl
  have hRf : room_1.frames = 13 := rfl
  have hRc : room_1.cells = 600002 := rfl
  have hRs : room_1.slots = 7302232 := rfl
  have hRl : room_1.locals = 522 := rfl
  generalize hAe : (fun q : Nat => s.heap.size ≤ q) = A at hP hD hS hA hbA hKX
  refine lv_aload_n hx hb dL_law_1270 rfl (lv_at hl 3 rfl) ?_
  refine zcalliV (As := []) (rest := []) (wc := [(o, .inr (3, [.ref kA, .int 0, .int 20, .int 60, .int 2000, .int 0, .ref iA, .int 0, .int 0, .int 0, .ref tA, .ref tr, .ref lA, .int 0])), (tA, .inl (cT, 120, .inl (fun _ => 0)))]) (wr := [(kA, .inl (cK, 10, .inr (.inr (.inr (.inr (fun _ => none)))))), (mo, .inr (4, [.int 0, .int 0, .ref kT, .int 20, .int 60, .int 2000, .int 0, .int 0, .ref tb, .ref ld, .int 0, .ref lK, .ref lC, .int 0])), (kT, .inl (e1, 60, .inl (fun _ => 0))), (tb, .inl (e2, 366, .inl (fun _ => 0))), (ld, .inl (e3, 61, .inl (fun _ => 0))), (ou, .inl (cJ, 1, .inr (.inl (fun _ => 0))))]) ⟨hx, hb, hml, hown, hts⟩ (c_clear0 l D _ o kA iA tA tr lA cT) (cwV 0 hts zgV_X3_clear rfl rfl rfl (by decide +kernel) ⟨by rw [hRf]; exact Nat.le_of_ble_eq_true rfl, by rw [hRl]; exact Nat.le_of_ble_eq_true rfl⟩) hK hP hD hS hA [0, 2] [1, 3, 4, 5, 6, 7] rfl (by decide) rfl (by decide) (by decide) [1] rfl (ci := 3) (q0 := 0) rfl rfl rfl hl.1 rfl (Nat.le_of_ble_eq_true rfl) dL_law_1271 ⟨by omega, by omega⟩ (fun r_557 u_558 H locs hwu_558 hnu_558 hzu_558 hK hP hD hS => ?_)
  have hK : va_K D vwCl [(cK, .object RX1), (cT, .int), (e1, .int), (e2, .int), (e3, .int), (cJ, .long)] s := hK
  have hP : va_P D vwCl ([(kA, .inl (cK, 10, .inr (.inr (.inr (.inr (fun _ => none)))))), (mo, .inr (4, [.int 0, .int 0, .ref kT, .int 20, .int 60, .int 2000, .int 0, .int 0, .ref tb, .ref ld, .int 0, .ref lK, .ref lC, .int 0])), (kT, .inl (e1, 60, .inl (fun _ => 0))), (tb, .inl (e2, 366, .inl (fun _ => 0))), (ld, .inl (e3, 61, .inl (fun _ => 0))), (ou, .inl (cJ, 1, .inr (.inl (fun _ => 0))))]) H := hP
  have hD : va_D A ([(kA, .inl (cK, 10, .inr (.inr (.inr (.inr (fun _ => none)))))), (mo, .inr (4, [.int 0, .int 0, .ref kT, .int 20, .int 60, .int 2000, .int 0, .int 0, .ref tb, .ref ld, .int 0, .ref lK, .ref lC, .int 0])), (kT, .inl (e1, 60, .inl (fun _ => 0))), (tb, .inl (e2, 366, .inl (fun _ => 0))), (ld, .inl (e3, 61, .inl (fun _ => 0))), (ou, .inl (cJ, 1, .inr (.inl (fun _ => 0))))]) := hD
  refine lv_topi (fun v_559 ev_559 => ?_)
  obtain rfl : v_559 = 0 := ev_559.trans hwu_558
  refine lv_aload_n hx hb dL_law_1274 rfl (lv_at hl 2 rfl) ?_
  refine zcalliV (As := []) (rest := [.int 0]) (wc := [(mo, .inr (4, [.int 0, .int 0, .ref kT, .int 20, .int 60, .int 2000, .int 0, .int 0, .ref tb, .ref ld, .int 0, .ref lK, .ref lC, .int 0])), (tb, .inl (e2, 366, .inl (fun _ => 0)))]) (wr := [(kA, .inl (cK, 10, .inr (.inr (.inr (.inr (fun _ => none)))))), (kT, .inl (e1, 60, .inl (fun _ => 0))), (ld, .inl (e3, 61, .inl (fun _ => 0))), (ou, .inl (cJ, 1, .inr (.inl (fun _ => 0))))]) ⟨hx, hb, hml, hown, hts⟩ (c_Mclear l D _ mo kT tb ld lK lC e2) (cwV 0 hts zgV_X4_clear rfl rfl rfl (by decide +kernel) ⟨by rw [hRf]; exact Nat.le_of_ble_eq_true rfl, by rw [hRl]; exact Nat.le_of_ble_eq_true rfl⟩) hK hP hD hS hA [1, 3] [0, 2, 4, 5] rfl (by decide) rfl (by decide) (by decide) [3] rfl (ci := 4) (q0 := 1) rfl rfl rfl hl.1 rfl (Nat.le_of_ble_eq_true rfl) dL_law_1275 ⟨by omega, by omega⟩ (fun r_560 u_561 H locs hwu_561 hnu_561 hzu_561 hK hP hD hS => ?_)
  have hK : va_K D vwCl [(cK, .object RX1), (cT, .int), (e1, .int), (e2, .int), (e3, .int), (cJ, .long)] s := hK
  have hP : va_P D vwCl ([(kA, .inl (cK, 10, .inr (.inr (.inr (.inr (fun _ => none)))))), (kT, .inl (e1, 60, .inl (fun _ => 0))), (ld, .inl (e3, 61, .inl (fun _ => 0))), (ou, .inl (cJ, 1, .inr (.inl (fun _ => 0)))), (mo, .inr (4, [.int 0, .int 0, .ref kT, .int 20, .int 60, .int 2000, .int 0, .int 0, .ref tb, .ref ld, .int 0, .ref lK, .ref lC, .int 0]))]) H := hP
  have hD : va_D A ([(kA, .inl (cK, 10, .inr (.inr (.inr (.inr (fun _ => none)))))), (kT, .inl (e1, 60, .inl (fun _ => 0))), (ld, .inl (e3, 61, .inl (fun _ => 0))), (ou, .inl (cJ, 1, .inr (.inl (fun _ => 0)))), (mo, .inr (4, [.int 0, .int 0, .ref kT, .int 20, .int 60, .int 2000, .int 0, .int 0, .ref tb, .ref ld, .int 0, .ref lK, .ref lC, .int 0]))]) := hD
  refine lv_topi (fun v_562 ev_562 => ?_)
  obtain rfl : v_562 = 0 := ev_562.trans hwu_561
  refine lv_icmp_eq (tgt := 1463) hx hb dL_law_1278 (by decide) (fun c_563 => ?_) (fun c_563 => absurd (rfl) c_563)
  have hl := lv_sub hl (l' := [(4, .int 0), (3, .ref ou), (2, .ref mo), (1, .ref o), (0, .ref b)]) [0, 1, 2, 3, 4] rfl
  refine W.widen (k := 2000) (n := 20000) (by omega) (by omega) ?_
  subst hAe
  exact znext C1 o mo ou H locs ls hS hl
set_option maxHeartbeats 4000000 in
set_option maxRecDepth 100000 in
theorem zc_middle {p : Program} {e : Env} {s : State} {m : MethodId} {below : List Frame} {meth : Method} {c : Code} {l : Launch} {b : Nat} {xs : Nat → Int32} (C0 : lw_At p s m meth c b 7 xs) (hfl : l.stackTraces = false) {D : zG} (hKX : zKX (fun q : Nat => s.heap.size ≤ q) s) (o kA iA tA tr lA mo kT tb ld lK lC ou : Nat) (cK cT e1 e2 e3 cJ : ClassId) (H : Heap) (locs : List Loc) (ls : Array Slot) (hK : va_K D vwCl [(cK, .object RX1), (cT, .int), (e1, .int), (e2, .int), (e3, .int), (cJ, .long)] s) (hP : va_P D vwCl ([(o, .inr (3, [.ref kA, .int 0, .int 20, .int 60, .int 2000, .int 0, .ref iA, .int 0, .int 0, .int 0, .ref tA, .ref tr, .ref lA, .int 0])), (kA, .inl (cK, 10, .inr (.inr (.inr (.inr (fun _ => none)))))), (tA, .inl (cT, 120, .inl (fun _ => 0))), (mo, .inr (4, [.int 0, .int 0, .ref kT, .int 20, .int 60, .int 2000, .int 0, .int 0, .ref tb, .ref ld, .int 0, .ref lK, .ref lC, .int 0])), (kT, .inl (e1, 60, .inl (fun _ => 0))), (tb, .inl (e2, 366, .inl (fun _ => 0))), (ld, .inl (e3, 61, .inl (fun _ => 0))), (ou, .inl (cJ, 1, .inr (.inl (fun _ => 0))))]) H) (hD : va_D (fun q : Nat => s.heap.size ≤ q) ([(o, .inr (3, [.ref kA, .int 0, .int 20, .int 60, .int 2000, .int 0, .ref iA, .int 0, .int 0, .int 0, .ref tA, .ref tr, .ref lA, .int 0])), (kA, .inl (cK, 10, .inr (.inr (.inr (.inr (fun _ => none)))))), (tA, .inl (cT, 120, .inl (fun _ => 0))), (mo, .inr (4, [.int 0, .int 0, .ref kT, .int 20, .int 60, .int 2000, .int 0, .int 0, .ref tb, .ref ld, .int 0, .ref lK, .ref lC, .int 0])), (kT, .inl (e1, 60, .inl (fun _ => 0))), (tb, .inl (e2, 366, .inl (fun _ => 0))), (ld, .inl (e3, 61, .inl (fun _ => 0))), (ou, .inl (cJ, 1, .inr (.inl (fun _ => 0))))])) (hS : va_S (fun q : Nat => s.heap.size ≤ q) s.heap H locs) (hl : lv_has ls 9 [(4, .int 0), (3, .ref ou), (2, .ref mo), (1, .ref o), (0, .ref b)]) : W p l e room_1 s m #[Value.ref b] below meth c H locs 1000 10000 (lw_Z below #[Value.ref b] s) (F0 m 1339 ls []) := by
  have C1 := C0
  obtain ⟨hx, hb, hr, hml, hown, hts, hX, hbl, hlocks, hgv⟩ := C0
  have hA : ∀ q : Nat, s.heap.size ≤ q → (fun q : Nat => s.heap.size ≤ q) q := fun _ h => h
  have hbA : ¬ (fun q : Nat => s.heap.size ≤ q) b := Nat.not_le.mpr hbl
  have hRf : room_1.frames = 13 := rfl
  have hRc : room_1.cells = 600002 := rfl
  have hRs : room_1.slots = 7302232 := rfl
  have hRl : room_1.locals = 522 := rfl
  generalize hAe : (fun q : Nat => s.heap.size ≤ q) = A at hP hD hS hA hbA hKX
  refine lv_aload_n hx hb dL_law_1339 rfl (lv_at hl 3 rfl) ?_
  refine lv_aload_n hx hb dL_law_1340 rfl (lv_at hl 4 rfl) ?_
  refine lv_iload hx hb dL_law_1341 (lv_at hl 0 rfl) ?_
  refine lv_iconst (v := 1) hx hb dL_law_1343 (by decide) ?_
  refine lv_iadd hx hb dL_law_1344 ?_
  refine lv_topi (fun v_564 ev_564 => ?_)
  obtain rfl : v_564 = 1 := ev_564.trans (by decide)
  refine va_sld hx hb hX hbl hbA hS (vp_in_nI (n := 1) (N := 7) (by decide) (by decide)) dL_law_1345 ?_
  refine lv_topi (fun v_565 ev_565 => ?_)
  obtain rfl : v_565 = (xs 1) := ev_565.trans rfl
  refine lv_if_eq (tgt := 1353) hx hb dL_law_1346 (by decide) (fun c_566 => ?_) (fun c_566 => ?_)
  · have h_b := True.intro
    refine lv_iconst (v := 0) hx hb dL_law_1353 (by decide) ?_
    refine zrdVd (As := [.int 0]) (rest := []) (wc := [(o, .inr (3, [.ref kA, .int 0, .int 20, .int 60, .int 2000, .int 0, .ref iA, .int 0, .int 0, .int 0, .ref tA, .ref tr, .ref lA, .int 0]))]) ⟨hx, hb, hml, hown, hts⟩ (c_middle0 l D _ o kA iA tA tr lA 0) (cwV 1 hts zgV_X3_middle rfl rfl rfl (by decide +kernel) ⟨by rw [hRf]; exact Nat.le_of_ble_eq_true rfl, by rw [hRl]; exact Nat.le_of_ble_eq_true rfl⟩) hK hP hD [0] rfl (by decide) [] rfl (ci := 3) (q0 := 0) rfl rfl rfl hl.1 rfl (Nat.le_of_ble_eq_true rfl) dL_law_1354 ⟨by omega, by omega⟩ (fun r_567 hr_567 => ?_)
    refine lv_topd (fun v_568 ev_568 => ?_)
    obtain rfl : v_568 = FP.dconst0 := ev_568.trans hr_567
    refine lv_dstore (lv' := [(5, .double FP.dconst0), (4, .int 0), (3, .ref ou), (2, .ref mo), (1, .ref o), (0, .ref b)]) hx hb dL_law_1357 hl (by decide) rfl (fun ls hl => ?_)
    refine lv_aload_n hx hb dL_law_1359 rfl (lv_at hl 3 rfl) ?_
    refine lv_aload_n hx hb dL_law_1360 rfl (lv_at hl 5 rfl) ?_
    refine lv_iload hx hb dL_law_1361 (lv_at hl 1 rfl) ?_
    refine lv_iconst (v := 1) hx hb dL_law_1363 (by decide) ?_
    refine lv_iadd hx hb dL_law_1364 ?_
    refine lv_topi (fun v_569 ev_569 => ?_)
    obtain rfl : v_569 = 1 := ev_569.trans (by decide)
    refine va_sld hx hb hX hbl hbA hS (vp_in_nI (n := 1) (N := 7) (by decide) (by decide)) dL_law_1365 ?_
    refine lv_topi (fun v_570 ev_570 => ?_)
    obtain rfl : v_570 = (xs 1) := ev_570.trans rfl
    refine lv_if_eq (tgt := 1373) hx hb dL_law_1366 (by decide) (fun c_571 => ?_) (fun c_571 => absurd (c_566) c_571)
    refine lv_iconst (v := 0) hx hb dL_law_1373 (by decide) ?_
    refine zcalldV (As := [.int 0]) (rest := []) (wc := [(mo, .inr (4, [.int 0, .int 0, .ref kT, .int 20, .int 60, .int 2000, .int 0, .int 0, .ref tb, .ref ld, .int 0, .ref lK, .ref lC, .int 0])), (tb, .inl (e2, 366, .inl (fun _ => 0)))]) (wr := [(o, .inr (3, [.ref kA, .int 0, .int 20, .int 60, .int 2000, .int 0, .ref iA, .int 0, .int 0, .int 0, .ref tA, .ref tr, .ref lA, .int 0])), (kA, .inl (cK, 10, .inr (.inr (.inr (.inr (fun _ => none)))))), (tA, .inl (cT, 120, .inl (fun _ => 0))), (kT, .inl (e1, 60, .inl (fun _ => 0))), (ld, .inl (e3, 61, .inl (fun _ => 0))), (ou, .inl (cJ, 1, .inr (.inl (fun _ => 0))))]) ⟨hx, hb, hml, hown, hts⟩ (c_Mmiddle l D _ mo kT tb ld lK lC e2 0) (cwV 1 hts zgV_X4_middle rfl rfl rfl (by decide +kernel) ⟨by rw [hRf]; exact Nat.le_of_ble_eq_true rfl, by rw [hRl]; exact Nat.le_of_ble_eq_true rfl⟩) hK hP hD hS hA [3, 5] [0, 1, 2, 4, 6, 7] rfl (by decide) rfl (by decide) (by decide) [3] rfl (ci := 4) (q0 := 3) rfl rfl rfl hl.1 rfl (Nat.le_of_ble_eq_true rfl) dL_law_1374 ⟨by omega, by omega⟩ (fun r_572 u_573 H locs hwu_573 hnu_573 hzu_573 hK hP hD hS => ?_)
    have hK : va_K D vwCl [(cK, .object RX1), (cT, .int), (e1, .int), (e2, .int), (e3, .int), (cJ, .long)] s := hK
    have hP : va_P D vwCl ([(o, .inr (3, [.ref kA, .int 0, .int 20, .int 60, .int 2000, .int 0, .ref iA, .int 0, .int 0, .int 0, .ref tA, .ref tr, .ref lA, .int 0])), (kA, .inl (cK, 10, .inr (.inr (.inr (.inr (fun _ => none)))))), (tA, .inl (cT, 120, .inl (fun _ => 0))), (kT, .inl (e1, 60, .inl (fun _ => 0))), (ld, .inl (e3, 61, .inl (fun _ => 0))), (ou, .inl (cJ, 1, .inr (.inl (fun _ => 0)))), (mo, .inr (4, [.int 0, .int 0, .ref kT, .int 20, .int 60, .int 2000, .int 0, .int 0, .ref tb, .ref ld, .int 0, .ref lK, .ref lC, .int 0]))]) H := hP
    have hD : va_D A ([(o, .inr (3, [.ref kA, .int 0, .int 20, .int 60, .int 2000, .int 0, .ref iA, .int 0, .int 0, .int 0, .ref tA, .ref tr, .ref lA, .int 0])), (kA, .inl (cK, 10, .inr (.inr (.inr (.inr (fun _ => none)))))), (tA, .inl (cT, 120, .inl (fun _ => 0))), (kT, .inl (e1, 60, .inl (fun _ => 0))), (ld, .inl (e3, 61, .inl (fun _ => 0))), (ou, .inl (cJ, 1, .inr (.inl (fun _ => 0)))), (mo, .inr (4, [.int 0, .int 0, .ref kT, .int 20, .int 60, .int 2000, .int 0, .int 0, .ref tb, .ref ld, .int 0, .ref lK, .ref lC, .int 0]))]) := hD
    refine lv_topd (fun v_574 ev_574 => ?_)
    obtain rfl : v_574 = FP.dconst0 := ev_574.trans hwu_573
    refine lv_dstore (lv' := [(7, .double FP.dconst0), (5, .double FP.dconst0), (4, .int 0), (3, .ref ou), (2, .ref mo), (1, .ref o), (0, .ref b)]) hx hb dL_law_1377 hl (by decide) rfl (fun ls hl => ?_)
    refine lv_dload hx hb dL_law_1379 (lv_at hl 1 rfl) ?_
    refine lv_dload hx hb dL_law_1381 (lv_at hl 0 rfl) ?_
    refine lv_dcmp hx hb dL_law_1383 ?_
    refine lv_topi (fun v_575 ev_575 => ?_)
    obtain rfl : v_575 = 0 := ev_575.trans (by decide +kernel)
    refine lv_if_eq (tgt := 1405) hx hb dL_law_1384 (by decide) (fun c_576 => ?_) (fun c_576 => absurd (rfl) c_576)
    refine lv_goto (tgt := 1463) hx hb dL_law_1405 (by decide) ?_
    have hl := lv_sub hl (l' := [(4, .int 0), (3, .ref ou), (2, .ref mo), (1, .ref o), (0, .ref b)]) [2, 3, 4, 5, 6] rfl
    refine W.widen (k := 2000) (n := 20000) (by omega) (by omega) ?_
    subst hAe
    exact znext C1 o mo ou H locs ls hS hl
  · have h_b := True.intro
    refine lv_iconst (v := 1) hx hb dL_law_1349 (by decide) ?_
    refine lv_goto (tgt := 1354) hx hb dL_law_1350 (by decide) ?_
    refine zrdVd (As := [.int 1]) (rest := []) (wc := [(o, .inr (3, [.ref kA, .int 0, .int 20, .int 60, .int 2000, .int 0, .ref iA, .int 0, .int 0, .int 0, .ref tA, .ref tr, .ref lA, .int 0]))]) ⟨hx, hb, hml, hown, hts⟩ (c_middle0 l D _ o kA iA tA tr lA 1) (cwV 1 hts zgV_X3_middle rfl rfl rfl (by decide +kernel) ⟨by rw [hRf]; exact Nat.le_of_ble_eq_true rfl, by rw [hRl]; exact Nat.le_of_ble_eq_true rfl⟩) hK hP hD [0] rfl (by decide) [] rfl (ci := 3) (q0 := 0) rfl rfl rfl hl.1 rfl (Nat.le_of_ble_eq_true rfl) dL_law_1354 ⟨by omega, by omega⟩ (fun r_577 hr_577 => ?_)
    refine lv_topd (fun v_578 ev_578 => ?_)
    obtain rfl : v_578 = FP.dconst0 := ev_578.trans hr_577
    refine lv_dstore (lv' := [(5, .double FP.dconst0), (4, .int 0), (3, .ref ou), (2, .ref mo), (1, .ref o), (0, .ref b)]) hx hb dL_law_1357 hl (by decide) rfl (fun ls hl => ?_)
    refine lv_aload_n hx hb dL_law_1359 rfl (lv_at hl 3 rfl) ?_
    refine lv_aload_n hx hb dL_law_1360 rfl (lv_at hl 5 rfl) ?_
    refine lv_iload hx hb dL_law_1361 (lv_at hl 1 rfl) ?_
    refine lv_iconst (v := 1) hx hb dL_law_1363 (by decide) ?_
    refine lv_iadd hx hb dL_law_1364 ?_
    refine lv_topi (fun v_579 ev_579 => ?_)
    obtain rfl : v_579 = 1 := ev_579.trans (by decide)
    refine va_sld hx hb hX hbl hbA hS (vp_in_nI (n := 1) (N := 7) (by decide) (by decide)) dL_law_1365 ?_
    refine lv_topi (fun v_580 ev_580 => ?_)
    obtain rfl : v_580 = (xs 1) := ev_580.trans rfl
    refine lv_if_eq (tgt := 1373) hx hb dL_law_1366 (by decide) (fun c_581 => absurd c_581 (c_566)) (fun c_581 => ?_)
    refine lv_iconst (v := 1) hx hb dL_law_1369 (by decide) ?_
    refine lv_goto (tgt := 1374) hx hb dL_law_1370 (by decide) ?_
    refine zcalldV (As := [.int 1]) (rest := []) (wc := [(mo, .inr (4, [.int 0, .int 0, .ref kT, .int 20, .int 60, .int 2000, .int 0, .int 0, .ref tb, .ref ld, .int 0, .ref lK, .ref lC, .int 0])), (tb, .inl (e2, 366, .inl (fun _ => 0)))]) (wr := [(o, .inr (3, [.ref kA, .int 0, .int 20, .int 60, .int 2000, .int 0, .ref iA, .int 0, .int 0, .int 0, .ref tA, .ref tr, .ref lA, .int 0])), (kA, .inl (cK, 10, .inr (.inr (.inr (.inr (fun _ => none)))))), (tA, .inl (cT, 120, .inl (fun _ => 0))), (kT, .inl (e1, 60, .inl (fun _ => 0))), (ld, .inl (e3, 61, .inl (fun _ => 0))), (ou, .inl (cJ, 1, .inr (.inl (fun _ => 0))))]) ⟨hx, hb, hml, hown, hts⟩ (c_Mmiddle l D _ mo kT tb ld lK lC e2 1) (cwV 1 hts zgV_X4_middle rfl rfl rfl (by decide +kernel) ⟨by rw [hRf]; exact Nat.le_of_ble_eq_true rfl, by rw [hRl]; exact Nat.le_of_ble_eq_true rfl⟩) hK hP hD hS hA [3, 5] [0, 1, 2, 4, 6, 7] rfl (by decide) rfl (by decide) (by decide) [3] rfl (ci := 4) (q0 := 3) rfl rfl rfl hl.1 rfl (Nat.le_of_ble_eq_true rfl) dL_law_1374 ⟨by omega, by omega⟩ (fun r_582 u_583 H locs hwu_583 hnu_583 hzu_583 hK hP hD hS => ?_)
    have hK : va_K D vwCl [(cK, .object RX1), (cT, .int), (e1, .int), (e2, .int), (e3, .int), (cJ, .long)] s := hK
    have hP : va_P D vwCl ([(o, .inr (3, [.ref kA, .int 0, .int 20, .int 60, .int 2000, .int 0, .ref iA, .int 0, .int 0, .int 0, .ref tA, .ref tr, .ref lA, .int 0])), (kA, .inl (cK, 10, .inr (.inr (.inr (.inr (fun _ => none)))))), (tA, .inl (cT, 120, .inl (fun _ => 0))), (kT, .inl (e1, 60, .inl (fun _ => 0))), (ld, .inl (e3, 61, .inl (fun _ => 0))), (ou, .inl (cJ, 1, .inr (.inl (fun _ => 0)))), (mo, .inr (4, [.int 0, .int 0, .ref kT, .int 20, .int 60, .int 2000, .int 0, .int 0, .ref tb, .ref ld, .int 0, .ref lK, .ref lC, .int 0]))]) H := hP
    have hD : va_D A ([(o, .inr (3, [.ref kA, .int 0, .int 20, .int 60, .int 2000, .int 0, .ref iA, .int 0, .int 0, .int 0, .ref tA, .ref tr, .ref lA, .int 0])), (kA, .inl (cK, 10, .inr (.inr (.inr (.inr (fun _ => none)))))), (tA, .inl (cT, 120, .inl (fun _ => 0))), (kT, .inl (e1, 60, .inl (fun _ => 0))), (ld, .inl (e3, 61, .inl (fun _ => 0))), (ou, .inl (cJ, 1, .inr (.inl (fun _ => 0)))), (mo, .inr (4, [.int 0, .int 0, .ref kT, .int 20, .int 60, .int 2000, .int 0, .int 0, .ref tb, .ref ld, .int 0, .ref lK, .ref lC, .int 0]))]) := hD
    refine lv_topd (fun v_584 ev_584 => ?_)
    obtain rfl : v_584 = FP.dconst0 := ev_584.trans hwu_583
    refine lv_dstore (lv' := [(7, .double FP.dconst0), (5, .double FP.dconst0), (4, .int 0), (3, .ref ou), (2, .ref mo), (1, .ref o), (0, .ref b)]) hx hb dL_law_1377 hl (by decide) rfl (fun ls hl => ?_)
    refine lv_dload hx hb dL_law_1379 (lv_at hl 1 rfl) ?_
    refine lv_dload hx hb dL_law_1381 (lv_at hl 0 rfl) ?_
    refine lv_dcmp hx hb dL_law_1383 ?_
    refine lv_topi (fun v_585 ev_585 => ?_)
    obtain rfl : v_585 = 0 := ev_585.trans (by decide +kernel)
    refine lv_if_eq (tgt := 1405) hx hb dL_law_1384 (by decide) (fun c_586 => ?_) (fun c_586 => absurd (rfl) c_586)
    refine lv_goto (tgt := 1463) hx hb dL_law_1405 (by decide) ?_
    have hl := lv_sub hl (l' := [(4, .int 0), (3, .ref ou), (2, .ref mo), (1, .ref o), (0, .ref b)]) [2, 3, 4, 5, 6] rfl
    refine W.widen (k := 2000) (n := 20000) (by omega) (by omega) ?_
    subst hAe
    exact znext C1 o mo ou H locs ls hS hl
set_option maxHeartbeats 4000000 in
set_option maxRecDepth 100000 in
theorem zc_filled {p : Program} {e : Env} {s : State} {m : MethodId} {below : List Frame} {meth : Method} {c : Code} {l : Launch} {b : Nat} {xs : Nat → Int32} (C0 : lw_At p s m meth c b 7 xs) (hfl : l.stackTraces = false) {D : zG} (hKX : zKX (fun q : Nat => s.heap.size ≤ q) s) (o kA iA tA tr lA mo kT tb ld lK lC ou : Nat) (cK cT e1 e2 e3 cJ : ClassId) (H : Heap) (locs : List Loc) (ls : Array Slot) (hK : va_K D vwCl [(cK, .object RX1), (cT, .int), (e1, .int), (e2, .int), (e3, .int), (cJ, .long)] s) (hP : va_P D vwCl ([(o, .inr (3, [.ref kA, .int 0, .int 20, .int 60, .int 2000, .int 0, .ref iA, .int 0, .int 0, .int 0, .ref tA, .ref tr, .ref lA, .int 0])), (kA, .inl (cK, 10, .inr (.inr (.inr (.inr (fun _ => none)))))), (tA, .inl (cT, 120, .inl (fun _ => 0))), (mo, .inr (4, [.int 0, .int 0, .ref kT, .int 20, .int 60, .int 2000, .int 0, .int 0, .ref tb, .ref ld, .int 0, .ref lK, .ref lC, .int 0])), (kT, .inl (e1, 60, .inl (fun _ => 0))), (tb, .inl (e2, 366, .inl (fun _ => 0))), (ld, .inl (e3, 61, .inl (fun _ => 0))), (ou, .inl (cJ, 1, .inr (.inl (fun _ => 0))))]) H) (hD : va_D (fun q : Nat => s.heap.size ≤ q) ([(o, .inr (3, [.ref kA, .int 0, .int 20, .int 60, .int 2000, .int 0, .ref iA, .int 0, .int 0, .int 0, .ref tA, .ref tr, .ref lA, .int 0])), (kA, .inl (cK, 10, .inr (.inr (.inr (.inr (fun _ => none)))))), (tA, .inl (cT, 120, .inl (fun _ => 0))), (mo, .inr (4, [.int 0, .int 0, .ref kT, .int 20, .int 60, .int 2000, .int 0, .int 0, .ref tb, .ref ld, .int 0, .ref lK, .ref lC, .int 0])), (kT, .inl (e1, 60, .inl (fun _ => 0))), (tb, .inl (e2, 366, .inl (fun _ => 0))), (ld, .inl (e3, 61, .inl (fun _ => 0))), (ou, .inl (cJ, 1, .inr (.inl (fun _ => 0))))])) (hS : va_S (fun q : Nat => s.heap.size ≤ q) s.heap H locs) (hl : lv_has ls 9 [(4, .int 0), (3, .ref ou), (2, .ref mo), (1, .ref o), (0, .ref b)]) : W p l e room_1 s m #[Value.ref b] below meth c H locs 1000 10000 (lw_Z below #[Value.ref b] s) (F0 m 1408 ls []) := by
  have C1 := C0
  obtain ⟨hx, hb, hr, hml, hown, hts, hX, hbl, hlocks, hgv⟩ := C0
  have hA : ∀ q : Nat, s.heap.size ≤ q → (fun q : Nat => s.heap.size ≤ q) q := fun _ h => h
  have hbA : ¬ (fun q : Nat => s.heap.size ≤ q) b := Nat.not_le.mpr hbl
  have hRf : room_1.frames = 13 := rfl
  have hRc : room_1.cells = 600002 := rfl
  have hRs : room_1.slots = 7302232 := rfl
  have hRl : room_1.locals = 522 := rfl
  generalize hAe : (fun q : Nat => s.heap.size ≤ q) = A at hP hD hS hA hbA hKX
  refine lv_aload_n hx hb dL_law_1408 rfl (lv_at hl 3 rfl) ?_
  refine zrdVd (As := []) (rest := []) (wc := [(o, .inr (3, [.ref kA, .int 0, .int 20, .int 60, .int 2000, .int 0, .ref iA, .int 0, .int 0, .int 0, .ref tA, .ref tr, .ref lA, .int 0]))]) ⟨hx, hb, hml, hown, hts⟩ (c_filled0 l D _ o kA iA tA tr lA) (cwV 0 hts zgV_X3_filled rfl rfl rfl (by decide +kernel) ⟨by rw [hRf]; exact Nat.le_of_ble_eq_true rfl, by rw [hRl]; exact Nat.le_of_ble_eq_true rfl⟩) hK hP hD [0] rfl (by decide) [] rfl (ci := 3) (q0 := 0) rfl rfl rfl hl.1 rfl (Nat.le_of_ble_eq_true rfl) dL_law_1409 ⟨by omega, by omega⟩ (fun r_587 hr_587 => ?_)
  refine lv_topd (fun v_588 ev_588 => ?_)
  obtain rfl : v_588 = FP.dconst0 := ev_588.trans hr_587
  refine lv_dstore (lv' := [(5, .double FP.dconst0), (4, .int 0), (3, .ref ou), (2, .ref mo), (1, .ref o), (0, .ref b)]) hx hb dL_law_1412 hl (by decide) rfl (fun ls hl => ?_)
  refine lv_aload_n hx hb dL_law_1414 rfl (lv_at hl 3 rfl) ?_
  refine zcalldV (As := []) (rest := []) (wc := [(mo, .inr (4, [.int 0, .int 0, .ref kT, .int 20, .int 60, .int 2000, .int 0, .int 0, .ref tb, .ref ld, .int 0, .ref lK, .ref lC, .int 0]))]) (wr := [(o, .inr (3, [.ref kA, .int 0, .int 20, .int 60, .int 2000, .int 0, .ref iA, .int 0, .int 0, .int 0, .ref tA, .ref tr, .ref lA, .int 0])), (kA, .inl (cK, 10, .inr (.inr (.inr (.inr (fun _ => none)))))), (tA, .inl (cT, 120, .inl (fun _ => 0))), (kT, .inl (e1, 60, .inl (fun _ => 0))), (tb, .inl (e2, 366, .inl (fun _ => 0))), (ld, .inl (e3, 61, .inl (fun _ => 0))), (ou, .inl (cJ, 1, .inr (.inl (fun _ => 0))))]) ⟨hx, hb, hml, hown, hts⟩ (c_Mfilled l D _ mo kT tb ld lK lC) (cwV 0 hts zgV_X4_filled rfl rfl rfl (by decide +kernel) ⟨by rw [hRf]; exact Nat.le_of_ble_eq_true rfl, by rw [hRl]; exact Nat.le_of_ble_eq_true rfl⟩) hK hP hD hS hA [3] [0, 1, 2, 4, 5, 6, 7] rfl (by decide) rfl (by decide) (by decide) [] rfl (ci := 4) (q0 := 3) rfl rfl rfl hl.1 rfl (Nat.le_of_ble_eq_true rfl) dL_law_1415 ⟨by omega, by omega⟩ (fun r_589 u_590 H locs hwu_590 hnu_590 hzu_590 hK hP hD hS => ?_)
  have hK : va_K D vwCl [(cK, .object RX1), (cT, .int), (e1, .int), (e2, .int), (e3, .int), (cJ, .long)] s := hK
  have hP : va_P D vwCl ([(o, .inr (3, [.ref kA, .int 0, .int 20, .int 60, .int 2000, .int 0, .ref iA, .int 0, .int 0, .int 0, .ref tA, .ref tr, .ref lA, .int 0])), (kA, .inl (cK, 10, .inr (.inr (.inr (.inr (fun _ => none)))))), (tA, .inl (cT, 120, .inl (fun _ => 0))), (kT, .inl (e1, 60, .inl (fun _ => 0))), (tb, .inl (e2, 366, .inl (fun _ => 0))), (ld, .inl (e3, 61, .inl (fun _ => 0))), (ou, .inl (cJ, 1, .inr (.inl (fun _ => 0)))), (mo, .inr (4, [.int 0, .int 0, .ref kT, .int 20, .int 60, .int 2000, .int 0, .int 0, .ref tb, .ref ld, .int 0, .ref lK, .ref lC, .int 0]))]) H := hP
  have hD : va_D A ([(o, .inr (3, [.ref kA, .int 0, .int 20, .int 60, .int 2000, .int 0, .ref iA, .int 0, .int 0, .int 0, .ref tA, .ref tr, .ref lA, .int 0])), (kA, .inl (cK, 10, .inr (.inr (.inr (.inr (fun _ => none)))))), (tA, .inl (cT, 120, .inl (fun _ => 0))), (kT, .inl (e1, 60, .inl (fun _ => 0))), (tb, .inl (e2, 366, .inl (fun _ => 0))), (ld, .inl (e3, 61, .inl (fun _ => 0))), (ou, .inl (cJ, 1, .inr (.inl (fun _ => 0)))), (mo, .inr (4, [.int 0, .int 0, .ref kT, .int 20, .int 60, .int 2000, .int 0, .int 0, .ref tb, .ref ld, .int 0, .ref lK, .ref lC, .int 0]))]) := hD
  refine lv_topd (fun v_591 ev_591 => ?_)
  obtain rfl : v_591 = FP.dconst0 := ev_591.trans hwu_590
  refine lv_dstore (lv' := [(7, .double FP.dconst0), (5, .double FP.dconst0), (4, .int 0), (3, .ref ou), (2, .ref mo), (1, .ref o), (0, .ref b)]) hx hb dL_law_1418 hl (by decide) rfl (fun ls hl => ?_)
  refine lv_dload hx hb dL_law_1420 (lv_at hl 1 rfl) ?_
  refine lv_dload hx hb dL_law_1422 (lv_at hl 0 rfl) ?_
  refine lv_dcmp hx hb dL_law_1424 ?_
  refine lv_topi (fun v_592 ev_592 => ?_)
  obtain rfl : v_592 = 0 := ev_592.trans (by decide +kernel)
  refine lv_if_eq (tgt := 1446) hx hb dL_law_1425 (by decide) (fun c_593 => ?_) (fun c_593 => absurd (rfl) c_593)
  refine lv_goto (tgt := 1463) hx hb dL_law_1446 (by decide) ?_
  have hl := lv_sub hl (l' := [(4, .int 0), (3, .ref ou), (2, .ref mo), (1, .ref o), (0, .ref b)]) [2, 3, 4, 5, 6] rfl
  refine W.widen (k := 2000) (n := 20000) (by omega) (by omega) ?_
  subst hAe
  exact znext C1 o mo ou H locs ls hS hl
set_option maxHeartbeats 4000000 in
set_option maxRecDepth 100000 in
theorem zc_digest {p : Program} {e : Env} {s : State} {m : MethodId} {below : List Frame} {meth : Method} {c : Code} {l : Launch} {b : Nat} {xs : Nat → Int32} (C0 : lw_At p s m meth c b 7 xs) (hfl : l.stackTraces = false) {D : zG} (hKX : zKX (fun q : Nat => s.heap.size ≤ q) s) (o kA iA tA tr lA mo kT tb ld lK lC ou : Nat) (cK cT e1 e2 e3 cJ : ClassId) (H : Heap) (locs : List Loc) (ls : Array Slot) (hK : va_K D vwCl [(cK, .object RX1), (cT, .int), (e1, .int), (e2, .int), (e3, .int), (cJ, .long)] s) (hP : va_P D vwCl ([(o, .inr (3, [.ref kA, .int 0, .int 20, .int 60, .int 2000, .int 0, .ref iA, .int 0, .int 0, .int 0, .ref tA, .ref tr, .ref lA, .int 0])), (kA, .inl (cK, 10, .inr (.inr (.inr (.inr (fun _ => none)))))), (tA, .inl (cT, 120, .inl (fun _ => 0))), (mo, .inr (4, [.int 0, .int 0, .ref kT, .int 20, .int 60, .int 2000, .int 0, .int 0, .ref tb, .ref ld, .int 0, .ref lK, .ref lC, .int 0])), (kT, .inl (e1, 60, .inl (fun _ => 0))), (tb, .inl (e2, 366, .inl (fun _ => 0))), (ld, .inl (e3, 61, .inl (fun _ => 0))), (ou, .inl (cJ, 1, .inr (.inl (fun _ => 0))))]) H) (hD : va_D (fun q : Nat => s.heap.size ≤ q) ([(o, .inr (3, [.ref kA, .int 0, .int 20, .int 60, .int 2000, .int 0, .ref iA, .int 0, .int 0, .int 0, .ref tA, .ref tr, .ref lA, .int 0])), (kA, .inl (cK, 10, .inr (.inr (.inr (.inr (fun _ => none)))))), (tA, .inl (cT, 120, .inl (fun _ => 0))), (mo, .inr (4, [.int 0, .int 0, .ref kT, .int 20, .int 60, .int 2000, .int 0, .int 0, .ref tb, .ref ld, .int 0, .ref lK, .ref lC, .int 0])), (kT, .inl (e1, 60, .inl (fun _ => 0))), (tb, .inl (e2, 366, .inl (fun _ => 0))), (ld, .inl (e3, 61, .inl (fun _ => 0))), (ou, .inl (cJ, 1, .inr (.inl (fun _ => 0))))])) (hS : va_S (fun q : Nat => s.heap.size ≤ q) s.heap H locs) (hl : lv_has ls 9 [(4, .int 0), (3, .ref ou), (2, .ref mo), (1, .ref o), (0, .ref b)]) : W p l e room_1 s m #[Value.ref b] below meth c H locs 1000 10000 (lw_Z below #[Value.ref b] s) (F0 m 1449 ls []) := by
  have C1 := C0
  obtain ⟨hx, hb, hr, hml, hown, hts, hX, hbl, hlocks, hgv⟩ := C0
  have hA : ∀ q : Nat, s.heap.size ≤ q → (fun q : Nat => s.heap.size ≤ q) q := fun _ h => h
  have hbA : ¬ (fun q : Nat => s.heap.size ≤ q) b := Nat.not_le.mpr hbl
  have hRf : room_1.frames = 13 := rfl
  have hRc : room_1.cells = 600002 := rfl
  have hRs : room_1.slots = 7302232 := rfl
  have hRl : room_1.locals = 522 := rfl
  generalize hAe : (fun q : Nat => s.heap.size ≤ q) = A at hP hD hS hA hbA hKX
  refine lv_aload_n hx hb dL_law_1449 rfl (lv_at hl 3 rfl) ?_
  refine zrdVl (As := []) (rest := []) (wc := [(o, .inr (3, [.ref kA, .int 0, .int 20, .int 60, .int 2000, .int 0, .ref iA, .int 0, .int 0, .int 0, .ref tA, .ref tr, .ref lA, .int 0]))]) ⟨hx, hb, hml, hown, hts⟩ (c_digest0 l D _ o kA iA tA tr lA) (cwV 0 hts zgV_X3_digest rfl rfl rfl (by decide +kernel) ⟨by rw [hRf]; exact Nat.le_of_ble_eq_true rfl, by rw [hRl]; exact Nat.le_of_ble_eq_true rfl⟩) hK hP hD [0] rfl (by decide) [] rfl (ci := 3) (q0 := 0) rfl rfl rfl hl.1 rfl (Nat.le_of_ble_eq_true rfl) dL_law_1450 ⟨by omega, by omega⟩ (fun r_594 hr_594 => ?_)
  refine lv_topl (fun v_595 ev_595 => ?_)
  obtain rfl : v_595 = (297658972066909 : Int64) := ev_595.trans hr_594
  refine lv_aload_n hx hb dL_law_1453 rfl (lv_at hl 2 rfl) ?_
  refine zcalllV (As := []) (rest := [.long (297658972066909 : Int64)]) (wc := [(mo, .inr (4, [.int 0, .int 0, .ref kT, .int 20, .int 60, .int 2000, .int 0, .int 0, .ref tb, .ref ld, .int 0, .ref lK, .ref lC, .int 0])), (tb, .inl (e2, 366, .inl (fun _ => 0))), (ld, .inl (e3, 61, .inl (fun _ => 0)))]) (wr := [(o, .inr (3, [.ref kA, .int 0, .int 20, .int 60, .int 2000, .int 0, .ref iA, .int 0, .int 0, .int 0, .ref tA, .ref tr, .ref lA, .int 0])), (kA, .inl (cK, 10, .inr (.inr (.inr (.inr (fun _ => none)))))), (tA, .inl (cT, 120, .inl (fun _ => 0))), (kT, .inl (e1, 60, .inl (fun _ => 0))), (ou, .inl (cJ, 1, .inr (.inl (fun _ => 0))))]) ⟨hx, hb, hml, hown, hts⟩ (c_Mdigest l D _ mo kT tb ld lK lC e2 e3 (fun _ => 0)) (cwV 0 hts zgV_X4_digest rfl rfl rfl (by decide +kernel) ⟨by rw [hRf]; exact Nat.le_of_ble_eq_true rfl, by rw [hRl]; exact Nat.le_of_ble_eq_true rfl⟩) hK hP hD hS hA [3, 5, 6] [0, 1, 2, 4, 7] rfl (by decide) rfl (by decide) (by decide) [3, 4] rfl (ci := 4) (q0 := 3) rfl rfl rfl hl.1 rfl (Nat.le_of_ble_eq_true rfl) dL_law_1454 ⟨by omega, by omega⟩ (fun r_596 u_597 H locs hwu_597 hnu_597 hzu_597 hK hP hD hS => ?_)
  have hK : va_K D vwCl [(cK, .object RX1), (cT, .int), (e1, .int), (e2, .int), (e3, .int), (cJ, .long)] s := hK
  have hP : va_P D vwCl ([(o, .inr (3, [.ref kA, .int 0, .int 20, .int 60, .int 2000, .int 0, .ref iA, .int 0, .int 0, .int 0, .ref tA, .ref tr, .ref lA, .int 0])), (kA, .inl (cK, 10, .inr (.inr (.inr (.inr (fun _ => none)))))), (tA, .inl (cT, 120, .inl (fun _ => 0))), (kT, .inl (e1, 60, .inl (fun _ => 0))), (ou, .inl (cJ, 1, .inr (.inl (fun _ => 0)))), (mo, .inr (4, [.int 0, .int 0, .ref kT, .int 20, .int 60, .int 2000, .int 0, .int 0, .ref tb, .ref ld, .int 0, .ref lK, .ref lC, .int 0]))]) H := hP
  have hD : va_D A ([(o, .inr (3, [.ref kA, .int 0, .int 20, .int 60, .int 2000, .int 0, .ref iA, .int 0, .int 0, .int 0, .ref tA, .ref tr, .ref lA, .int 0])), (kA, .inl (cK, 10, .inr (.inr (.inr (.inr (fun _ => none)))))), (tA, .inl (cT, 120, .inl (fun _ => 0))), (kT, .inl (e1, 60, .inl (fun _ => 0))), (ou, .inl (cJ, 1, .inr (.inl (fun _ => 0)))), (mo, .inr (4, [.int 0, .int 0, .ref kT, .int 20, .int 60, .int 2000, .int 0, .int 0, .ref tb, .ref ld, .int 0, .ref lK, .ref lC, .int 0]))]) := hD
  refine lv_topl (fun v_598 ev_598 => ?_)
  obtain rfl : v_598 = (297658972066909 : Int64) := ev_598.trans hwu_597
  refine W.lcmp hx hb dL_law_1457 ?_
  refine lv_topi (fun v_599 ev_599 => ?_)
  obtain rfl : v_599 = 0 := ev_599.trans (zcmp_self _)
  refine lv_if_eq (tgt := 1463) hx hb dL_law_1458 (by decide) (fun c_600 => ?_) (fun c_600 => absurd (rfl) c_600)
  have hl := lv_sub hl (l' := [(4, .int 0), (3, .ref ou), (2, .ref mo), (1, .ref o), (0, .ref b)]) [0, 1, 2, 3, 4] rfl
  refine W.widen (k := 2000) (n := 20000) (by omega) (by omega) ?_
  subst hAe
  exact znext C1 o mo ou H locs ls hS hl
