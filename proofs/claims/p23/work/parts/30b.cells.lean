set_option maxHeartbeats 8000000 in
set_option maxRecDepth 100000 in
/-- the law goes through the cells of an item -/
theorem z_cells {p : Program} {e : Env} {s : State} {m : MethodId} {below : List Frame} {meth : Method} {c : Code} {l : Launch} {b L : Nat} {xs : Nat → Int32} (C0 : lw_At p s m meth c b L xs) (D : zG) (B : qB) (R : qR0) (N : qN0) (S : Nat → Nat → Nat) (hF : qFull B R N S) (A : Nat → Prop) (hA : ∀ q : Nat, s.heap.size ≤ q → A q) (cA : ClassId) (hKA : qKA s cA) (ad : Nat → Nat) (F : Nat → Option Nat) (rf : Nat → Int32) (K : Nat → Nat) (V : Nat → Nat → Nat) (hK : va_K D vwCl (qT B ++ [(cA, .array .int)]) s) (i k : Nat) (hi9 : i < N 4 1 5) (hk : k < qk B) (x0 w y0 d bt h c0 cnt0 : Nat) (e6 : N 0 i 6 = x0) (e4 : N 0 i 4 = w) (e7 : N 0 i 7 = y0) (e5 : N 0 i 5 = d) (e8 : N 0 i 8 = bt) (e9 : N 0 i 9 = bt + h) (eh : V k 2 = h) (v5 v9 : Int32) (Q : State → Prop) (ce sl : Nat) (hce : ce + cnt0 + 36 ≤ 5000) (hsl : sl + cnt0 + 36 ≤ 20000) (sf : Nat → Option Nat) (sa sv : Nat → Nat) (hsn : qSn N sf sa sv cnt0 i 0 0) (kk : ∀ (sf : Nat → Option Nat) (sa sv : Nat → Nat) (cnt z : Nat), qSn N sf sa sv cnt (i + 1) 0 0 → cnt ≤ cnt0 + 36 → z = c0 + w * d * h → ∀ (H : Heap) (locs : List Loc) (ls : Array Slot), va_P D vwCl (qLX cA (qY B 2) cA ad (qk B) F rf K V sf sa sv cnt ++ qG B R N) H → va_D A (qLX cA (qY B 2) cA ad (qk B) F rf K V sf sa sv cnt ++ qG B R N) → va_S A s.heap H locs → lv_has ls 19 [(15, .int (nI bt)), (14, .int (nI d)), (13, .int (nI w)), (11, .ref (K k)), (10, .int (nI i)), (9, .int v9), (8, .int (nI z)), (7, .ref (ad 4)), (5, .int v5), (2, .ref (ad 0)), (1, .ref (qA B 5 0))] → W p l e room_1 s m #[Value.ref b] below meth c H locs (ce + cnt) (sl + cnt) Q (F0 m 603 ls [])) (H : Heap) (locs : List Loc) (ls : Array Slot) : va_P D vwCl (qLX cA (qY B 2) cA ad (qk B) F rf K V sf sa sv cnt0 ++ qG B R N) H → va_D A (qLX cA (qY B 2) cA ad (qk B) F rf K V sf sa sv cnt0 ++ qG B R N) → va_S A s.heap H locs → lv_has ls 19 [(15, .int (nI bt)), (14, .int (nI d)), (13, .int (nI w)), (11, .ref (K k)), (10, .int (nI i)), (9, .int v9), (8, .int (nI c0)), (7, .ref (ad 4)), (5, .int v5), (2, .ref (ad 0)), (1, .ref (qA B 5 0))] → W p l e room_1 s m #[Value.ref b] below meth c H locs (ce + cnt0) (sl + cnt0) Q (F0 m 411 ls []) := by
  intro hP hD hS hl
  obtain ⟨hx, hb, hr, hml, hown, hts, hX0, hbl, hlocks, hgv⟩ := C0
  have hRf : room_1.frames = 10 := rfl
  have hRl : room_1.locals = 354 := rfl
  have hRc : 5000 ≤ room_1.cells := Nat.le_of_ble_eq_true rfl
  have hRs : 20000 ≤ room_1.slots := Nat.le_of_ble_eq_true rfl
  obtain ⟨hO, hM, hG, hSu, hKi, hRu, hLo, hIt, hWt⟩ := id hF
  obtain ⟨g1, g2, g3, g4, g5, g6, g7, g8⟩ := hG.1 i hi9
  have wd : 0 < w ∧ w ≤ 6 ∧ 0 < d ∧ d ≤ 6 ∧ x0 + w ≤ 12 ∧ y0 + d ≤ 10 ∧ 0 < h := by omega
  have t40 : bt + h ≤ 40 := by
    have h1 := (hIt i hi9).2.2.2.2.2.2.2.2.2.1
    have h2 := hRu.1
    omega
  clear g1 g2 g3 g4 g5 g6 g7 g8
  refine lv_aload_n hx hb dL_law_411 rfl (lv_at hl 10 rfl) ?_
  refine lv_iload hx hb dL_law_412 (lv_at hl 4 rfl) ?_
  refine lv_iconst (v := 1) hx hb dL_law_414 (by decide) ?_
  refine zrdV2 (As := [.int (nI i), .int 1]) (rest := []) (wc := qG B R N) ⟨hx, hb, hml, hown, hts⟩ (c_item_1 l D _ B R N i (by omega) hF.1) (cwV 2 hts zgV_X3_item rfl rfl rfl (by decide +kernel) ⟨by rw [hRf]; exact Nat.le_of_ble_eq_true rfl, by rw [hRl]; exact Nat.le_of_ble_eq_true rfl⟩) hK (qPr hP) (qDr hD) [0, 1, 2, 3] rfl (ci := 3) (q0 := 0) rfl rfl rfl hl.1 rfl (Nat.le_of_ble_eq_true rfl) dL_law_415 ⟨by omega, by omega⟩ (fun r_1 hr_1 => ?_)
  refine lv_topi (fun v_2 ev_2 => ?_)
  obtain rfl : v_2 = (nI (N 0 i 6)) := ev_2.trans hr_1
  refine lv_topi (fun v_3 ev_3 => ?_)
  obtain rfl : v_3 = (nI x0) := ev_3.trans (by rw [e6])
  refine lv_istore (lv' := [(16, .int (nI x0)), (15, .int (nI bt)), (14, .int (nI d)), (13, .int (nI w)), (11, .ref (K k)), (10, .int (nI i)), (9, .int v9), (8, .int (nI c0)), (7, .ref (ad 4)), (5, .int v5), (2, .ref (ad 0)), (1, .ref (qA B 5 0))]) hx hb dL_law_418 hl (by decide) rfl (fun ls hl => ?_)
  have hl := lv_sub hl (l' := [(16, .int (nI x0)), (15, .int (nI bt)), (14, .int (nI d)), (13, .int (nI w)), (11, .ref (K k)), (10, .int (nI i)), (9, .int v9), (8, .int (nI c0)), (7, .ref (ad 4)), (5, .int v5), (2, .ref (ad 0)), (1, .ref (qA B 5 0))]) [0, 1, 2, 3, 4, 5, 6, 7, 8, 9, 10, 11] rfl
  have loopx : ∀ (k9 a9 : Nat), a9 + k9 = w → ∀ (sf : Nat → Option Nat) (sa sv : Nat → Nat) (cnt z : Nat), qSn N sf sa sv cnt i (x0 + a9) 0 → cnt ≤ cnt0 + 6 * a9 → z = c0 + a9 * d * h → ∀ (H : Heap) (locs : List Loc) (ls : Array Slot), va_P D vwCl (qLX cA (qY B 2) cA ad (qk B) F rf K V sf sa sv cnt ++ qG B R N) H → va_D A (qLX cA (qY B 2) cA ad (qk B) F rf K V sf sa sv cnt ++ qG B R N) → va_S A s.heap H locs → lv_has ls 19 [(16, .int (nI (x0 + a9))), (15, .int (nI bt)), (14, .int (nI d)), (13, .int (nI w)), (11, .ref (K k)), (10, .int (nI i)), (9, .int v9), (8, .int (nI z)), (7, .ref (ad 4)), (5, .int v5), (2, .ref (ad 0)), (1, .ref (qA B 5 0))] → W p l e room_1 s m #[Value.ref b] below meth c H locs (ce + cnt) (sl + cnt) Q (F0 m 420 ls []) := by
    intro k9
    induction k9 with
    | zero =>
      intro a9 ha sf sa sv cnt z hsn hcn hz H locs ls hP hD hS hl
      obtain rfl : w = a9 := by omega
      refine lv_iload hx hb dL_law_420 (lv_at hl 0 rfl) ?_
      refine lv_aload_n hx hb dL_law_422 rfl (lv_at hl 11 rfl) ?_
      refine lv_iload hx hb dL_law_423 (lv_at hl 5 rfl) ?_
      refine lv_iconst (v := 1) hx hb dL_law_425 (by decide) ?_
      refine zrdV2 (As := [.int (nI i), .int 1]) (rest := [.int (nI (x0 + w))]) (wc := qG B R N) ⟨hx, hb, hml, hown, hts⟩ (c_item_1 l D _ B R N i (by omega) hF.1) (cwV 2 hts zgV_X3_item rfl rfl rfl (by decide +kernel) ⟨by rw [hRf]; exact Nat.le_of_ble_eq_true rfl, by rw [hRl]; exact Nat.le_of_ble_eq_true rfl⟩) hK (qPr hP) (qDr hD) [0, 1, 2, 3] rfl (ci := 3) (q0 := 0) rfl rfl rfl hl.1 rfl (Nat.le_of_ble_eq_true rfl) dL_law_426 ⟨by omega, by omega⟩ (fun r_4 hr_4 => ?_)
      refine lv_topi (fun v_5 ev_5 => ?_)
      obtain rfl : v_5 = (nI (N 0 i 6)) := ev_5.trans hr_4
      refine lv_topi (fun v_6 ev_6 => ?_)
      obtain rfl : v_6 = (nI x0) := ev_6.trans (by rw [e6])
      refine lv_iload hx hb dL_law_429 (lv_at hl 3 rfl) ?_
      refine lv_iadd hx hb dL_law_431 ?_
      refine lv_topi (fun v_7 ev_7 => ?_)
      obtain rfl : v_7 = (nI (x0 + w)) := ev_7.trans (nI_add _ _)
      refine lv_icmp_ge (tgt := 603) hx hb dL_law_432 (by decide) (fun c_8 => ?_) (fun c_8 => absurd (Int32.le_refl _) c_8)
      have hl := lv_sub hl (l' := [(15, .int (nI bt)), (14, .int (nI d)), (13, .int (nI w)), (11, .ref (K k)), (10, .int (nI i)), (9, .int v9), (8, .int (nI z)), (7, .ref (ad 4)), (5, .int v5), (2, .ref (ad 0)), (1, .ref (qA B 5 0))]) [1, 2, 3, 4, 5, 6, 7, 8, 9, 10, 11] rfl
      exact kk sf sa sv cnt z (qSn_i hsn) (by omega) hz H locs ls hP hD hS hl
    | succ k9 ih =>
      intro a9 ha sf sa sv cnt z hsn hcn hz H locs ls hP hD hS hl
      have ha9 : a9 < w := by omega
      refine lv_iload hx hb dL_law_420 (lv_at hl 0 rfl) ?_
      refine lv_aload_n hx hb dL_law_422 rfl (lv_at hl 11 rfl) ?_
      refine lv_iload hx hb dL_law_423 (lv_at hl 5 rfl) ?_
      refine lv_iconst (v := 1) hx hb dL_law_425 (by decide) ?_
      refine zrdV2 (As := [.int (nI i), .int 1]) (rest := [.int (nI (x0 + a9))]) (wc := qG B R N) ⟨hx, hb, hml, hown, hts⟩ (c_item_1 l D _ B R N i (by omega) hF.1) (cwV 2 hts zgV_X3_item rfl rfl rfl (by decide +kernel) ⟨by rw [hRf]; exact Nat.le_of_ble_eq_true rfl, by rw [hRl]; exact Nat.le_of_ble_eq_true rfl⟩) hK (qPr hP) (qDr hD) [0, 1, 2, 3] rfl (ci := 3) (q0 := 0) rfl rfl rfl hl.1 rfl (Nat.le_of_ble_eq_true rfl) dL_law_426 ⟨by omega, by omega⟩ (fun r_9 hr_9 => ?_)
      refine lv_topi (fun v_10 ev_10 => ?_)
      obtain rfl : v_10 = (nI (N 0 i 6)) := ev_10.trans hr_9
      refine lv_topi (fun v_11 ev_11 => ?_)
      obtain rfl : v_11 = (nI x0) := ev_11.trans (by rw [e6])
      refine lv_iload hx hb dL_law_429 (lv_at hl 3 rfl) ?_
      refine lv_iadd hx hb dL_law_431 ?_
      refine lv_topi (fun v_12 ev_12 => ?_)
      obtain rfl : v_12 = (nI (x0 + w)) := ev_12.trans (nI_add _ _)
      refine lv_icmp_ge (tgt := 603) hx hb dL_law_432 (by decide) (fun c_13 => absurd c_13 (nI_ge (by omega) (by omega))) (fun c_13 => ?_)
      refine lv_aload_n hx hb dL_law_435 rfl (lv_at hl 11 rfl) ?_
      refine lv_iload hx hb dL_law_436 (lv_at hl 5 rfl) ?_
      refine lv_iconst (v := 2) hx hb dL_law_438 (by decide) ?_
      refine zrdV2 (As := [.int (nI i), .int 2]) (rest := []) (wc := qG B R N) ⟨hx, hb, hml, hown, hts⟩ (c_item_2 l D _ B R N i (by omega) hF.1) (cwV 2 hts zgV_X3_item rfl rfl rfl (by decide +kernel) ⟨by rw [hRf]; exact Nat.le_of_ble_eq_true rfl, by rw [hRl]; exact Nat.le_of_ble_eq_true rfl⟩) hK (qPr hP) (qDr hD) [0, 1, 2, 3] rfl (ci := 3) (q0 := 0) rfl rfl rfl hl.1 rfl (Nat.le_of_ble_eq_true rfl) dL_law_439 ⟨by omega, by omega⟩ (fun r_14 hr_14 => ?_)
      refine lv_topi (fun v_15 ev_15 => ?_)
      obtain rfl : v_15 = (nI (N 0 i 7)) := ev_15.trans hr_14
      refine lv_topi (fun v_16 ev_16 => ?_)
      obtain rfl : v_16 = (nI y0) := ev_16.trans (by rw [e7])
      refine lv_istore (lv' := [(17, .int (nI y0)), (16, .int (nI (x0 + a9))), (15, .int (nI bt)), (14, .int (nI d)), (13, .int (nI w)), (11, .ref (K k)), (10, .int (nI i)), (9, .int v9), (8, .int (nI z)), (7, .ref (ad 4)), (5, .int v5), (2, .ref (ad 0)), (1, .ref (qA B 5 0))]) hx hb dL_law_442 hl (by decide) rfl (fun ls hl => ?_)
      have hl := lv_sub hl (l' := [(17, .int (nI y0)), (16, .int (nI (x0 + a9))), (15, .int (nI bt)), (14, .int (nI d)), (13, .int (nI w)), (11, .ref (K k)), (10, .int (nI i)), (9, .int v9), (8, .int (nI z)), (7, .ref (ad 4)), (5, .int v5), (2, .ref (ad 0)), (1, .ref (qA B 5 0))]) [0, 1, 2, 3, 4, 5, 6, 7, 8, 9, 10, 11, 12] rfl
      have loopy : ∀ (j9 b9 : Nat), b9 + j9 = d → ∀ (sf : Nat → Option Nat) (sa sv : Nat → Nat) (cnt z : Nat), qSn N sf sa sv cnt i (x0 + a9) (y0 + b9) → cnt ≤ cnt0 + 6 * a9 + b9 → z = c0 + (a9 * d + b9) * h → ∀ (H : Heap) (locs : List Loc) (ls : Array Slot), va_P D vwCl (qLX cA (qY B 2) cA ad (qk B) F rf K V sf sa sv cnt ++ qG B R N) H → va_D A (qLX cA (qY B 2) cA ad (qk B) F rf K V sf sa sv cnt ++ qG B R N) → va_S A s.heap H locs → lv_has ls 19 [(17, .int (nI (y0 + b9))), (16, .int (nI (x0 + a9))), (15, .int (nI bt)), (14, .int (nI d)), (13, .int (nI w)), (11, .ref (K k)), (10, .int (nI i)), (9, .int v9), (8, .int (nI z)), (7, .ref (ad 4)), (5, .int v5), (2, .ref (ad 0)), (1, .ref (qA B 5 0))] → W p l e room_1 s m #[Value.ref b] below meth c H locs (ce + cnt) (sl + cnt) Q (F0 m 444 ls []) := by
        intro j9
        induction j9 with
        | zero =>
          intro b9 hb9 sf sa sv cnt z hsn hcn hz H locs ls hP hD hS hl
          obtain rfl : d = b9 := by omega
          refine lv_iload hx hb dL_law_444 (lv_at hl 0 rfl) ?_
          refine lv_aload_n hx hb dL_law_446 rfl (lv_at hl 12 rfl) ?_
          refine lv_iload hx hb dL_law_447 (lv_at hl 6 rfl) ?_
          refine lv_iconst (v := 2) hx hb dL_law_449 (by decide) ?_
          refine zrdV2 (As := [.int (nI i), .int 2]) (rest := [.int (nI (y0 + d))]) (wc := qG B R N) ⟨hx, hb, hml, hown, hts⟩ (c_item_2 l D _ B R N i (by omega) hF.1) (cwV 2 hts zgV_X3_item rfl rfl rfl (by decide +kernel) ⟨by rw [hRf]; exact Nat.le_of_ble_eq_true rfl, by rw [hRl]; exact Nat.le_of_ble_eq_true rfl⟩) hK (qPr hP) (qDr hD) [0, 1, 2, 3] rfl (ci := 3) (q0 := 0) rfl rfl rfl hl.1 rfl (Nat.le_of_ble_eq_true rfl) dL_law_450 ⟨by omega, by omega⟩ (fun r_17 hr_17 => ?_)
          refine lv_topi (fun v_18 ev_18 => ?_)
          obtain rfl : v_18 = (nI (N 0 i 7)) := ev_18.trans hr_17
          refine lv_topi (fun v_19 ev_19 => ?_)
          obtain rfl : v_19 = (nI y0) := ev_19.trans (by rw [e7])
          refine lv_iload hx hb dL_law_453 (lv_at hl 3 rfl) ?_
          refine lv_iadd hx hb dL_law_455 ?_
          refine lv_topi (fun v_20 ev_20 => ?_)
          obtain rfl : v_20 = (nI (y0 + d)) := ev_20.trans (nI_add _ _)
          refine lv_icmp_ge (tgt := 597) hx hb dL_law_456 (by decide) (fun c_21 => ?_) (fun c_21 => absurd (Int32.le_refl _) c_21)
          refine lv_iinc (v := (nI (x0 + (a9 + 1)))) (lv' := [(16, .int (nI (x0 + (a9 + 1)))), (17, .int (nI (y0 + d))), (15, .int (nI bt)), (14, .int (nI d)), (13, .int (nI w)), (11, .ref (K k)), (10, .int (nI i)), (9, .int v9), (8, .int (nI z)), (7, .ref (ad 4)), (5, .int v5), (2, .ref (ad 0)), (1, .ref (qA B 5 0))]) hx hb dL_law_597 hl (k := 1) rfl (nI_1 (x0 + a9)) (by decide) rfl (fun ls hl => ?_)
          refine lv_goto (tgt := 420) hx hb dL_law_600 (by decide) ?_
          have hl := lv_sub hl (l' := [(16, .int (nI (x0 + (a9 + 1)))), (15, .int (nI bt)), (14, .int (nI d)), (13, .int (nI w)), (11, .ref (K k)), (10, .int (nI i)), (9, .int v9), (8, .int (nI z)), (7, .ref (ad 4)), (5, .int v5), (2, .ref (ad 0)), (1, .ref (qA B 5 0))]) [0, 2, 3, 4, 5, 6, 7, 8, 9, 10, 11, 12] rfl
          exact ih (a9 + 1) (by omega) sf sa sv cnt z (qSn_x hsn) (by omega) (by rw [hz, Nat.add_one_mul]) H locs ls hP hD hS hl
        | succ j9 ihy =>
          intro b9 hb9 sf sa sv cnt z hsn hcn hz H locs ls hP hD hS hl
          have hb99 : b9 < d := by omega
          refine lv_iload hx hb dL_law_444 (lv_at hl 0 rfl) ?_
          refine lv_aload_n hx hb dL_law_446 rfl (lv_at hl 12 rfl) ?_
          refine lv_iload hx hb dL_law_447 (lv_at hl 6 rfl) ?_
          refine lv_iconst (v := 2) hx hb dL_law_449 (by decide) ?_
          refine zrdV2 (As := [.int (nI i), .int 2]) (rest := [.int (nI (y0 + b9))]) (wc := qG B R N) ⟨hx, hb, hml, hown, hts⟩ (c_item_2 l D _ B R N i (by omega) hF.1) (cwV 2 hts zgV_X3_item rfl rfl rfl (by decide +kernel) ⟨by rw [hRf]; exact Nat.le_of_ble_eq_true rfl, by rw [hRl]; exact Nat.le_of_ble_eq_true rfl⟩) hK (qPr hP) (qDr hD) [0, 1, 2, 3] rfl (ci := 3) (q0 := 0) rfl rfl rfl hl.1 rfl (Nat.le_of_ble_eq_true rfl) dL_law_450 ⟨by omega, by omega⟩ (fun r_22 hr_22 => ?_)
          refine lv_topi (fun v_23 ev_23 => ?_)
          obtain rfl : v_23 = (nI (N 0 i 7)) := ev_23.trans hr_22
          refine lv_topi (fun v_24 ev_24 => ?_)
          obtain rfl : v_24 = (nI y0) := ev_24.trans (by rw [e7])
          refine lv_iload hx hb dL_law_453 (lv_at hl 3 rfl) ?_
          refine lv_iadd hx hb dL_law_455 ?_
          refine lv_topi (fun v_25 ev_25 => ?_)
          obtain rfl : v_25 = (nI (y0 + d)) := ev_25.trans (nI_add _ _)
          refine lv_icmp_ge (tgt := 597) hx hb dL_law_456 (by decide) (fun c_26 => absurd c_26 (nI_ge (by omega) (by omega))) (fun c_26 => ?_)
          refine lv_iload hx hb dL_law_459 (lv_at hl 1 rfl) ?_
          refine lv_if_lt (tgt := 483) hx hb dL_law_461 (by decide) (fun c_27 => absurd c_27 (nI_pos (by omega))) (fun c_27 => ?_)
          refine lv_iload hx hb dL_law_464 (lv_at hl 1 rfl) ?_
          refine lv_bipush (v := 11) hx hb dL_law_466 (by decide) ?_
          refine lv_icmp_gt (tgt := 483) hx hb dL_law_468 (by decide) (fun c_28 => absurd c_28 (nI_nlt (a := 11) (b := x0 + a9) (by omega) (by decide))) (fun c_28 => ?_)
          refine lv_iload hx hb dL_law_471 (lv_at hl 0 rfl) ?_
          refine lv_if_lt (tgt := 483) hx hb dL_law_473 (by decide) (fun c_29 => absurd c_29 (nI_pos (by omega))) (fun c_29 => ?_)
          refine lv_iload hx hb dL_law_476 (lv_at hl 0 rfl) ?_
          refine lv_bipush (v := 9) hx hb dL_law_478 (by decide) ?_
          refine lv_icmp_le (tgt := 485) hx hb dL_law_480 (by decide) (fun c_30 => ?_) (fun c_30 => absurd (nI_le (b := 9) (by omega) (by decide)) c_30)
          have hcv : qci N i (x0 + a9) (y0 + b9) = true := by
              unfold qci
              rw [e6, e4, e7, e5]
              exact qcov_iff.mpr ⟨⟨by omega, by omega⟩, ⟨by omega, by omega⟩⟩
          have hno : ∀ k9, k9 < i → qci N k9 (x0 + a9) (y0 + b9) = true → N 0 k9 9 ≤ bt := fun k9 h1 h2 => by rw [← e8]; exact hG.2.1 k9 i h1 hi9 _ _ h2 hcv
          refine lv_iload hx hb dL_law_485 (lv_at hl 2 rfl) ?_
          refine lv_istore (lv' := [(18, .int (nI bt)), (17, .int (nI (y0 + b9))), (16, .int (nI (x0 + a9))), (15, .int (nI bt)), (14, .int (nI d)), (13, .int (nI w)), (11, .ref (K k)), (10, .int (nI i)), (9, .int v9), (8, .int (nI z)), (7, .ref (ad 4)), (5, .int v5), (2, .ref (ad 0)), (1, .ref (qA B 5 0))]) hx hb dL_law_487 hl (by decide) rfl (fun ls hl => ?_)
          have hl := lv_sub hl (l' := [(18, .int (nI bt)), (17, .int (nI (y0 + b9))), (16, .int (nI (x0 + a9))), (15, .int (nI bt)), (14, .int (nI d)), (13, .int (nI w)), (11, .ref (K k)), (10, .int (nI i)), (9, .int v9), (8, .int (nI z)), (7, .ref (ad 4)), (5, .int v5), (2, .ref (ad 0)), (1, .ref (qA B 5 0))]) [0, 1, 2, 3, 4, 5, 6, 7, 8, 9, 10, 11, 12, 13] rfl
          have a524 : ∀ ls : Array Slot, lv_has ls 19 [(17, .int (nI (y0 + b9))), (16, .int (nI (x0 + a9))), (15, .int (nI bt)), (14, .int (nI d)), (13, .int (nI w)), (11, .ref (K k)), (10, .int (nI i)), (9, .int v9), (8, .int (nI z)), (7, .ref (ad 4)), (5, .int v5), (2, .ref (ad 0)), (1, .ref (qA B 5 0))] → W p l e room_1 s m #[Value.ref b] below meth c H locs (ce + cnt) (sl + cnt) Q (F0 m 524 ls []) := by
            intro ls hl
            have a558 : W p l e room_1 s m #[Value.ref b] below meth c H locs (ce + cnt) (sl + cnt) Q (F0 m 558 ls []) := by
              refine lv_aload hx hb dL_law_558 (lv_at hl 9 rfl) ?_
              refine lv_bipush (v := 12) hx hb dL_law_560 (by decide) ?_
              refine lv_iload hx hb dL_law_562 (lv_at hl 0 rfl) ?_
              refine lv_imul hx hb dL_law_564 ?_
              refine lv_topi (fun v_31 ev_31 => ?_)
              obtain rfl : v_31 = (nI (12 * (y0 + b9))) := ev_31.trans (pk_mul 12 _)
              refine lv_iload hx hb dL_law_565 (lv_at hl 1 rfl) ?_
              refine lv_iadd hx hb dL_law_567 ?_
              refine lv_topi (fun v_32 ev_32 => ?_)
              obtain rfl : v_32 = (nI (12 * (y0 + b9) + (x0 + a9))) := ev_32.trans (nI_add _ _)
              refine lv_iconst (v := 1) hx hb dL_law_568 (by decide) ?_
              refine znewa (atype := .int) (ty := .int) (N' := 1) (a0 := (1, .inl (fun _ => 0))) hx hb (hts (.arrayClass .int) (List.mem_of_getElem? (i := 128) (by decide +kernel))) rfl hK hP hD hS hA (fun _ => rfl) (by decide) rfl (Nat.le_of_ble_eq_true rfl) (by omega) (by omega) dL_law_569 (fun q_33 cy_34 H hz9 hK9 hP hD hS => ?_)
              have ec9 := qKu hK9 (i := 5) (j := 2) rfl rfl
              rw [ec9] at hP hD
              have hP : va_P D vwCl ((qLX cA (qY B 2) cA ad (qk B) F rf K V sf sa sv cnt ++ qG B R N) ++ [(q_33, .inl (qY B 2, 1, .inl (fun j => nI ((fun _ => 0) j))))]) H := hP
              have hD : va_D A ((qLX cA (qY B 2) cA ad (qk B) F rf K V sf sa sv cnt ++ qG B R N) ++ [(q_33, .inl (qY B 2, 1, .inl (fun j => nI ((fun _ => 0) j))))]) := hD
              refine lv_dup hx hb dL_law_571 rfl ?_
              refine lv_iconst (v := 0) hx hb dL_law_572 (by decide) ?_
              refine lv_iload hx hb dL_law_573 (lv_at hl 2 rfl) ?_
              refine lv_aload hx hb dL_law_575 (lv_at hl 5 rfl) ?_
              refine lv_iconst (v := 2) hx hb dL_law_577 (by decide) ?_
              refine va_iald hx hb hK hP (3 + k) 2 (qat_l (qLX_k hk)) rfl (vp_in_nI (n := 2) (N := 6) (by decide) (by decide)) dL_law_578 ?_
              refine lv_topi (fun v_35 ev_35 => ?_)
              obtain rfl : v_35 = (nI h) := ev_35.trans (congrArg nI eh)
              refine lv_iadd hx hb dL_law_579 ?_
              refine lv_topi (fun v_36 ev_36 => ?_)
              obtain rfl : v_36 = (nI (bt + h)) := ev_36.trans (nI_add _ _)
              refine va_iast hx hb hK hP hD hS (qLX cA (qY B 2) cA ad (qk B) F rf K V sf sa sv cnt ++ qG B R N).length 2 qgx rfl (vp_in_nI (n := 0) (N := 1) (by decide) (by decide)) dL_law_580 (fun H locs hP hD hS => ?_)
              rw [show Int32.toNatClampNeg 0 = 0 from rfl] at hP hD
              have hP : va_P D vwCl ((qLX cA (qY B 2) cA ad (qk B) F rf K V sf sa sv cnt ++ qG B R N) ++ [(q_33, .inl (qY B 2, 1, .inl (fun j => nI (qu (fun _ => 0) 0 (bt + h) j))))]) H := by rw [← qupd, ← qgx_set (Y := (qLX cA (qY B 2) cA ad (qk B) F rf K V sf sa sv cnt ++ qG B R N))]; exact hP
              have hD : va_D A ((qLX cA (qY B 2) cA ad (qk B) F rf K V sf sa sv cnt ++ qG B R N) ++ [(q_33, .inl (qY B 2, 1, .inl (fun j => nI (qu (fun _ => 0) 0 (bt + h) j))))]) := by rw [← qupd, ← qgx_set (Y := (qLX cA (qY B 2) cA ad (qk B) F rf K V sf sa sv cnt ++ qG B R N))]; exact hD
              refine qastA hx hb hK hP hD hS (3 + qk B) (qLX cA (qY B 2) cA ad (qk B) F rf K V sf sa sv cnt ++ qG B R N).length 2 hKA (qat_l qLX_s) qgx rfl (vp_in_nI (n := (12 * (y0 + b9) + (x0 + a9))) (N := 120) (by omega) (by omega)) dL_law_581 (fun H locs hP hD hS => ?_)
              rw [nI_clamp (by omega), List.append_assoc, qLX_set, ← List.append_assoc] at hP hD
              have hP := hP.swap
              have hD := hD.swap
              rw [qLX_1] at hP hD
              refine lv_iload hx hb dL_law_582 (lv_at hl 8 rfl) ?_
              refine lv_aload hx hb dL_law_584 (lv_at hl 5 rfl) ?_
              refine lv_iconst (v := 2) hx hb dL_law_586 (by decide) ?_
              refine va_iald hx hb hK hP (3 + k) 2 (qLX_k hk) rfl (vp_in_nI (n := 2) (N := 6) (by decide) (by decide)) dL_law_587 ?_
              refine lv_topi (fun v_37 ev_37 => ?_)
              obtain rfl : v_37 = (nI h) := ev_37.trans (congrArg nI eh)
              refine lv_iadd hx hb dL_law_588 ?_
              refine lv_topi (fun v_38 ev_38 => ?_)
              obtain rfl : v_38 = (nI (z + h)) := ev_38.trans (nI_add _ _)
              refine lv_istore (lv' := [(8, .int (nI (z + h))), (17, .int (nI (y0 + b9))), (16, .int (nI (x0 + a9))), (15, .int (nI bt)), (14, .int (nI d)), (13, .int (nI w)), (11, .ref (K k)), (10, .int (nI i)), (9, .int v9), (7, .ref (ad 4)), (5, .int v5), (2, .ref (ad 0)), (1, .ref (qA B 5 0))]) hx hb dL_law_589 hl (by decide) rfl (fun ls hl => ?_)
              refine lv_iinc (v := (nI (y0 + (b9 + 1)))) (lv' := [(17, .int (nI (y0 + (b9 + 1)))), (8, .int (nI (z + h))), (16, .int (nI (x0 + a9))), (15, .int (nI bt)), (14, .int (nI d)), (13, .int (nI w)), (11, .ref (K k)), (10, .int (nI i)), (9, .int v9), (7, .ref (ad 4)), (5, .int v5), (2, .ref (ad 0)), (1, .ref (qA B 5 0))]) hx hb dL_law_591 hl (k := 1) rfl (nI_1 (y0 + b9)) (by decide) rfl (fun ls hl => ?_)
              refine lv_goto (tgt := 444) hx hb dL_law_594 (by decide) ?_
              have hl := lv_sub hl (l' := [(17, .int (nI (y0 + (b9 + 1)))), (16, .int (nI (x0 + a9))), (15, .int (nI bt)), (14, .int (nI d)), (13, .int (nI w)), (11, .ref (K k)), (10, .int (nI i)), (9, .int v9), (8, .int (nI (z + h))), (7, .ref (ad 4)), (5, .int v5), (2, .ref (ad 0)), (1, .ref (qA B 5 0))]) [0, 2, 3, 4, 5, 6, 7, 8, 1, 9, 10, 11, 12] rfl
              have hs9 := qSn_1 (q := q_33) hsn (by omega) hcv
              rw [e9] at hs9
              exact ihy (b9 + 1) (by omega) _ _ _ (cnt + 1) (z + h) hs9 (by omega) (by rw [hz, show a9 * d + (b9 + 1) = (a9 * d + b9) + 1 from rfl, Nat.add_one_mul, Nat.add_assoc]) H locs ls hP hD hS hl
            refine lv_aload hx hb dL_law_524 (lv_at hl 9 rfl) ?_
            refine lv_bipush (v := 12) hx hb dL_law_526 (by decide) ?_
            refine lv_iload hx hb dL_law_528 (lv_at hl 0 rfl) ?_
            refine lv_imul hx hb dL_law_530 ?_
            refine lv_topi (fun v_39 ev_39 => ?_)
            obtain rfl : v_39 = (nI (12 * (y0 + b9))) := ev_39.trans (pk_mul 12 _)
            refine lv_iload hx hb dL_law_531 (lv_at hl 1 rfl) ?_
            refine lv_iadd hx hb dL_law_533 ?_
            refine lv_topi (fun v_40 ev_40 => ?_)
            obtain rfl : v_40 = (nI (12 * (y0 + b9) + (x0 + a9))) := ev_40.trans (nI_add _ _)
            rcases qSn_le hG hi9 hsn (by omega) (by omega) hcv with hq | ⟨e0, he1, he2, he3⟩
            · have h_b := True.intro
              refine qaldA hx hb hK hP (3 + qk B) 4 qLX_s rfl (vp_in_nI (n := (12 * (y0 + b9) + (x0 + a9))) (N := 120) (by omega) (by omega)) dL_law_534 ?_
              refine W.eq (g2 := F0 m 535 ls [.null]) (by rw [nI_clamp (by omega), hq]; rfl) ?_
              refine lv_ifnullN (tgt := 558) hx hb dL_law_535 (by decide) ?_
              exact a558
            · have h_b := True.intro
              refine qaldA hx hb hK hP (3 + qk B) 4 qLX_s rfl (vp_in_nI (n := (12 * (y0 + b9) + (x0 + a9))) (N := 120) (by omega) (by omega)) dL_law_534 ?_
              refine W.eq (g2 := F0 m 535 ls [.ref (sa e0)]) (by rw [nI_clamp (by omega), he2]; rfl) ?_
              refine lv_ifnull hx hb dL_law_535 ?_
              refine lv_aload hx hb dL_law_538 (lv_at hl 9 rfl) ?_
              refine lv_bipush (v := 12) hx hb dL_law_540 (by decide) ?_
              refine lv_iload hx hb dL_law_542 (lv_at hl 0 rfl) ?_
              refine lv_imul hx hb dL_law_544 ?_
              refine lv_topi (fun v_43 ev_43 => ?_)
              obtain rfl : v_43 = (nI (12 * (y0 + b9))) := ev_43.trans (pk_mul 12 _)
              refine lv_iload hx hb dL_law_545 (lv_at hl 1 rfl) ?_
              refine lv_iadd hx hb dL_law_547 ?_
              refine lv_topi (fun v_44 ev_44 => ?_)
              obtain rfl : v_44 = (nI (12 * (y0 + b9) + (x0 + a9))) := ev_44.trans (nI_add _ _)
              refine qaldA hx hb hK hP (3 + qk B) 4 qLX_s rfl (vp_in_nI (n := (12 * (y0 + b9) + (x0 + a9))) (N := 120) (by omega) (by omega)) dL_law_548 ?_
              refine W.eq (g2 := F0 m 549 ls [.ref (sa e0)]) (by rw [nI_clamp (by omega), he2]; rfl) ?_
              refine lv_iconst (v := 0) hx hb dL_law_549 (by decide) ?_
              refine va_iald hx hb hK hP (3 + qk B + 1 + e0) 2 (qLX_e he1) rfl (vp_in_nI (n := 0) (N := 1) (by decide) (by decide)) dL_law_550 ?_
              refine lv_topi (fun v_45 ev_45 => ?_)
              obtain rfl : v_45 = (nI (sv e0)) := ev_45.trans rfl
              refine lv_iload hx hb dL_law_551 (lv_at hl 2 rfl) ?_
              refine lv_icmp_le (tgt := 558) hx hb dL_law_553 (by decide) (fun c_46 => ?_) (fun c_46 => absurd (nI_le (by omega) (by omega)) c_46)
              exact a558
          have loopc : ∀ (q9 c9 : Nat), c9 + q9 = h → ∀ ls : Array Slot, lv_has ls 19 [(18, .int (nI (bt + c9))), (17, .int (nI (y0 + b9))), (16, .int (nI (x0 + a9))), (15, .int (nI bt)), (14, .int (nI d)), (13, .int (nI w)), (11, .ref (K k)), (10, .int (nI i)), (9, .int v9), (8, .int (nI z)), (7, .ref (ad 4)), (5, .int v5), (2, .ref (ad 0)), (1, .ref (qA B 5 0))] → W p l e room_1 s m #[Value.ref b] below meth c H locs (ce + cnt) (sl + cnt) Q (F0 m 489 ls []) := by
            intro q9
            induction q9 with
            | zero =>
              intro c9 hc9 ls hl
              obtain rfl : h = c9 := by omega
              refine lv_iload hx hb dL_law_489 (lv_at hl 0 rfl) ?_
              refine lv_iload hx hb dL_law_491 (lv_at hl 3 rfl) ?_
              refine lv_aload hx hb dL_law_493 (lv_at hl 6 rfl) ?_
              refine lv_iconst (v := 2) hx hb dL_law_495 (by decide) ?_
              refine va_iald hx hb hK hP (3 + k) 2 (qLX_k hk) rfl (vp_in_nI (n := 2) (N := 6) (by decide) (by decide)) dL_law_496 ?_
              refine lv_topi (fun v_47 ev_47 => ?_)
              obtain rfl : v_47 = (nI h) := ev_47.trans (congrArg nI eh)
              refine lv_iadd hx hb dL_law_497 ?_
              refine lv_topi (fun v_48 ev_48 => ?_)
              obtain rfl : v_48 = (nI (bt + h)) := ev_48.trans (nI_add _ _)
              refine lv_icmp_ge (tgt := 524) hx hb dL_law_498 (by decide) (fun c_49 => ?_) (fun c_49 => absurd (Int32.le_refl _) c_49)
              have hl := lv_sub hl (l' := [(17, .int (nI (y0 + b9))), (16, .int (nI (x0 + a9))), (15, .int (nI bt)), (14, .int (nI d)), (13, .int (nI w)), (11, .ref (K k)), (10, .int (nI i)), (9, .int v9), (8, .int (nI z)), (7, .ref (ad 4)), (5, .int v5), (2, .ref (ad 0)), (1, .ref (qA B 5 0))]) [1, 2, 3, 4, 5, 6, 7, 8, 9, 10, 11, 12, 13] rfl
              exact a524 ls hl
            | succ q9 ihc =>
              intro c9 hc9 ls hl
              have hc99 : c9 < h := by omega
              refine lv_iload hx hb dL_law_489 (lv_at hl 0 rfl) ?_
              refine lv_iload hx hb dL_law_491 (lv_at hl 3 rfl) ?_
              refine lv_aload hx hb dL_law_493 (lv_at hl 6 rfl) ?_
              refine lv_iconst (v := 2) hx hb dL_law_495 (by decide) ?_
              refine va_iald hx hb hK hP (3 + k) 2 (qLX_k hk) rfl (vp_in_nI (n := 2) (N := 6) (by decide) (by decide)) dL_law_496 ?_
              refine lv_topi (fun v_50 ev_50 => ?_)
              obtain rfl : v_50 = (nI h) := ev_50.trans (congrArg nI eh)
              refine lv_iadd hx hb dL_law_497 ?_
              refine lv_topi (fun v_51 ev_51 => ?_)
              obtain rfl : v_51 = (nI (bt + h)) := ev_51.trans (nI_add _ _)
              refine lv_icmp_ge (tgt := 524) hx hb dL_law_498 (by decide) (fun c_52 => absurd c_52 (nI_ge (by omega) (by omega))) (fun c_52 => ?_)
              refine lv_aload_n hx hb dL_law_501 rfl (lv_at hl 13 rfl) ?_
              refine lv_iload hx hb dL_law_502 (lv_at hl 2 rfl) ?_
              refine lv_iload hx hb dL_law_504 (lv_at hl 1 rfl) ?_
              refine lv_iload hx hb dL_law_506 (lv_at hl 0 rfl) ?_
              refine zrdV2 (As := [.int (nI (x0 + a9)), .int (nI (y0 + b9)), .int (nI (bt + c9))]) (rest := []) (wc := qG B R N) ⟨hx, hb, hml, hown, hts⟩ (c_at l D _ B R N hO hM (x0 + a9) (y0 + b9) (bt + c9) i (by omega) (by omega) (by omega) hi9 hcv (by omega) (by omega) (fun k9 h1 h2 => Or.inr (Nat.le_trans (hno k9 h1 h2) (by omega)))) (cwV 3 hts zgV_X3_at rfl rfl rfl (by decide +kernel) ⟨by rw [hRf]; exact Nat.le_of_ble_eq_true rfl, by rw [hRl]; exact Nat.le_of_ble_eq_true rfl⟩) hK (qPr hP) (qDr hD) [0, 1, 2, 3] rfl (ci := 3) (q0 := 0) rfl rfl rfl hl.1 rfl (Nat.le_of_ble_eq_true rfl) dL_law_508 ⟨by omega, by omega⟩ (fun r_53 hr_53 => ?_)
              refine lv_topi (fun v_54 ev_54 => ?_)
              obtain rfl : v_54 = (nI i) := ev_54.trans hr_53
              refine lv_iload hx hb dL_law_511 (lv_at hl 7 rfl) ?_
              refine lv_icmp_eq (tgt := 518) hx hb dL_law_513 (by decide) (fun c_55 => ?_) (fun c_55 => absurd (rfl) c_55)
              refine lv_iinc (v := (nI (bt + (c9 + 1)))) (lv' := [(18, .int (nI (bt + (c9 + 1)))), (17, .int (nI (y0 + b9))), (16, .int (nI (x0 + a9))), (15, .int (nI bt)), (14, .int (nI d)), (13, .int (nI w)), (11, .ref (K k)), (10, .int (nI i)), (9, .int v9), (8, .int (nI z)), (7, .ref (ad 4)), (5, .int v5), (2, .ref (ad 0)), (1, .ref (qA B 5 0))]) hx hb dL_law_518 hl (k := 0) rfl (nI_1 (bt + c9)) (by decide) rfl (fun ls hl => ?_)
              refine lv_goto (tgt := 489) hx hb dL_law_521 (by decide) ?_
              exact ihc (c9 + 1) (by omega) ls hl
          exact loopc h 0 (by omega) ls hl
      exact loopy d 0 (by omega) sf sa sv cnt z (qSn_y hsn (Nat.zero_le _)) (by omega) hz H locs ls hP hD hS hl
  exact loopx w 0 (by omega) sf sa sv cnt0 c0 (qSn_mx hsn (by omega)) (by omega) (by rw [Nat.zero_mul, Nat.zero_mul]; rfl) H locs ls hP hD hS hl
