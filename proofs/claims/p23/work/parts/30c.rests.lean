set_option maxHeartbeats 8000000 in
set_option maxRecDepth 100000 in
/-- the law asks which items rest on which -/
theorem z_rests {p : Program} {e : Env} {s : State} {m : MethodId} {below : List Frame} {meth : Method} {c : Code} {l : Launch} {b L : Nat} {xs : Nat → Int32} (C0 : lw_At p s m meth c b L xs) (D : zG) (B : qB) (R : qR0) (N : qN0) (S : Nat → Nat → Nat) (hF : qFull B R N S) (A : Nat → Prop) (hA : ∀ q : Nat, s.heap.size ≤ q → A q) (cA : ClassId) (hKA : qKA s cA) (ad : Nat → Nat) (F : Nat → Option Nat) (rf : Nat → Int32) (K : Nat → Nat) (V : Nat → Nat → Nat) (hK : va_K D vwCl (qT B ++ [(cA, .array .int)]) s) (i k n : Nat) (hn : n = N 4 1 5) (hi9 : i < N 4 1 5) (hk : k < qk B) (e3 : V k 3 = N 0 i 1) (Q : State → Prop) (ce sl : Nat) (hce : ce ≤ 5000) (hsl : sl ≤ 20000) (sf : Nat → Option Nat) (sa sv : Nat → Nat) (cnt : Nat) (kk : ∀ (N1 : qN0), qR14 N N1 → qFull B R N1 S → ∀ (H : Heap) (locs : List Loc) (ls : Array Slot), va_P D vwCl (qLX cA (qY B 2) cA ad (qk B) F rf K V sf sa sv cnt ++ qG B R N1) H → va_D A (qLX cA (qY B 2) cA ad (qk B) F rf K V sf sa sv cnt ++ qG B R N1) → va_S A s.heap H locs → lv_has ls 19 [(10, .int (nI i)), (9, .int (nI (qsum (fun i => N1 0 i 1) (i + 1)))), (8, .int (nI (qsum (fun i => N1 0 i 4 * N1 0 i 5 * (N1 0 i 9 - N1 0 i 8)) (i + 1)))), (7, .ref (ad 4)), (5, .int (nI n)), (2, .ref (ad 0)), (1, .ref (qA B 5 0))] → W p l e room_1 s m #[Value.ref b] below meth c H locs ce sl Q (F0 m 664 ls [])) (H : Heap) (locs : List Loc) (ls : Array Slot) : va_P D vwCl (qLX cA (qY B 2) cA ad (qk B) F rf K V sf sa sv cnt ++ qG B R N) H → va_D A (qLX cA (qY B 2) cA ad (qk B) F rf K V sf sa sv cnt ++ qG B R N) → va_S A s.heap H locs → lv_has ls 19 [(15, .int (nI (N 0 i 8))), (11, .ref (K k)), (10, .int (nI i)), (9, .int (nI (qsum (fun i => N 0 i 1) i))), (8, .int (nI (qsum (fun i => N 0 i 4 * N 0 i 5 * (N 0 i 9 - N 0 i 8)) (i + 1)))), (7, .ref (ad 4)), (5, .int (nI n)), (2, .ref (ad 0)), (1, .ref (qA B 5 0))] → W p l e room_1 s m #[Value.ref b] below meth c H locs ce sl Q (F0 m 603 ls []) := by
  intro hP hD hS hl
  obtain ⟨hx, hb, hr, hml, hown, hts, hX0, hbl, hlocks, hgv⟩ := C0
  have hRf : room_1.frames = 10 := rfl
  have hRl : room_1.locals = 354 := rfl
  have hRc : 5000 ≤ room_1.cells := Nat.le_of_ble_eq_true rfl
  have hRs : 20000 ≤ room_1.slots := Nat.le_of_ble_eq_true rfl
  have o8 : n ≤ 60 := by rw [hn]; exact hF.1.2.2.2.2.2.2.2.1
  have hM := hF.2.1
  refine lv_iload hx hb dL_law_603 (lv_at hl 3 rfl) ?_
  refine lv_aload hx hb dL_law_605 (lv_at hl 1 rfl) ?_
  refine lv_iconst (v := 3) hx hb dL_law_607 (by decide) ?_
  refine va_iald hx hb hK hP (3 + k) 2 (qLX_k hk) rfl (vp_in_nI (n := 3) (N := 6) (by decide) (by decide)) dL_law_608 ?_
  refine lv_topi (fun v_1 ev_1 => ?_)
  obtain rfl : v_1 = (nI (N 0 i 1)) := ev_1.trans (congrArg nI e3)
  refine lv_iadd hx hb dL_law_609 ?_
  refine lv_topi (fun v_2 ev_2 => ?_)
  obtain rfl : v_2 = (nI (qsum (fun i => N 0 i 1) (i + 1))) := ev_2.trans ((nI_add _ _).trans rfl)
  refine lv_istore (lv' := [(9, .int (nI (qsum (fun i => N 0 i 1) (i + 1)))), (15, .int (nI (N 0 i 8))), (11, .ref (K k)), (10, .int (nI i)), (8, .int (nI (qsum (fun i => N 0 i 4 * N 0 i 5 * (N 0 i 9 - N 0 i 8)) (i + 1)))), (7, .ref (ad 4)), (5, .int (nI n)), (2, .ref (ad 0)), (1, .ref (qA B 5 0))]) hx hb dL_law_610 hl (by decide) rfl (fun ls hl => ?_)
  refine lv_iconst (v := 0) hx hb dL_law_612 (by decide) ?_
  refine lv_istore (lv' := [(16, .int 0), (9, .int (nI (qsum (fun i => N 0 i 1) (i + 1)))), (15, .int (nI (N 0 i 8))), (11, .ref (K k)), (10, .int (nI i)), (8, .int (nI (qsum (fun i => N 0 i 4 * N 0 i 5 * (N 0 i 9 - N 0 i 8)) (i + 1)))), (7, .ref (ad 4)), (5, .int (nI n)), (2, .ref (ad 0)), (1, .ref (qA B 5 0))]) hx hb dL_law_613 hl (by decide) rfl (fun ls hl => ?_)
  have hl := lv_sub hl (l' := [(16, .int 0), (15, .int (nI (N 0 i 8))), (10, .int (nI i)), (9, .int (nI (qsum (fun i => N 0 i 1) (i + 1)))), (8, .int (nI (qsum (fun i => N 0 i 4 * N 0 i 5 * (N 0 i 9 - N 0 i 8)) (i + 1)))), (7, .ref (ad 4)), (5, .int (nI n)), (2, .ref (ad 0)), (1, .ref (qA B 5 0))]) [0, 2, 4, 1, 5, 6, 7, 8, 9] rfl
  have loop : ∀ (k9 j : Nat), j + k9 = n → ∀ (N1 : qN0) (hR : qR14 N N1) (hF1 : qFull B R N1 S) (H : Heap) (locs : List Loc) (ls : Array Slot), va_P D vwCl (qLX cA (qY B 2) cA ad (qk B) F rf K V sf sa sv cnt ++ qG B R N1) H → va_D A (qLX cA (qY B 2) cA ad (qk B) F rf K V sf sa sv cnt ++ qG B R N1) → va_S A s.heap H locs → lv_has ls 19 [(16, .int (nI j)), (15, .int (nI (N 0 i 8))), (10, .int (nI i)), (9, .int (nI (qsum (fun i => N 0 i 1) (i + 1)))), (8, .int (nI (qsum (fun i => N 0 i 4 * N 0 i 5 * (N 0 i 9 - N 0 i 8)) (i + 1)))), (7, .ref (ad 4)), (5, .int (nI n)), (2, .ref (ad 0)), (1, .ref (qA B 5 0))] → W p l e room_1 s m #[Value.ref b] below meth c H locs ce sl Q (F0 m 615 ls []) := by
    intro k9
    induction k9 with
    | zero =>
      intro j hj N1 hR hF1 H locs ls hP hD hS hl
      obtain rfl : n = j := by omega
      refine lv_iload hx hb dL_law_615 (lv_at hl 0 rfl) ?_
      refine lv_iload hx hb dL_law_617 (lv_at hl 6 rfl) ?_
      refine lv_icmp_ge (tgt := 664) hx hb dL_law_619 (by decide) (fun c_3 => ?_) (fun c_3 => absurd (Int32.le_refl _) c_3)
      have hl := lv_sub hl (l' := [(10, .int (nI i)), (9, .int (nI (qsum (fun i => N 0 i 1) (i + 1)))), (8, .int (nI (qsum (fun i => N 0 i 4 * N 0 i 5 * (N 0 i 9 - N 0 i 8)) (i + 1)))), (7, .ref (ad 4)), (5, .int (nI n)), (2, .ref (ad 0)), (1, .ref (qA B 5 0))]) [2, 3, 4, 5, 6, 7, 8] rfl
      have e1 : (fun i => N1 0 i 1) = (fun i => N 0 i 1) := by
        funext i
        exact hR 0 i 1 (by omega)
      have e8 : (fun i => N1 0 i 4 * N1 0 i 5 * (N1 0 i 9 - N1 0 i 8)) = (fun i => N 0 i 4 * N 0 i 5 * (N 0 i 9 - N 0 i 8)) := by
        funext i
        rw [hR 0 i 4 (by omega), hR 0 i 5 (by omega), hR 0 i 8 (by omega), hR 0 i 9 (by omega)]
      rw [← e1, ← e8] at hl
      exact kk N1 hR hF1 H locs ls hP hD hS hl
    | succ k9 ih =>
      intro j hj N1 hR hF1 H locs ls hP hD hS hl
      have f5 : N1 4 1 5 = N 4 1 5 := hR 4 1 5 (by omega)
      have hi1 : i < N1 4 1 5 := by omega
      have hj1 : j < N1 4 1 5 := by omega
      have b8 := hM 0 i 8
      refine lv_iload hx hb dL_law_615 (lv_at hl 0 rfl) ?_
      refine lv_iload hx hb dL_law_617 (lv_at hl 6 rfl) ?_
      refine lv_icmp_ge (tgt := 664) hx hb dL_law_619 (by decide) (fun c_4 => absurd c_4 (nI_ge (by omega) (by omega))) (fun c_4 => ?_)
      refine lv_aload_n hx hb dL_law_622 rfl (lv_at hl 8 rfl) ?_
      refine lv_iload hx hb dL_law_623 (lv_at hl 2 rfl) ?_
      refine lv_iload hx hb dL_law_625 (lv_at hl 0 rfl) ?_
      refine qcalliX (X := qLX cA (qY B 2) cA ad (qk B) F rf K V sf sa sv cnt) (As := [.int (nI i), .int (nI j)]) (rest := []) ⟨hx, hb, hml, hown, hts⟩ (c_rests l D H.size B R N1 S hF1 i j hi1 hj1) (cwV 2 hts zgV_X3_restsOn rfl rfl rfl (by decide +kernel) ⟨by rw [hRf]; exact Nat.le_of_ble_eq_true rfl, by rw [hRl]; exact Nat.le_of_ble_eq_true rfl⟩) hK hP hD hS hA [0, 1, 2, 3] rfl (ci := 3) (q0 := 0) rfl rfl rfl hl.1 rfl (Nat.le_of_ble_eq_true rfl) dL_law_627 ⟨by omega, by omega⟩ (fun r7 u7 H locs hw7 hP hD hS => ?_)
      obtain ⟨⟨x7, rfl, hb7, hq7⟩, hR7, hM7⟩ := hw7
      have hF7 := qFull_14 hR7 hM7 hF1
      refine lv_if_eq (tgt := 658) hx hb dL_law_630 (by decide) (fun c_5 => ?_) (fun c_5 => ?_)
      · have h_b := True.intro
        refine lv_iinc (v := (nI (j + 1))) (lv' := [(16, .int (nI (j + 1))), (15, .int (nI (N 0 i 8))), (10, .int (nI i)), (9, .int (nI (qsum (fun i => N 0 i 1) (i + 1)))), (8, .int (nI (qsum (fun i => N 0 i 4 * N 0 i 5 * (N 0 i 9 - N 0 i 8)) (i + 1)))), (7, .ref (ad 4)), (5, .int (nI n)), (2, .ref (ad 0)), (1, .ref (qA B 5 0))]) hx hb dL_law_658 hl (k := 0) rfl (nI_1 j) (by decide) rfl (fun ls hl => ?_)
        refine lv_goto (tgt := 615) hx hb dL_law_661 (by decide) ?_
        exact ih (j + 1) (by omega) u7 (hR.tr hR7) hF7 H locs ls hP hD hS hl
      · have h_b := True.intro
        have hc7 : x7 ≠ 0 := fun h9 => c_5 (by rw [h9]; rfl)
        obtain ⟨p1, p2⟩ := hq7 hc7
        have f6 : u7 4 1 5 = N 4 1 5 := (hR7 4 1 5 (by omega)).trans f5
        refine lv_aload_n hx hb dL_law_633 rfl (lv_at hl 8 rfl) ?_
        refine lv_iload hx hb dL_law_634 (lv_at hl 0 rfl) ?_
        refine lv_iload hx hb dL_law_636 (lv_at hl 2 rfl) ?_
        refine qcalliX (X := qLX cA (qY B 2) cA ad (qk B) F rf K V sf sa sv cnt) (As := [.int (nI j), .int (nI i)]) (rest := []) ⟨hx, hb, hml, hown, hts⟩ (c_rests l D H.size B R u7 S hF7 j i (by omega) (by omega)) (cwV 2 hts zgV_X3_restsOn rfl rfl rfl (by decide +kernel) ⟨by rw [hRf]; exact Nat.le_of_ble_eq_true rfl, by rw [hRl]; exact Nat.le_of_ble_eq_true rfl⟩) hK hP hD hS hA [0, 1, 2, 3] rfl (ci := 3) (q0 := 0) rfl rfl rfl hl.1 rfl (Nat.le_of_ble_eq_true rfl) dL_law_638 ⟨by omega, by omega⟩ (fun r8 u8 H locs hw8 hP hD hS => ?_)
        obtain ⟨⟨x8, rfl, hb8, hq8⟩, hR8, hM8⟩ := hw8
        have hF8 := qFull_14 hR8 hM8 hF7
        obtain rfl : x8 = 0 := Classical.byContradiction (fun h9 => by have := (hq8 h9).1; omega)
        refine lv_if_ne (tgt := 656) hx hb dL_law_641 (by decide) (fun c_6 => absurd (rfl) c_6) (fun c_6 => ?_)
        refine lv_aload_n hx hb dL_law_644 rfl (lv_at hl 8 rfl) ?_
        refine lv_iload hx hb dL_law_645 (lv_at hl 0 rfl) ?_
        refine lv_iconst (v := 4) hx hb dL_law_647 (by decide) ?_
        have f7 : u8 4 1 5 = N 4 1 5 := (hR8 4 1 5 (by omega)).trans f6
        refine zrdV2 (As := [.int (nI j), .int 4]) (rest := []) (wc := qG B R u8) ⟨hx, hb, hml, hown, hts⟩ (c_item_4 l D _ B R u8 j (by omega) hF8.1) (cwV 2 hts zgV_X3_item rfl rfl rfl (by decide +kernel) ⟨by rw [hRf]; exact Nat.le_of_ble_eq_true rfl, by rw [hRl]; exact Nat.le_of_ble_eq_true rfl⟩) hK (qPr hP) (qDr hD) [0, 1, 2, 3] rfl (ci := 3) (q0 := 0) rfl rfl rfl hl.1 rfl (Nat.le_of_ble_eq_true rfl) dL_law_648 ⟨by omega, by omega⟩ (fun r_7 hr_7 => ?_)
        refine lv_topi (fun v_8 ev_8 => ?_)
        obtain rfl : v_8 = (nI (N 0 j 9)) := ev_8.trans (hr_7.trans (by rw [hR8 0 j 9 (by omega), hR7 0 j 9 (by omega), hR 0 j 9 (by omega)]))
        have q9 : N 0 j 9 ≤ N 0 i 8 := by rw [← hR 0 j 9 (by omega), ← hR 0 i 8 (by omega)]; exact p2
        refine lv_iload hx hb dL_law_651 (lv_at hl 1 rfl) ?_
        refine lv_icmp_le (tgt := 658) hx hb dL_law_653 (by decide) (fun c_9 => ?_) (fun c_9 => absurd (nI_le q9 (by omega)) c_9)
        refine lv_iinc (v := (nI (j + 1))) (lv' := [(16, .int (nI (j + 1))), (15, .int (nI (N 0 i 8))), (10, .int (nI i)), (9, .int (nI (qsum (fun i => N 0 i 1) (i + 1)))), (8, .int (nI (qsum (fun i => N 0 i 4 * N 0 i 5 * (N 0 i 9 - N 0 i 8)) (i + 1)))), (7, .ref (ad 4)), (5, .int (nI n)), (2, .ref (ad 0)), (1, .ref (qA B 5 0))]) hx hb dL_law_658 hl (k := 0) rfl (nI_1 j) (by decide) rfl (fun ls hl => ?_)
        refine lv_goto (tgt := 615) hx hb dL_law_661 (by decide) ?_
        exact ih (j + 1) (by omega) u8 ((hR.tr hR7).tr hR8) hF8 H locs ls hP hD hS hl
  exact loop n 0 (by omega) N (qR14_rf N) hF H locs ls hP hD hS hl
