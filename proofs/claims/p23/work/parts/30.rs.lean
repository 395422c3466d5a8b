set_option maxHeartbeats 4000000 in
set_option maxRecDepth 100000 in
/-- the last sums of the law -/
theorem z_fin {p : Program} {e : Env} {s : State} {m : MethodId} {below : List Frame} {meth : Method} {c : Code} {l : Launch} {b L : Nat} {xs : Nat → Int32} (C0 : lw_At p s m meth c b L xs) (D : zG) (B : qB) (R : qR0) (N : qN0) (S : Nat → Nat → Nat) (hF : qFull B R N S) (cA : ClassId) (ad : Nat → Nat) (F : Nat → Option Nat) (rf : Nat → Int32) (K : Nat → Nat) (V : Nat → Nat → Nat) (hV : ∀ k, k < qk B → F k = some (K k) ∧ qKv N V k) (hK : va_K D vwCl (qT B ++ [(cA, .array .int)]) s) (sf : Nat → Option Nat) (sa sv : Nat → Nat) (cnt : Nat) (H : Heap) (locs : List Loc) (ls : Array Slot) (hP : va_P D vwCl (qLX cA (qY B 2) cA ad (qk B) F rf K V sf sa sv cnt ++ qG B R N) H) (hD : va_D (fun q : Nat => s.heap.size ≤ q) (qLX cA (qY B 2) cA ad (qk B) F rf K V sf sa sv cnt ++ qG B R N)) (hS : va_S (fun q : Nat => s.heap.size ≤ q) s.heap H locs) (hl : lv_has ls 19 [(9, .int (nI (N 4 1 7))), (8, .int (nI (qsum (fun i => N 0 i 4 * N 0 i 5 * (N 0 i 9 - N 0 i 8)) (N 4 1 5)))), (5, .int (nI (N 4 1 5))), (2, .ref (ad 0)), (1, .ref (qA B 5 0))]) (cells slots : Nat) (hc : cells ≤ 5000) (hs : slots ≤ 20000) : W p l e room_1 s m #[Value.ref b] below meth c H locs cells slots (lw_Z below #[Value.ref b] s) (F0 m 670 ls []) := by
  obtain ⟨hx, hb, hr, hml, hown, hts, hX0, hbl, hlocks, hgv⟩ := C0
  have hA : ∀ q : Nat, s.heap.size ≤ q → (fun q : Nat => s.heap.size ≤ q) q := fun _ h => h
  have hbA : ¬ (fun q : Nat => s.heap.size ≤ q) b := Nat.not_le.mpr hbl
  have hRf : room_1.frames = 10 := rfl
  have hRl : room_1.locals = 354 := rfl
  have hRc : 5000 ≤ room_1.cells := Nat.le_of_ble_eq_true rfl
  have hRs : 20000 ≤ room_1.slots := Nat.le_of_ble_eq_true rfl
  obtain ⟨e1, e2⟩ := qEnd hF
  obtain ⟨hO, hM, hG, hSu, hKi, hRu, hLo, hIt, hWt⟩ := id hF
  have o8 := hO.2.2.2.2.2.2.2.1
  have o6 := hO.2.2.2.2.2.1
  have bw := hM 4 1 7
  obtain ⟨fb, hfb⟩ : ∃ f : Nat → Nat, f = fun i => if N 0 i 8 = 0 then N 0 i 11 + N 0 i 1 else 0 := ⟨_, rfl⟩
  rw [← hfb] at e1 e2
  obtain ⟨fl, hfl⟩ : ∃ f : Nat → Nat, f = fun i => N 0 i 15 := ⟨_, rfl⟩
  rw [← hfl] at e2
  have bl : ∀ i, i ≤ N 4 1 5 → qsum fl i ≤ 36 * i := fun i hi => by rw [← qsum_const, hfl]; exact qsum_le (fun j hj => (hSu j (by omega)).1)
  have bb : ∀ i, i ≤ N 4 1 5 → qsum fb i ≤ N 4 1 7 := fun i hi => Nat.le_trans (qsum_mono hi) e1
  refine lv_iconst (v := 0) hx hb dL_law_670 (by decide) ?_
  refine lv_istore (lv' := [(10, .int 0), (9, .int (nI (N 4 1 7))), (8, .int (nI (qsum (fun i => N 0 i 4 * N 0 i 5 * (N 0 i 9 - N 0 i 8)) (N 4 1 5)))), (5, .int (nI (N 4 1 5))), (2, .ref (ad 0)), (1, .ref (qA B 5 0))]) hx hb dL_law_671 hl (by decide) rfl (fun ls hl => ?_)
  refine lv_iconst (v := 0) hx hb dL_law_673 (by decide) ?_
  refine lv_istore (lv' := [(11, .int 0), (10, .int 0), (9, .int (nI (N 4 1 7))), (8, .int (nI (qsum (fun i => N 0 i 4 * N 0 i 5 * (N 0 i 9 - N 0 i 8)) (N 4 1 5)))), (5, .int (nI (N 4 1 5))), (2, .ref (ad 0)), (1, .ref (qA B 5 0))]) hx hb dL_law_674 hl (by decide) rfl (fun ls hl => ?_)
  refine lv_iconst (v := 0) hx hb dL_law_676 (by decide) ?_
  refine lv_istore (lv' := [(12, .int 0), (11, .int 0), (10, .int 0), (9, .int (nI (N 4 1 7))), (8, .int (nI (qsum (fun i => N 0 i 4 * N 0 i 5 * (N 0 i 9 - N 0 i 8)) (N 4 1 5)))), (5, .int (nI (N 4 1 5))), (2, .ref (ad 0)), (1, .ref (qA B 5 0))]) hx hb dL_law_677 hl (by decide) rfl (fun ls hl => ?_)
  have hl := lv_sub hl (l' := [(12, .int 0), (11, .int 0), (10, .int 0), (9, .int (nI (N 4 1 7))), (8, .int (nI (qsum (fun i => N 0 i 4 * N 0 i 5 * (N 0 i 9 - N 0 i 8)) (N 4 1 5)))), (5, .int (nI (N 4 1 5))), (2, .ref (ad 0)), (1, .ref (qA B 5 0))]) [0, 1, 2, 3, 4, 5, 6, 7] rfl
  have loop : ∀ (k9 i : Nat), i + k9 = N 4 1 5 → ∀ (ls : Array Slot), lv_has ls 19 [(12, .int (nI i)), (11, .int (nI (qsum fl i))), (10, .int (nI (qsum fb i))), (9, .int (nI (N 4 1 7))), (8, .int (nI (qsum (fun i => N 0 i 4 * N 0 i 5 * (N 0 i 9 - N 0 i 8)) (N 4 1 5)))), (5, .int (nI (N 4 1 5))), (2, .ref (ad 0)), (1, .ref (qA B 5 0))] → W p l e room_1 s m #[Value.ref b] below meth c H locs cells slots (lw_Z below #[Value.ref b] s) (F0 m 679 ls []) := by
    intro k9
    induction k9 with
    | zero =>
      intro i hi ls hl
      obtain rfl : N 4 1 5 = i := by omega
      refine lv_iload hx hb dL_law_679 (lv_at hl 0 rfl) ?_
      refine lv_iload hx hb dL_law_681 (lv_at hl 5 rfl) ?_
      refine lv_icmp_ge (tgt := 743) hx hb dL_law_683 (by decide) (fun c_1 => ?_) (fun c_1 => absurd (Int32.le_refl _) c_1)
      refine lv_iload hx hb dL_law_743 (lv_at hl 3 rfl) ?_
      refine lv_aload_n hx hb dL_law_745 rfl (lv_at hl 7 rfl) ?_
      refine lv_iconst (v := 0) hx hb dL_law_746 (by decide) ?_
      refine zrdV2 (As := [.int 0]) (rest := [.int (nI (N 4 1 7))]) (wc := qG B R N) ⟨hx, hb, hml, hown, hts⟩ (c_sum_0 l D _ B R N) (cwV 1 hts zgV_X3_sum rfl rfl rfl (by decide +kernel) ⟨by rw [hRf]; exact Nat.le_of_ble_eq_true rfl, by rw [hRl]; exact Nat.le_of_ble_eq_true rfl⟩) hK (qPr hP) (qDr hD) [0, 1, 2, 3] rfl (ci := 3) (q0 := 0) rfl rfl rfl hl.1 rfl (Nat.le_of_ble_eq_true rfl) dL_law_747 ⟨by omega, by omega⟩ (fun r_2 hr_2 => ?_)
      refine lv_topi (fun v_3 ev_3 => ?_)
      obtain rfl : v_3 = (nI (N 4 1 7)) := ev_3.trans hr_2
      refine lv_icmp_ne (tgt := 804) hx hb dL_law_750 (by decide) (fun c_4 => absurd (rfl) c_4) (fun c_4 => ?_)
      refine lv_iload hx hb dL_law_753 (lv_at hl 2 rfl) ?_
      refine lv_iload hx hb dL_law_755 (lv_at hl 3 rfl) ?_
      refine lv_icmp_gt (tgt := 804) hx hb dL_law_757 (by decide) (fun c_5 => absurd c_5 (nI_nlt e1 (by omega))) (fun c_5 => ?_)
      have bl9 := bl (N 4 1 5) (Nat.le_refl _)
      have bb9 := bb (N 4 1 5) (Nat.le_refl _)
      refine lv_iload hx hb dL_law_760 (lv_at hl 2 rfl) ?_
      refine lv_iload hx hb dL_law_762 (lv_at hl 3 rfl) ?_
      refine lv_iload hx hb dL_law_764 (lv_at hl 1 rfl) ?_
      refine lv_isub hx hb dL_law_766 ?_
      refine lv_icmp_lt (tgt := 804) hx hb dL_law_767 (by decide) (fun c_6 => absurd c_6 (qnlt_sub e2 (by omega) (by omega) (by omega))) (fun c_6 => ?_)
      refine lv_aload_n hx hb dL_law_770 rfl (lv_at hl 7 rfl) ?_
      refine qrdVd (As := []) (rest := []) (wc := qG B R N) ⟨hx, hb, hml, hown, hts⟩ (c_filled l D _ B R N S hF) (cwV 0 hts zgV_X3_filled rfl rfl rfl (by decide +kernel) ⟨by rw [hRf]; exact Nat.le_of_ble_eq_true rfl, by rw [hRl]; exact Nat.le_of_ble_eq_true rfl⟩) hK (qPr hP) (qDr hD) [0, 1, 2, 3] rfl (ci := 3) (q0 := 0) rfl rfl rfl hl.1 rfl (Nat.le_of_ble_eq_true rfl) dL_law_771 ⟨by omega, by omega⟩ (fun r_7 hr_7 => ?_)
      refine lv_iload hx hb dL_law_774 (lv_at hl 5 rfl) ?_
      by_cases h0 : N 4 1 5 = 0
      · have h_b := True.intro
        rw [if_pos h0] at hr_7
        subst hr_7
        refine lv_if_ne (tgt := 783) hx hb dL_law_776 (by decide) (fun c_8 => absurd (by rw [h0]; decide) c_8) (fun c_8 => ?_)
        refine lv_dconst0 hx hb dL_law_779 ?_
        refine lv_goto (tgt := 796) hx hb dL_law_780 (by decide) ?_
        refine lv_dcmp hx hb dL_law_796 ?_
        refine lv_topi (fun v_9 ev_9 => ?_)
        obtain rfl : v_9 = 0 := ev_9.trans (by decide +kernel)
        refine lv_if_ne (tgt := 804) hx hb dL_law_797 (by decide) (fun c_10 => absurd (by decide) c_10) (fun c_10 => ?_)
        refine lv_iconst (v := 1) hx hb dL_law_800 (by decide) ?_
        refine lv_goto (tgt := 805) hx hb dL_law_801 (by decide) ?_
        refine W.widen (k := room_1.cells) (n := room_1.slots) (by omega) (by omega) ?_
        refine va_forget (fun q hq => hS.2.2 q hq) ?_
        refine W.base ?_
        exact lw_ret (Drawn.sameBut.refl s.drawn lw_cs) hx hb hr hlocks dL_law_805
      · have h_b := True.intro
        rw [if_neg h0] at hr_7
        subst hr_7
        refine lv_if_ne (tgt := 783) hx hb dL_law_776 (by decide) (fun c_11 => ?_) (fun c_11 => absurd c_11 (fun h9 => h0 ((qeq (b := 0) (by omega) (by decide)).mp h9)))
        have bt : qmx (fun i => N 0 i 9) (N 4 1 5) ≤ 40 := qmx_le (fun i hi => Nat.le_trans (hIt i hi).2.2.2.2.2.2.2.2.2.1 hRu.1)
        have t0 : 0 < qmx (fun i => N 0 i 9) (N 4 1 5) := Nat.lt_of_lt_of_le (Nat.lt_of_le_of_lt (Nat.zero_le _) (hG.1 0 (by omega)).2.2.2.2.2.2.1) (qmx_ge (f := fun i => N 0 i 9) (i := 0) (by omega))
        have hne : ¬ nI (120 * qmx (fun i => N 0 i 9) (N 4 1 5)) = 0 := fun h9 => absurd ((qeq (b := 0) (by omega) (by decide)).mp h9) (by omega)
        refine lv_iload hx hb dL_law_783 (lv_at hl 4 rfl) ?_
        refine lv_i2d hx hb dL_law_785 ?_
        refine lv_bipush (v := 120) hx hb dL_law_786 (by decide) ?_
        refine lv_aload_n hx hb dL_law_788 rfl (lv_at hl 7 rfl) ?_
        refine lv_iconst (v := 1) hx hb dL_law_789 (by decide) ?_
        refine zrdV2 (As := [.int 1]) (rest := [.int 120, .double (FP.i2d (nI (qsum (fun i => N 0 i 4 * N 0 i 5 * (N 0 i 9 - N 0 i 8)) (N 4 1 5)))), .double (FP.ddiv (FP.i2d (nI (qsum (fun i => N 0 i 4 * N 0 i 5 * (N 0 i 9 - N 0 i 8)) (N 4 1 5)))) (FP.i2d (nI (120 * qmx (fun i => N 0 i 9) (N 4 1 5)))))]) (wc := qG B R N) ⟨hx, hb, hml, hown, hts⟩ (c_sum_1 l D _ B R N hO hM) (cwV 1 hts zgV_X3_sum rfl rfl rfl (by decide +kernel) ⟨by rw [hRf]; exact Nat.le_of_ble_eq_true rfl, by rw [hRl]; exact Nat.le_of_ble_eq_true rfl⟩) hK (qPr hP) (qDr hD) [0, 1, 2, 3] rfl (ci := 3) (q0 := 0) rfl rfl rfl hl.1 rfl (Nat.le_of_ble_eq_true rfl) dL_law_790 ⟨by omega, by omega⟩ (fun r_12 hr_12 => ?_)
        refine lv_topi (fun v_13 ev_13 => ?_)
        obtain rfl : v_13 = (nI (qmx (fun i => N 0 i 9) (N 4 1 5))) := ev_13.trans hr_12
        refine lv_imul hx hb dL_law_793 ?_
        refine lv_topi (fun v_14 ev_14 => ?_)
        obtain rfl : v_14 = (nI (120 * qmx (fun i => N 0 i 9) (N 4 1 5))) := ev_14.trans (pk_mul 120 _)
        refine lv_i2d hx hb dL_law_794 ?_
        refine lv_ddiv hx hb dL_law_795 (qdiv_ok hne) ?_
        refine lv_dcmp hx hb dL_law_796 ?_
        refine lv_topi (fun v_15 ev_15 => ?_)
        obtain rfl : v_15 = 0 := ev_15.trans (by rw [qdiv_cmp hne]; rfl)
        refine lv_if_ne (tgt := 804) hx hb dL_law_797 (by decide) (fun c_16 => absurd (by decide) c_16) (fun c_16 => ?_)
        refine lv_iconst (v := 1) hx hb dL_law_800 (by decide) ?_
        refine lv_goto (tgt := 805) hx hb dL_law_801 (by decide) ?_
        refine W.widen (k := room_1.cells) (n := room_1.slots) (by omega) (by omega) ?_
        refine va_forget (fun q hq => hS.2.2 q hq) ?_
        refine W.base ?_
        exact lw_ret (Drawn.sameBut.refl s.drawn lw_cs) hx hb hr hlocks dL_law_805
    | succ k9 ih =>
      intro i hi ls hl
      have hi9 : i < N 4 1 5 := by omega
      obtain ⟨m0, m1, m2, m3, m4, m5, m6, m7, m8, m9, m10, m11, m12, m13, m14⟩ := qAsk hF hi9 (fun k hk => (hV k hk).2)
      have c8 := hM 0 i 8
      have c11 := hM 0 i 11
      have c1 := hM 0 i 1
      have b1 := bl i (by omega)
      have b2 := bb i (by omega)
      refine lv_iload hx hb dL_law_679 (lv_at hl 0 rfl) ?_
      refine lv_iload hx hb dL_law_681 (lv_at hl 5 rfl) ?_
      refine lv_icmp_ge (tgt := 743) hx hb dL_law_683 (by decide) (fun c_17 => absurd c_17 (nI_ge (by omega) (by omega))) (fun c_17 => ?_)
      refine lv_aload_n hx hb dL_law_686 rfl (lv_at hl 7 rfl) ?_
      refine lv_iload hx hb dL_law_687 (lv_at hl 0 rfl) ?_
      refine lv_iconst (v := 3) hx hb dL_law_689 (by decide) ?_
      refine zrdV2 (As := [.int (nI i), .int 3]) (rest := []) (wc := qG B R N) ⟨hx, hb, hml, hown, hts⟩ (c_item_3 l D _ B R N i (by omega) hF.1) (cwV 2 hts zgV_X3_item rfl rfl rfl (by decide +kernel) ⟨by rw [hRf]; exact Nat.le_of_ble_eq_true rfl, by rw [hRl]; exact Nat.le_of_ble_eq_true rfl⟩) hK (qPr hP) (qDr hD) [0, 1, 2, 3] rfl (ci := 3) (q0 := 0) rfl rfl rfl hl.1 rfl (Nat.le_of_ble_eq_true rfl) dL_law_690 ⟨by omega, by omega⟩ (fun r_18 hr_18 => ?_)
      refine lv_topi (fun v_19 ev_19 => ?_)
      obtain rfl : v_19 = (nI (N 0 i 8)) := ev_19.trans hr_18
      refine lv_if_ne (tgt := 724) hx hb dL_law_693 (by decide) (fun c_20 => ?_) (fun c_20 => ?_)
      · have h_b := True.intro
        have hc9 : N 0 i 8 ≠ 0 := fun h9 => c_20 (by rw [h9]; rfl)
        refine lv_iload hx hb dL_law_724 (lv_at hl 1 rfl) ?_
        refine lv_aload_n hx hb dL_law_726 rfl (lv_at hl 7 rfl) ?_
        refine lv_iload hx hb dL_law_727 (lv_at hl 0 rfl) ?_
        refine lv_bipush (v := 8) hx hb dL_law_729 (by decide) ?_
        refine zrdV2 (As := [.int (nI i), .int 8]) (rest := [.int (nI (qsum fl i))]) (wc := qG B R N) ⟨hx, hb, hml, hown, hts⟩ (c_item_8 l D _ B R N i (by omega) hF.1) (cwV 2 hts zgV_X3_item rfl rfl rfl (by decide +kernel) ⟨by rw [hRf]; exact Nat.le_of_ble_eq_true rfl, by rw [hRl]; exact Nat.le_of_ble_eq_true rfl⟩) hK (qPr hP) (qDr hD) [0, 1, 2, 3] rfl (ci := 3) (q0 := 0) rfl rfl rfl hl.1 rfl (Nat.le_of_ble_eq_true rfl) dL_law_731 ⟨by omega, by omega⟩ (fun r_21 hr_21 => ?_)
        refine lv_topi (fun v_22 ev_22 => ?_)
        obtain rfl : v_22 = (nI (N 0 i 15)) := ev_22.trans hr_21
        refine lv_iadd hx hb dL_law_734 ?_
        refine lv_topi (fun v_23 ev_23 => ?_)
        obtain rfl : v_23 = (nI (qsum fl (i + 1))) := ev_23.trans ((nI_add _ _).trans (by rw [hfl]; rfl))
        refine lv_istore (lv' := [(11, .int (nI (qsum fl (i + 1)))), (12, .int (nI i)), (10, .int (nI (qsum fb i))), (9, .int (nI (N 4 1 7))), (8, .int (nI (qsum (fun i => N 0 i 4 * N 0 i 5 * (N 0 i 9 - N 0 i 8)) (N 4 1 5)))), (5, .int (nI (N 4 1 5))), (2, .ref (ad 0)), (1, .ref (qA B 5 0))]) hx hb dL_law_735 hl (by decide) rfl (fun ls hl => ?_)
        refine lv_iinc (v := (nI (i + 1))) (lv' := [(12, .int (nI (i + 1))), (11, .int (nI (qsum fl (i + 1)))), (10, .int (nI (qsum fb i))), (9, .int (nI (N 4 1 7))), (8, .int (nI (qsum (fun i => N 0 i 4 * N 0 i 5 * (N 0 i 9 - N 0 i 8)) (N 4 1 5)))), (5, .int (nI (N 4 1 5))), (2, .ref (ad 0)), (1, .ref (qA B 5 0))]) hx hb dL_law_737 hl (k := 1) rfl (nI_1 i) (by decide) rfl (fun ls hl => ?_)
        refine lv_goto (tgt := 679) hx hb dL_law_740 (by decide) ?_
        have hl := lv_sub hl (l' := [(12, .int (nI (i + 1))), (11, .int (nI (qsum fl (i + 1)))), (10, .int (nI (qsum fb i))), (9, .int (nI (N 4 1 7))), (8, .int (nI (qsum (fun i => N 0 i 4 * N 0 i 5 * (N 0 i 9 - N 0 i 8)) (N 4 1 5)))), (5, .int (nI (N 4 1 5))), (2, .ref (ad 0)), (1, .ref (qA B 5 0))]) [0, 1, 2, 3, 4, 5, 6, 7] rfl
        have h10 : qsum fb (i + 1) = qsum fb i := by show qsum fb i + fb i = _; rw [hfb]; simp only [if_neg hc9]; rfl
        exact ih (i + 1) (by omega) ls (by rw [h10]; exact hl)
      · have h_b := True.intro
        have hc9 : N 0 i 8 = 0 := (qeq (b := 0) (by omega) (by decide)).mp c_20
        refine lv_iload hx hb dL_law_696 (lv_at hl 2 rfl) ?_
        refine lv_aload_n hx hb dL_law_698 rfl (lv_at hl 7 rfl) ?_
        refine lv_iload hx hb dL_law_699 (lv_at hl 0 rfl) ?_
        refine lv_bipush (v := 6) hx hb dL_law_701 (by decide) ?_
        refine zrdV2 (As := [.int (nI i), .int 6]) (rest := [.int (nI (qsum fb i))]) (wc := qG B R N) ⟨hx, hb, hml, hown, hts⟩ (c_item_6 l D _ B R N i (by omega) hF.1) (cwV 2 hts zgV_X3_item rfl rfl rfl (by decide +kernel) ⟨by rw [hRf]; exact Nat.le_of_ble_eq_true rfl, by rw [hRl]; exact Nat.le_of_ble_eq_true rfl⟩) hK (qPr hP) (qDr hD) [0, 1, 2, 3] rfl (ci := 3) (q0 := 0) rfl rfl rfl hl.1 rfl (Nat.le_of_ble_eq_true rfl) dL_law_703 ⟨by omega, by omega⟩ (fun r_24 hr_24 => ?_)
        refine lv_topi (fun v_25 ev_25 => ?_)
        obtain rfl : v_25 = (nI (N 0 i 11)) := ev_25.trans hr_24
        refine lv_aload_n hx hb dL_law_706 rfl (lv_at hl 6 rfl) ?_
        refine va_get (D := D) (ci := 4) (v := .ref (ad 1)) (C := RX4) (T := TX4) (N := 4) hx hb hts inT_X4 hown hK hP 0 rfl rfl 0 (by decide) (hts (.fieldLink RL 24 "PalletStackLaw$Hand" "kinds" "[[I") (List.mem_of_getElem? (i := 502) (by decide +kernel))) (fun _ h9 => h9) rfl dL_law_707 ?_
        refine lv_aload_n hx hb dL_law_710 rfl (lv_at hl 7 rfl) ?_
        refine lv_iload hx hb dL_law_711 (lv_at hl 0 rfl) ?_
        refine lv_iconst (v := 0) hx hb dL_law_713 (by decide) ?_
        refine zrdV2 (As := [.int (nI i), .int 0]) (rest := [.ref (ad 1), .int (nI (N 0 i 11)), .int (nI (qsum fb i))]) (wc := qG B R N) ⟨hx, hb, hml, hown, hts⟩ (c_item_0 l D _ B R N i (by omega) hF.1) (cwV 2 hts zgV_X3_item rfl rfl rfl (by decide +kernel) ⟨by rw [hRf]; exact Nat.le_of_ble_eq_true rfl, by rw [hRl]; exact Nat.le_of_ble_eq_true rfl⟩) hK (qPr hP) (qDr hD) [0, 1, 2, 3] rfl (ci := 3) (q0 := 0) rfl rfl rfl hl.1 rfl (Nat.le_of_ble_eq_true rfl) dL_law_714 ⟨by omega, by omega⟩ (fun r_26 hr_26 => ?_)
        refine lv_topi (fun v_27 ev_27 => ?_)
        obtain rfl : v_27 = (nI (N 0 i 0)) := ev_27.trans hr_26
        refine qaldA hx hb hK hP 2 4 rfl rfl (vp_in_nI (n := (N 0 i 0)) (N := qk B) m0 (by omega)) dL_law_717 ?_
        refine W.eq (g2 := F0 m 718 ls [.ref (K (N 0 i 0)), .int (nI (N 0 i 11)), .int (nI (qsum fb i))]) (by rw [nI_clamp (by omega), (hV _ m0).1]; rfl) ?_
        refine lv_iconst (v := 3) hx hb dL_law_718 (by decide) ?_
        refine va_iald hx hb hK hP (3 + (N 0 i 0)) 2 (qLX_k m0) rfl (vp_in_nI (n := 3) (N := 6) (by decide) (by decide)) dL_law_719 ?_
        refine lv_topi (fun v_28 ev_28 => ?_)
        obtain rfl : v_28 = (nI (N 0 i 1)) := ev_28.trans (congrArg nI m10)
        refine lv_iadd hx hb dL_law_720 ?_
        refine lv_topi (fun v_29 ev_29 => ?_)
        obtain rfl : v_29 = (nI (N 0 i 11 + N 0 i 1)) := ev_29.trans (nI_add _ _)
        refine lv_iadd hx hb dL_law_721 ?_
        refine lv_topi (fun v_30 ev_30 => ?_)
        obtain rfl : v_30 = (nI (qsum fb i + (N 0 i 11 + N 0 i 1))) := ev_30.trans (nI_add _ _)
        refine lv_istore (lv' := [(10, .int (nI (qsum fb i + (N 0 i 11 + N 0 i 1)))), (12, .int (nI i)), (11, .int (nI (qsum fl i))), (9, .int (nI (N 4 1 7))), (8, .int (nI (qsum (fun i => N 0 i 4 * N 0 i 5 * (N 0 i 9 - N 0 i 8)) (N 4 1 5)))), (5, .int (nI (N 4 1 5))), (2, .ref (ad 0)), (1, .ref (qA B 5 0))]) hx hb dL_law_722 hl (by decide) rfl (fun ls hl => ?_)
        refine lv_iload hx hb dL_law_724 (lv_at hl 2 rfl) ?_
        refine lv_aload_n hx hb dL_law_726 rfl (lv_at hl 7 rfl) ?_
        refine lv_iload hx hb dL_law_727 (lv_at hl 1 rfl) ?_
        refine lv_bipush (v := 8) hx hb dL_law_729 (by decide) ?_
        refine zrdV2 (As := [.int (nI i), .int 8]) (rest := [.int (nI (qsum fl i))]) (wc := qG B R N) ⟨hx, hb, hml, hown, hts⟩ (c_item_8 l D _ B R N i (by omega) hF.1) (cwV 2 hts zgV_X3_item rfl rfl rfl (by decide +kernel) ⟨by rw [hRf]; exact Nat.le_of_ble_eq_true rfl, by rw [hRl]; exact Nat.le_of_ble_eq_true rfl⟩) hK (qPr hP) (qDr hD) [0, 1, 2, 3] rfl (ci := 3) (q0 := 0) rfl rfl rfl hl.1 rfl (Nat.le_of_ble_eq_true rfl) dL_law_731 ⟨by omega, by omega⟩ (fun r_31 hr_31 => ?_)
        refine lv_topi (fun v_32 ev_32 => ?_)
        obtain rfl : v_32 = (nI (N 0 i 15)) := ev_32.trans hr_31
        refine lv_iadd hx hb dL_law_734 ?_
        refine lv_topi (fun v_33 ev_33 => ?_)
        obtain rfl : v_33 = (nI (qsum fl (i + 1))) := ev_33.trans ((nI_add _ _).trans (by rw [hfl]; rfl))
        refine lv_istore (lv' := [(11, .int (nI (qsum fl (i + 1)))), (10, .int (nI (qsum fb i + (N 0 i 11 + N 0 i 1)))), (12, .int (nI i)), (9, .int (nI (N 4 1 7))), (8, .int (nI (qsum (fun i => N 0 i 4 * N 0 i 5 * (N 0 i 9 - N 0 i 8)) (N 4 1 5)))), (5, .int (nI (N 4 1 5))), (2, .ref (ad 0)), (1, .ref (qA B 5 0))]) hx hb dL_law_735 hl (by decide) rfl (fun ls hl => ?_)
        refine lv_iinc (v := (nI (i + 1))) (lv' := [(12, .int (nI (i + 1))), (11, .int (nI (qsum fl (i + 1)))), (10, .int (nI (qsum fb i + (N 0 i 11 + N 0 i 1)))), (9, .int (nI (N 4 1 7))), (8, .int (nI (qsum (fun i => N 0 i 4 * N 0 i 5 * (N 0 i 9 - N 0 i 8)) (N 4 1 5)))), (5, .int (nI (N 4 1 5))), (2, .ref (ad 0)), (1, .ref (qA B 5 0))]) hx hb dL_law_737 hl (k := 2) rfl (nI_1 i) (by decide) rfl (fun ls hl => ?_)
        refine lv_goto (tgt := 679) hx hb dL_law_740 (by decide) ?_
        have hl := lv_sub hl (l' := [(12, .int (nI (i + 1))), (11, .int (nI (qsum fl (i + 1)))), (10, .int (nI (qsum fb i + (N 0 i 11 + N 0 i 1)))), (9, .int (nI (N 4 1 7))), (8, .int (nI (qsum (fun i => N 0 i 4 * N 0 i 5 * (N 0 i 9 - N 0 i 8)) (N 4 1 5)))), (5, .int (nI (N 4 1 5))), (2, .ref (ad 0)), (1, .ref (qA B 5 0))]) [0, 1, 2, 3, 4, 5, 6, 7] rfl
        have h10 : qsum fb (i + 1) = qsum fb i + (N 0 i 11 + N 0 i 1) := by show qsum fb i + fb i = _; rw [hfb]; simp only [if_pos hc9]
        exact ih (i + 1) (by omega) ls (by rw [h10]; exact hl)
  exact loop (N 4 1 5) 0 (by omega) ls hl
