set_option maxHeartbeats 8000000 in
set_option maxRecDepth 100000 in
/-- the law from its stack() to the items -/
theorem z_mid {p : Program} {e : Env} {s : State} {m : MethodId} {below : List Frame} {meth : Method} {c : Code} {l : Launch} {b L : Nat} {xs : Nat → Int32} (C0 : lw_At p s m meth c b L xs) (D : zG) (B : qB) (N : qN0) (hZ : qZ B N) (hLs : qLs B N) (cA : ClassId) (ad : Nat → Nat) (F : Nat → Option Nat) (rf : Nat → Int32) (K : Nat → Nat) (V : Nat → Nat → Nat) (hK : va_K D vwCl (qT B ++ [(cA, .array .int)]) s) (hRv : qRv N rf) (hV : ∀ k, k < qk B → F k = some (K k) ∧ qKv N V k) (lines : Nat) (hlin : lines = ql B) (hl20 : lines ≤ 20) (cells slots : Nat) (hc : cells ≤ 2000) (hs : slots ≤ 10000) (H : Heap) (locs : List Loc) (ls : Array Slot) (hP : va_P D vwCl ((qHX cA (qY B 2) ad (qk B) F rf ++ qKx (qY B 2) K V (qk B)) ++ qG B qRn N) H) (hD : va_D (fun q : Nat => s.heap.size ≤ q) ((qHX cA (qY B 2) ad (qk B) F rf ++ qKx (qY B 2) K V (qk B)) ++ qG B qRn N)) (hS : va_S (fun q : Nat => s.heap.size ≤ q) s.heap H locs) (hl : lv_has ls 19 [(4, .int (nI (qWn B N))), (3, .int (nI lines)), (2, .ref (ad 0)), (1, .ref (qA B 5 0))]) : W p l e room_1 s m #[Value.ref b] below meth c H locs cells slots (lw_Z below #[Value.ref b] s) (F0 m 103 ls []) := by
  have C1 := C0
  obtain ⟨hx, hb, hr, hml, hown, hts, hX0, hbl, hlocks, hgv⟩ := C0
  have hA : ∀ q : Nat, s.heap.size ≤ q → (fun q : Nat => s.heap.size ≤ q) q := fun _ h => h
  have hbA : ¬ (fun q : Nat => s.heap.size ≤ q) b := Nat.not_le.mpr hbl
  have hRf : room_1.frames = 10 := rfl
  have hRl : room_1.locals = 354 := rfl
  have hRc : 5000 ≤ room_1.cells := Nat.le_of_ble_eq_true rfl
  have hRs : 20000 ≤ room_1.slots := Nat.le_of_ble_eq_true rfl
  have hF : qFull B qRn N (fun _ _ => 0) := qZ_full hZ
  refine lv_aload_n hx hb dL_law_103 rfl (lv_at hl 3 rfl) ?_
  refine qcalliX (X := (qHX cA (qY B 2) ad (qk B) F rf ++ qKx (qY B 2) K V (qk B))) (As := []) (rest := []) ⟨hx, hb, hml, hown, hts⟩ (c_stack l D H.size B qRn N (fun _ _ => 0) hF hLs) (cwV 0 hts zgV_X3_stack rfl rfl rfl (by decide +kernel) ⟨by rw [hRf]; exact Nat.le_of_ble_eq_true rfl, by rw [hRl]; exact Nat.le_of_ble_eq_true rfl⟩) hK hP hD hS hA [0, 1, 2, 3] rfl (ci := 3) (q0 := 0) rfl rfl rfl hl.1 rfl (Nat.le_of_ble_eq_true rfl) dL_law_104 ⟨by omega, by omega⟩ (fun r9 u9 H locs hw9 hP hD hS => ?_)
  obtain ⟨B1, R1, N1⟩ := u9
  dsimp only at hw9 hP hD
  obtain ⟨d, hr9, hd8, hSam, ⟨S, hF1⟩, h5, hWn⟩ := hw9
  subst hr9
  obtain ⟨s1, s2, s3, s4, s5, s6, s7⟩ := hSam
  have z5 := hZ.2.2.1
  obtain rfl : d = N1 4 1 5 := by omega
  have hP : va_P D vwCl ((qHX cA (qY B1 2) ad (qk B1) F rf ++ qKx (qY B1 2) K V (qk B1)) ++ qG B1 R1 N1) H := by rw [s4, s1]; exact hP
  have hD : va_D (fun q : Nat => s.heap.size ≤ q) ((qHX cA (qY B1 2) ad (qk B1) F rf ++ qKx (qY B1 2) K V (qk B1)) ++ qG B1 R1 N1) := by rw [s4, s1]; exact hD
  have hK : va_K D vwCl (qT B1 ++ [(cA, .array .int)]) s := by unfold qT; rw [s4]; exact hK
  have hV1 : ∀ k, k < qk B1 → F k = some (K k) ∧ qKv N1 V k := fun k hk => ⟨(hV k (by rw [← s1]; exact hk)).1, qKv_2 s5 (hV k (by rw [← s1]; exact hk)).2⟩
  have hRv1 : qRv N1 rf := ⟨hRv.1.trans (congrArg nI (s7 1 (by decide) (by decide) (by decide)).symm), hRv.2.1.trans (congrArg nI (s7 2 (by decide) (by decide) (by decide)).symm), hRv.2.2.trans (congrArg nI (s7 3 (by decide) (by decide) (by decide)).symm)⟩
  have hA5 := s3 5 0 (by omega)
  rw [← hA5] at hl
  obtain ⟨hO, hM, hG, hSu, hKi, hRu, hLo, hIt, hWt⟩ := id hF1
  have o8 := hO.2.2.2.2.2.2.2.1
  have m7 := hM 4 1 7
  have m3 := hM 4 1 3
  have m1 := hM 4 1 1
  generalize hQe : lw_Z below #[Value.ref b] s = Q
  refine lv_istore (lv' := [(5, .int (nI (N1 4 1 5))), (4, .int (nI (qWn B N))), (3, .int (nI lines)), (2, .ref (ad 0)), (1, .ref (qA B1 5 0))]) hx hb dL_law_107 hl (by decide) rfl (fun ls hl => ?_)
  refine lv_iconst (v := 0) hx hb dL_law_109 (by decide) ?_
  refine lv_istore (lv' := [(6, .int 0), (5, .int (nI (N1 4 1 5))), (4, .int (nI (qWn B N))), (3, .int (nI lines)), (2, .ref (ad 0)), (1, .ref (qA B1 5 0))]) hx hb dL_law_110 hl (by decide) rfl (fun ls hl => ?_)
  refine lv_iconst (v := 0) hx hb dL_law_112 (by decide) ?_
  refine lv_istore (lv' := [(7, .int 0), (6, .int 0), (5, .int (nI (N1 4 1 5))), (4, .int (nI (qWn B N))), (3, .int (nI lines)), (2, .ref (ad 0)), (1, .ref (qA B1 5 0))]) hx hb dL_law_113 hl (by decide) rfl (fun ls hl => ?_)
  have hl := lv_sub hl (l' := [(7, .int 0), (6, .int 0), (5, .int (nI (N1 4 1 5))), (4, .int (nI (qWn B N))), (3, .int (nI lines)), (2, .ref (ad 0)), (1, .ref (qA B1 5 0))]) [0, 1, 2, 3, 4, 5, 6] rfl
  have a139 : ∀ ls : Array Slot, lv_has ls 19 [(6, .int (nI (qsum (fun l => N1 3 l 1) lines))), (5, .int (nI (N1 4 1 5))), (4, .int (nI (qWn B N))), (3, .int (nI lines)), (2, .ref (ad 0)), (1, .ref (qA B1 5 0))] → W p l e room_1 s m #[Value.ref b] below meth c H locs cells slots Q (F0 m 139 ls []) := by
    intro ls hl
    have hw8 : N1 4 1 5 + qsum (fun l => N1 3 l 1) lines = qWn B N := by
      rw [← hWn, Nat.add_comm]
      show _ = qsum (fun l => N1 3 l 1) (ql B1) + _
      rw [s2, ← hlin]
    refine lv_iload hx hb dL_law_139 (lv_at hl 1 rfl) ?_
    refine lv_iload hx hb dL_law_141 (lv_at hl 0 rfl) ?_
    refine lv_iadd hx hb dL_law_143 ?_
    refine lv_topi (fun v_1 ev_1 => ?_)
    obtain rfl : v_1 = (nI (qWn B N)) := ev_1.trans ((nI_add _ _).trans (congrArg nI hw8))
    refine lv_iload hx hb dL_law_144 (lv_at hl 2 rfl) ?_
    refine lv_icmp_ne (tgt := 187) hx hb dL_law_146 (by decide) (fun c_2 => absurd (rfl) c_2) (fun c_2 => ?_)
    refine lv_iload hx hb dL_law_149 (lv_at hl 1 rfl) ?_
    refine lv_aload_n hx hb dL_law_151 rfl (lv_at hl 5 rfl) ?_
    refine lv_iconst (v := 1) hx hb dL_law_152 (by decide) ?_
    refine zrdV2 (As := [.int 1]) (rest := [.int (nI (N1 4 1 5))]) (wc := qG B1 R1 N1) ⟨hx, hb, hml, hown, hts⟩ (c_count1 l D _ B1 R1 N1) (cwV 1 hts zgV_X3_count rfl rfl rfl (by decide +kernel) ⟨by rw [hRf]; exact Nat.le_of_ble_eq_true rfl, by rw [hRl]; exact Nat.le_of_ble_eq_true rfl⟩) hK (qPr hP) (qDr hD) [0, 1, 2, 3] rfl (ci := 3) (q0 := 0) rfl rfl rfl hl.1 rfl (Nat.le_of_ble_eq_true rfl) dL_law_153 ⟨by omega, by omega⟩ (fun r_3 hr_3 => ?_)
    refine lv_topi (fun v_4 ev_4 => ?_)
    obtain rfl : v_4 = (nI (N1 4 1 5)) := ev_4.trans (hr_3.trans (congrArg nI hWt.1))
    refine lv_icmp_ne (tgt := 187) hx hb dL_law_156 (by decide) (fun c_5 => absurd (rfl) c_5) (fun c_5 => ?_)
    refine lv_aload_n hx hb dL_law_159 rfl (lv_at hl 5 rfl) ?_
    refine lv_iconst (v := 0) hx hb dL_law_160 (by decide) ?_
    refine zrdV2 (As := [.int 0]) (rest := []) (wc := qG B1 R1 N1) ⟨hx, hb, hml, hown, hts⟩ (c_sum_0 l D _ B1 R1 N1) (cwV 1 hts zgV_X3_sum rfl rfl rfl (by decide +kernel) ⟨by rw [hRf]; exact Nat.le_of_ble_eq_true rfl, by rw [hRl]; exact Nat.le_of_ble_eq_true rfl⟩) hK (qPr hP) (qDr hD) [0, 1, 2, 3] rfl (ci := 3) (q0 := 0) rfl rfl rfl hl.1 rfl (Nat.le_of_ble_eq_true rfl) dL_law_161 ⟨by omega, by omega⟩ (fun r_6 hr_6 => ?_)
    refine lv_topi (fun v_7 ev_7 => ?_)
    obtain rfl : v_7 = (nI (N1 4 1 7)) := ev_7.trans hr_6
    refine lv_aload_n hx hb dL_law_164 rfl (lv_at hl 4 rfl) ?_
    refine va_get (D := D) (ci := 4) (v := .ref (ad 3)) (C := RX4) (T := TX4) (N := 4) hx hb hts inT_X4 hown hK hP 0 rfl rfl 3 (by decide) (hts (.fieldLink RL 34 "PalletStackLaw$Hand" "rules" "[I") (List.mem_of_getElem? (i := 505) (by decide +kernel))) (fun _ h9 => h9) rfl dL_law_165 ?_
    refine lv_iconst (v := 2) hx hb dL_law_168 (by decide) ?_
    refine va_iald hx hb hK hP 1 2 rfl rfl (vp_in_nI (n := 2) (N := 4) (by decide) (by decide)) dL_law_169 ?_
    refine lv_topi (fun v_8 ev_8 => ?_)
    obtain rfl : v_8 = (nI (N1 4 1 3)) := ev_8.trans hRv1.2.2
    refine lv_icmp_gt (tgt := 187) hx hb dL_law_170 (by decide) (fun c_9 => absurd c_9 (nI_nlt hWt.2.2 (by omega))) (fun c_9 => ?_)
    refine lv_aload_n hx hb dL_law_173 rfl (lv_at hl 5 rfl) ?_
    refine lv_iconst (v := 1) hx hb dL_law_174 (by decide) ?_
    refine zrdV2 (As := [.int 1]) (rest := []) (wc := qG B1 R1 N1) ⟨hx, hb, hml, hown, hts⟩ (c_sum_1 l D _ B1 R1 N1 hO hM) (cwV 1 hts zgV_X3_sum rfl rfl rfl (by decide +kernel) ⟨by rw [hRf]; exact Nat.le_of_ble_eq_true rfl, by rw [hRl]; exact Nat.le_of_ble_eq_true rfl⟩) hK (qPr hP) (qDr hD) [0, 1, 2, 3] rfl (ci := 3) (q0 := 0) rfl rfl rfl hl.1 rfl (Nat.le_of_ble_eq_true rfl) dL_law_175 ⟨by omega, by omega⟩ (fun r_10 hr_10 => ?_)
    refine lv_topi (fun v_11 ev_11 => ?_)
    obtain rfl : v_11 = (nI (qmx (fun i => N1 0 i 9) (N1 4 1 5))) := ev_11.trans hr_10
    refine lv_aload_n hx hb dL_law_178 rfl (lv_at hl 4 rfl) ?_
    refine va_get (D := D) (ci := 4) (v := .ref (ad 3)) (C := RX4) (T := TX4) (N := 4) hx hb hts inT_X4 hown hK hP 0 rfl rfl 3 (by decide) (hts (.fieldLink RL 34 "PalletStackLaw$Hand" "rules" "[I") (List.mem_of_getElem? (i := 505) (by decide +kernel))) (fun _ h9 => h9) rfl dL_law_179 ?_
    refine lv_iconst (v := 0) hx hb dL_law_182 (by decide) ?_
    refine va_iald hx hb hK hP 1 2 rfl rfl (vp_in_nI (n := 0) (N := 4) (by decide) (by decide)) dL_law_183 ?_
    refine lv_topi (fun v_12 ev_12 => ?_)
    obtain rfl : v_12 = (nI (N1 4 1 1)) := ev_12.trans hRv1.1
    refine lv_icmp_le (tgt := 189) hx hb dL_law_184 (by decide) (fun c_13 => ?_) (fun c_13 => absurd (nI_le (qmx_le (fun i hi => (hIt i hi).2.2.2.2.2.2.2.2.2.1)) (by omega)) c_13)
    refine lv_bipush (v := 120) hx hb dL_law_189 (by decide) ?_
    refine qnewA (N' := 120) hx hb hown (hts (.classLink RL 22 "[I") (List.mem_of_getElem? (i := 515) (by decide +kernel))) (hts (.arrayOver (.array .int)) (List.mem_of_getElem? (i := 500) (by decide +kernel))) hK hP hD hS hA (by decide) rfl (Nat.le_of_ble_eq_true rfl) (by omega) (by omega) dL_law_191 (fun q cA2 H hKA hK9 hP hD hS => ?_)
    have ec := qKu hK9 (i := 5) (j := 4) rfl rfl
    rw [ec] at hP hD hKA
    refine lv_astore (lv' := [(7, .ref q), (6, .int (nI (qsum (fun l => N1 3 l 1) lines))), (5, .int (nI (N1 4 1 5))), (4, .int (nI (qWn B N))), (3, .int (nI lines)), (2, .ref (ad 0)), (1, .ref (qA B1 5 0))]) hx hb dL_law_194 hl (by decide) rfl (fun ls hl => ?_)
    obtain ⟨ad9, had9⟩ : ∃ g : Nat → Nat, g = fun i => if i = 4 then q else ad i := ⟨_, rfl⟩
    have d0 : ad 0 = ad9 0 := by rw [had9]; rfl
    have d1 : ad 1 = ad9 1 := by rw [had9]; rfl
    have d2 : ad 2 = ad9 2 := by rw [had9]; rfl
    have d3 : ad 3 = ad9 3 := by rw [had9]; rfl
    have d4 : q = ad9 4 := by rw [had9]; rfl
    have hP : va_P D vwCl (qLX cA (qY B1 2) cA ad9 (qk B1) F rf K V (fun _ => none) (fun _ => 0) (fun _ => 0) 0 ++ qG B1 R1 N1) H := by
      unfold qLX qHX
      rw [← d0, ← d1, ← d2, ← d3, ← d4, ← List.append_assoc]
      exact hP.swap
    have hD : va_D (fun q : Nat => s.heap.size ≤ q) (qLX cA (qY B1 2) cA ad9 (qk B1) F rf K V (fun _ => none) (fun _ => 0) (fun _ => 0) 0 ++ qG B1 R1 N1) := by
      unfold qLX qHX
      rw [← d0, ← d1, ← d2, ← d3, ← d4, ← List.append_assoc]
      exact hD.swap
    rw [d0, d4] at hl
    refine lv_iconst (v := 0) hx hb dL_law_196 (by decide) ?_
    refine lv_istore (lv' := [(8, .int 0), (7, .ref (ad9 4)), (6, .int (nI (qsum (fun l => N1 3 l 1) lines))), (5, .int (nI (N1 4 1 5))), (4, .int (nI (qWn B N))), (3, .int (nI lines)), (2, .ref (ad9 0)), (1, .ref (qA B1 5 0))]) hx hb dL_law_197 hl (by decide) rfl (fun ls hl => ?_)
    refine lv_iconst (v := 0) hx hb dL_law_199 (by decide) ?_
    refine lv_istore (lv' := [(9, .int 0), (8, .int 0), (7, .ref (ad9 4)), (6, .int (nI (qsum (fun l => N1 3 l 1) lines))), (5, .int (nI (N1 4 1 5))), (4, .int (nI (qWn B N))), (3, .int (nI lines)), (2, .ref (ad9 0)), (1, .ref (qA B1 5 0))]) hx hb dL_law_200 hl (by decide) rfl (fun ls hl => ?_)
    refine lv_iconst (v := 0) hx hb dL_law_202 (by decide) ?_
    refine lv_istore (lv' := [(10, .int 0), (9, .int 0), (8, .int 0), (7, .ref (ad9 4)), (6, .int (nI (qsum (fun l => N1 3 l 1) lines))), (5, .int (nI (N1 4 1 5))), (4, .int (nI (qWn B N))), (3, .int (nI lines)), (2, .ref (ad9 0)), (1, .ref (qA B1 5 0))]) hx hb dL_law_203 hl (by decide) rfl (fun ls hl => ?_)
    have hl := lv_sub hl (l' := [(10, .int 0), (9, .int 0), (8, .int 0), (7, .ref (ad9 4)), (5, .int (nI (N1 4 1 5))), (2, .ref (ad9 0)), (1, .ref (qA B1 5 0))]) [0, 1, 2, 3, 5, 8, 9] rfl
    rw [← hQe]
    exact z_items C1 D B1 R1 N1 S hF1 cA hKA ad9 F rf K V hK hRv1.2.1 hV1 (fun _ => 0) (fun _ => 0) (cells + 1) (slots + 120) (by omega) (by omega) H locs ls hP hD hS hl
  have loop : ∀ (k9 j : Nat), j + k9 = lines → ∀ ls : Array Slot, lv_has ls 19 [(7, .int (nI j)), (6, .int (nI (qsum (fun l => N1 3 l 1) j))), (5, .int (nI (N1 4 1 5))), (4, .int (nI (qWn B N))), (3, .int (nI lines)), (2, .ref (ad 0)), (1, .ref (qA B1 5 0))] → W p l e room_1 s m #[Value.ref b] below meth c H locs cells slots Q (F0 m 115 ls []) := by
    intro k9
    induction k9 with
    | zero =>
      intro j hj ls hl
      obtain rfl : lines = j := by omega
      refine lv_iload hx hb dL_law_115 (lv_at hl 0 rfl) ?_
      refine lv_iload_n hx hb dL_law_117 rfl (lv_at hl 4 rfl) ?_
      refine lv_icmp_ge (tgt := 139) hx hb dL_law_118 (by decide) (fun c_14 => ?_) (fun c_14 => absurd (Int32.le_refl _) c_14)
      have hl := lv_sub hl (l' := [(6, .int (nI (qsum (fun l => N1 3 l 1) lines))), (5, .int (nI (N1 4 1 5))), (4, .int (nI (qWn B N))), (3, .int (nI lines)), (2, .ref (ad 0)), (1, .ref (qA B1 5 0))]) [1, 2, 3, 4, 5, 6] rfl
      exact a139 ls hl
    | succ k9 ih =>
      intro j hj ls hl
      have hjl : j < ql B1 := by omega
      refine lv_iload hx hb dL_law_115 (lv_at hl 0 rfl) ?_
      refine lv_iload_n hx hb dL_law_117 rfl (lv_at hl 4 rfl) ?_
      refine lv_icmp_ge (tgt := 139) hx hb dL_law_118 (by decide) (fun c_15 => absurd c_15 (nI_ge (by omega) (by omega))) (fun c_15 => ?_)
      refine lv_iload hx hb dL_law_121 (lv_at hl 1 rfl) ?_
      refine lv_aload_n hx hb dL_law_123 rfl (lv_at hl 6 rfl) ?_
      refine lv_iload hx hb dL_law_124 (lv_at hl 0 rfl) ?_
      refine lv_iconst (v := 1) hx hb dL_law_126 (by decide) ?_
      refine zrdV2 (As := [.int (nI j), .int 1]) (rest := [.int (nI (qsum (fun l => N1 3 l 1) j))]) (wc := qG B1 R1 N1) ⟨hx, hb, hml, hown, hts⟩ (c_line1 l D _ B1 R1 N1 j hjl hO) (cwV 2 hts zgV_X3_line rfl rfl rfl (by decide +kernel) ⟨by rw [hRf]; exact Nat.le_of_ble_eq_true rfl, by rw [hRl]; exact Nat.le_of_ble_eq_true rfl⟩) hK (qPr hP) (qDr hD) [0, 1, 2, 3] rfl (ci := 3) (q0 := 0) rfl rfl rfl hl.1 rfl (Nat.le_of_ble_eq_true rfl) dL_law_127 ⟨by omega, by omega⟩ (fun r_16 hr_16 => ?_)
      refine lv_topi (fun v_17 ev_17 => ?_)
      obtain rfl : v_17 = (nI (N1 3 j 1)) := ev_17.trans hr_16
      refine lv_iadd hx hb dL_law_130 ?_
      refine lv_topi (fun v_18 ev_18 => ?_)
      obtain rfl : v_18 = (nI (qsum (fun l => N1 3 l 1) (j + 1))) := ev_18.trans ((nI_add _ _).trans rfl)
      refine lv_istore (lv' := [(6, .int (nI (qsum (fun l => N1 3 l 1) (j + 1)))), (7, .int (nI j)), (5, .int (nI (N1 4 1 5))), (4, .int (nI (qWn B N))), (3, .int (nI lines)), (2, .ref (ad 0)), (1, .ref (qA B1 5 0))]) hx hb dL_law_131 hl (by decide) rfl (fun ls hl => ?_)
      refine lv_iinc (v := (nI (j + 1))) (lv' := [(7, .int (nI (j + 1))), (6, .int (nI (qsum (fun l => N1 3 l 1) (j + 1)))), (5, .int (nI (N1 4 1 5))), (4, .int (nI (qWn B N))), (3, .int (nI lines)), (2, .ref (ad 0)), (1, .ref (qA B1 5 0))]) hx hb dL_law_133 hl (k := 1) rfl (nI_1 j) (by decide) rfl (fun ls hl => ?_)
      refine lv_goto (tgt := 115) hx hb dL_law_136 (by decide) ?_
      have hl := lv_sub hl (l' := [(7, .int (nI (j + 1))), (6, .int (nI (qsum (fun l => N1 3 l 1) (j + 1)))), (5, .int (nI (N1 4 1 5))), (4, .int (nI (qWn B N))), (3, .int (nI lines)), (2, .ref (ad 0)), (1, .ref (qA B1 5 0))]) [0, 1, 2, 3, 4, 5, 6] rfl
      exact ih (j + 1) (by omega) ls hl
  exact loop lines 0 (by omega) ls hl
