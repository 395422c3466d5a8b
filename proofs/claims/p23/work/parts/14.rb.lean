set_option maxHeartbeats 4000000 in
set_option maxRecDepth 100000 in
theorem c_greatestTop (l : Launch) (D : zG) (sz : Nat) (B : qB) (R : qR0) (N : qN0) (hO : qOK B N) (hM : qM N) : Met l yX3_greatestTop wsX3_greatestTop ({ frames := 1, cells := 0, slots := 0, locals := 22 }) (zPc D (qT B) (qG B R N) sz [.ref (qA B 5 0)]) (vp_Si (fun r => r = nI (qmx (fun i => N 0 i 9) (N 4 1 5)))) 0 0 (fun _ => False) := by
  refine Met.ofW (cc := cX3_greatestTop) (maxL := 4) (ret := (some .int)) (by decide) rfl ?_
  intro p e s m args below meth c s₁ B9 hml hv
  obtain ⟨rfl, hsz, hP, hK, hD0⟩ := hv
  have hx := B9.exec
  have hb := B9.bytes
  have hr := B9.returns
  have hts := atoms_spec (ws := wsX3_greatestTop) B9.pre
  have hown : s.vm.findClass RX3 = some m.cls := findClass_of_methodNamed B9.named
  have hlocks := B9.notSynchronized
  subst hsz
  have hD := hD0
  generalize hAe : (fun _ : Nat => True) = A at hD
  have hl := lv_entry ([.ref (qA B 5 0)]) (n := 4) (Nat.le_of_ble_eq_true rfl)
  rw [lg_entry_eq]
  generalize (lg_sl ([.ref (qA B 5 0)]) ++ List.replicate (4 - (lg_sl ([.ref (qA B 5 0)])).length) Slot.unset).toArray = ls at hl ⊢
  have hl : lv_has ls 4 [(0, .ref (qA B 5 0))] := hl
  have hP : va_P D vwCl (qG B R N) s.heap := hP
  generalize hRe : (headSpec _ _).room = R9
  have hRf : R9.frames = 1 := by rw [← hRe]; rfl
  have hRc : R9.cells = 0 := by rw [← hRe]; rfl
  have hRs : R9.slots = 0 := by rw [← hRe]; rfl
  have hRl : R9.locals = 22 := by rw [← hRe]; rfl
  clear hRe
  have o8 := hO.2.2.2.2.2.2.2.1
  refine lv_iconst (v := 0) hx hb dX3_greatestTop_0 (by decide) ?_
  refine lv_istore_n (lv' := [(1, .int 0), (0, .ref (qA B 5 0))]) hx hb dX3_greatestTop_1 rfl hl (by decide) rfl (fun ls hl => ?_)
  refine lv_iconst (v := 0) hx hb dX3_greatestTop_2 (by decide) ?_
  refine lv_istore_n (lv' := [(2, .int 0), (1, .int 0), (0, .ref (qA B 5 0))]) hx hb dX3_greatestTop_3 rfl hl (by decide) rfl (fun ls hl => ?_)
  generalize hQe : MQ _ _ _ _ _ _ _ = Q
  have loop : ∀ (k i : Nat), i + k = N 4 1 5 → ∀ (ls : Array Slot), lv_has ls 4 [(2, .int (nI i)), (1, .int (nI (qmx (fun i => N 0 i 9) i))), (0, .ref (qA B 5 0))] → W p l e R9 s m ([.ref (qA B 5 0)] : List Value).toArray below meth c s.heap [] 0 0 Q (F0 m 4 ls []) := by
    intro k
    induction k with
    | zero =>
      intro i hi ls hl
      obtain rfl : N 4 1 5 = i := by omega
      refine lv_iload_n hx hb dX3_greatestTop_4 rfl (lv_at hl 0 rfl) ?_
      refine lv_aload_n hx hb dX3_greatestTop_5 rfl (lv_at hl 2 rfl) ?_
      refine va_get (D := D) (ci := 3) (v := .int (nI (N 4 1 5))) (C := RX3) (T := TX3) (N := 14) hx hb hts (fun _ h9 => List.mem_cons_of_mem _ (List.mem_append_left _ (List.mem_append_right _ h9))) hown hK hP 0 rfl rfl 7 (by decide) (hts (.fieldLink RX3 38 "PalletStack" "cameCount" "I") (List.mem_of_getElem? (i := 1) (by rfl))) (fun _ h9 => h9) rfl dX3_greatestTop_6 ?_
      refine lv_icmp_ge (tgt := 41) hx hb dX3_greatestTop_9 (by decide) (fun c_1 => ?_) (fun c_1 => absurd (Int32.le_refl _) c_1)
      refine lv_iload_n hx hb dX3_greatestTop_41 rfl (lv_at hl 1 rfl) ?_
      rw [← hQe]
      exact W.iret (v := (nI (qmx (fun i => N 0 i 9) (N 4 1 5)))) hx hb hr (fun t ht hW => ⟨(nI (qmx (fun i => N 0 i 9) (N 4 1 5))), rfl, rfl, ht⟩) (fun _ h => by cases h) dX3_greatestTop_42
    | succ k ih =>
      intro i hi ls hl
      have hb9 := hM 0 i 9
      have hmx : qmx (fun i => N 0 i 9) i ≤ 1000000 := qmx_le (fun j _ => hM 0 j 9)
      refine lv_iload_n hx hb dX3_greatestTop_4 rfl (lv_at hl 0 rfl) ?_
      refine lv_aload_n hx hb dX3_greatestTop_5 rfl (lv_at hl 2 rfl) ?_
      refine va_get (D := D) (ci := 3) (v := .int (nI (N 4 1 5))) (C := RX3) (T := TX3) (N := 14) hx hb hts (fun _ h9 => List.mem_cons_of_mem _ (List.mem_append_left _ (List.mem_append_right _ h9))) hown hK hP 0 rfl rfl 7 (by decide) (hts (.fieldLink RX3 38 "PalletStack" "cameCount" "I") (List.mem_of_getElem? (i := 1) (by rfl))) (fun _ h9 => h9) rfl dX3_greatestTop_6 ?_
      refine lv_icmp_ge (tgt := 41) hx hb dX3_greatestTop_9 (by decide) (fun c_2 => absurd c_2 (nI_ge (by omega) (by omega))) (fun c_2 => ?_)
      refine lv_aload_n hx hb dX3_greatestTop_12 rfl (lv_at hl 2 rfl) ?_
      refine lv_iload_n hx hb dX3_greatestTop_13 rfl (lv_at hl 0 rfl) ?_
      refine zrdVq2 (As := [.int (nI i)]) (rest := []) (wc := qG B R N) ⟨hx, hb, hml, hown, hts⟩ (c_itemOf l D _ B R N i (by omega) hO) (cwV 1 hts gX3_greatestTop_X3_itemOf rfl rfl rfl (by decide +kernel) ⟨by rw [hRf]; exact Nat.le_of_ble_eq_true rfl, by rw [hRl]; exact Nat.le_of_ble_eq_true rfl⟩) hK hP hD [0, 1, 2, 3] rfl (ci := 3) (q0 := 0) rfl rfl rfl hl.1 rfl (Nat.le_of_ble_eq_true rfl) dX3_greatestTop_14 ⟨by omega, by omega⟩ (fun r_3 hr_3 => ?_)
      refine W.eq (g2 := F0 m 17 ls [.ref (qA B 0 i)]) (by rw [hr_3]; rfl) ?_
      refine lv_astore_n (lv' := [(3, .ref (qA B 0 i)), (2, .int (nI i)), (1, .int (nI (qmx (fun i => N 0 i 9) i))), (0, .ref (qA B 5 0))]) hx hb dX3_greatestTop_17 rfl hl (by decide) rfl (fun ls hl => ?_)
      refine lv_aload_n hx hb dX3_greatestTop_18 rfl (lv_at hl 0 rfl) ?_
      refine lv_ifnull hx hb dX3_greatestTop_19 ?_
      refine lv_aload_n hx hb dX3_greatestTop_22 rfl (lv_at hl 0 rfl) ?_
      refine va_get (D := D) (ci := 0) (v := .int (nI (N 0 i 9))) (C := RX0) (T := TX0) (N := 18) hx hb hts (fun _ h9 => List.mem_cons_of_mem _ (List.mem_append_right _ h9)) hown hK hP (5 + i) (qG_i (by omega)) rfl 9 (by decide) (hts (.fieldLink RX3 134 "PalletStack$Item" "top" "I") (List.mem_of_getElem? (i := 2) (by rfl))) (fun _ h9 => h9) rfl dX3_greatestTop_23 ?_
      refine lv_iload_n hx hb dX3_greatestTop_26 rfl (lv_at hl 2 rfl) ?_
      refine lv_icmp_le (tgt := 35) hx hb dX3_greatestTop_27 (by decide) (fun c_5 => ?_) (fun c_5 => ?_)
      · have h_b := True.intro
        have k_6 : (N 0 i 9) ≤ (qmx (fun i => N 0 i 9) i) := (nI_leI (a := (N 0 i 9)) (b := (qmx (fun i => N 0 i 9) i)) (by omega) (by omega)).mp c_5
        refine lv_iinc (v := (nI (i + 1))) (lv' := [(2, .int (nI (i + 1))), (3, .ref (qA B 0 i)), (1, .int (nI (qmx (fun i => N 0 i 9) i))), (0, .ref (qA B 5 0))]) hx hb dX3_greatestTop_35 hl (k := 1) rfl (nI_1 i) (by decide) rfl (fun ls hl => ?_)
        refine lv_goto (tgt := 4) hx hb dX3_greatestTop_38 (by decide) ?_
        have hl := lv_sub hl (l' := [(2, .int (nI (i + 1))), (1, .int (nI (qmx (fun i => N 0 i 9) i))), (0, .ref (qA B 5 0))]) [0, 2, 3] rfl
        have hm2 : qmx (fun i => N 0 i 9) (i + 1) = qmx (fun i => N 0 i 9) i := by simp only [qmx]; omega
        refine ih (i + 1) (by omega) ls (by rw [hm2]; exact hl)
      · have h_b := True.intro
        have k_7 : ¬ ((N 0 i 9) ≤ (qmx (fun i => N 0 i 9) i)) := fun h9 => c_5 ((nI_leI (a := (N 0 i 9)) (b := (qmx (fun i => N 0 i 9) i)) (by omega) (by omega)).mpr h9)
        refine lv_aload_n hx hb dX3_greatestTop_30 rfl (lv_at hl 0 rfl) ?_
        refine va_get (D := D) (ci := 0) (v := .int (nI (N 0 i 9))) (C := RX0) (T := TX0) (N := 18) hx hb hts (fun _ h9 => List.mem_cons_of_mem _ (List.mem_append_right _ h9)) hown hK hP (5 + i) (qG_i (by omega)) rfl 9 (by decide) (hts (.fieldLink RX3 134 "PalletStack$Item" "top" "I") (List.mem_of_getElem? (i := 2) (by rfl))) (fun _ h9 => h9) rfl dX3_greatestTop_31 ?_
        refine lv_istore_n (lv' := [(1, .int (nI (N 0 i 9))), (3, .ref (qA B 0 i)), (2, .int (nI i)), (0, .ref (qA B 5 0))]) hx hb dX3_greatestTop_34 rfl hl (by decide) rfl (fun ls hl => ?_)
        refine lv_iinc (v := (nI (i + 1))) (lv' := [(2, .int (nI (i + 1))), (1, .int (nI (N 0 i 9))), (3, .ref (qA B 0 i)), (0, .ref (qA B 5 0))]) hx hb dX3_greatestTop_35 hl (k := 2) rfl (nI_1 i) (by decide) rfl (fun ls hl => ?_)
        refine lv_goto (tgt := 4) hx hb dX3_greatestTop_38 (by decide) ?_
        have hl := lv_sub hl (l' := [(2, .int (nI (i + 1))), (1, .int (nI (N 0 i 9))), (0, .ref (qA B 5 0))]) [0, 1, 3] rfl
        have hm2 : qmx (fun i => N 0 i 9) (i + 1) = N 0 i 9 := by simp only [qmx]; omega
        refine ih (i + 1) (by omega) ls (by rw [hm2]; exact hl)
  exact loop (N 4 1 5) 0 (by omega) ls hl
set_option maxHeartbeats 4000000 in
set_option maxRecDepth 100000 in
theorem c_sumOf_0 (l : Launch) (D : zG) (sz : Nat) (B : qB) (R : qR0) (N : qN0)  : Met l yX3_sumOf wsX3_sumOf ({ frames := 2, cells := 0, slots := 0, locals := 45 }) (zPc D (qT B) (qG B R N) sz [.ref (qA B 5 0), .int 0]) (vp_Si (fun r => r = nI (N 4 1 7))) 0 0 (fun _ => False) := by
  refine Met.ofW (cc := cX3_sumOf) (maxL := 2) (ret := (some .int)) (by decide) rfl ?_
  intro p e s m args below meth c s₁ B9 hml hv
  obtain ⟨rfl, hsz, hP, hK, hD0⟩ := hv
  have hx := B9.exec
  have hb := B9.bytes
  have hr := B9.returns
  have hts := atoms_spec (ws := wsX3_sumOf) B9.pre
  have hown : s.vm.findClass RX3 = some m.cls := findClass_of_methodNamed B9.named
  have hlocks := B9.notSynchronized
  subst hsz
  have hD := hD0
  generalize hAe : (fun _ : Nat => True) = A at hD
  have hl := lv_entry ([.ref (qA B 5 0), .int 0]) (n := 2) (Nat.le_of_ble_eq_true rfl)
  rw [lg_entry_eq]
  generalize (lg_sl ([.ref (qA B 5 0), .int 0]) ++ List.replicate (2 - (lg_sl ([.ref (qA B 5 0), .int 0])).length) Slot.unset).toArray = ls at hl ⊢
  have hl : lv_has ls 2 [(0, .ref (qA B 5 0)), (1, .int 0)] := hl
  have hP : va_P D vwCl (qG B R N) s.heap := hP
  generalize hRe : (headSpec _ _).room = R9
  have hRf : R9.frames = 2 := by rw [← hRe]; rfl
  have hRc : R9.cells = 0 := by rw [← hRe]; rfl
  have hRs : R9.slots = 0 := by rw [← hRe]; rfl
  have hRl : R9.locals = 45 := by rw [← hRe]; rfl
  clear hRe
  refine lv_iload_n hx hb dX3_sumOf_0 rfl (lv_at hl 1 rfl) ?_
  refine lv_tableIn (off := 27) (tgt := 28) hx hb dX3_sumOf_1 (by decide) (by decide) (by decide) (by decide) ?_
  refine lv_aload_n hx hb dX3_sumOf_28 rfl (lv_at hl 0 rfl) ?_
  refine va_get (D := D) (ci := 3) (v := .int (nI (N 4 1 7))) (C := RX3) (T := TX3) (N := 14) hx hb hts (fun _ h9 => List.mem_cons_of_mem _ (List.mem_append_left _ (List.mem_append_right _ h9))) hown hK hP 0 rfl rfl 9 (by decide) (hts (.fieldLink RX3 44 "PalletStack" "weightOnPallet" "I") (List.mem_of_getElem? (i := 1) (by rfl))) (fun _ h9 => h9) rfl dX3_sumOf_29 ?_
  exact W.iret (v := (nI (N 4 1 7))) hx hb hr (fun t ht hW => ⟨(nI (N 4 1 7)), rfl, rfl, ht⟩) (fun _ h => by cases h) dX3_sumOf_32
set_option maxHeartbeats 4000000 in
set_option maxRecDepth 100000 in
theorem c_sum_0 (l : Launch) (D : zG) (sz : Nat) (B : qB) (R : qR0) (N : qN0)  : Met l yX3_sum wsX3_sum ({ frames := 3, cells := 0, slots := 0, locals := 75 }) (zPc D (qT B) (qG B R N) sz [.ref (qA B 5 0), .int 0]) (vp_Si (fun r => r = nI (N 4 1 7))) 0 0 (fun _ => False) := by
  refine Met.ofW (cc := cX3_sum) (maxL := 2) (ret := (some .int)) (by decide) rfl ?_
  intro p e s m args below meth c s₁ B9 hml hv
  obtain ⟨rfl, hsz, hP, hK, hD0⟩ := hv
  have hx := B9.exec
  have hb := B9.bytes
  have hr := B9.returns
  have hts := atoms_spec (ws := wsX3_sum) B9.pre
  have hown : s.vm.findClass RX3 = some m.cls := findClass_of_methodNamed B9.named
  have hlocks := B9.notSynchronized
  subst hsz
  have hD := hD0
  generalize hAe : (fun _ : Nat => True) = A at hD
  have hl := lv_entry ([.ref (qA B 5 0), .int 0]) (n := 2) (Nat.le_of_ble_eq_true rfl)
  rw [lg_entry_eq]
  generalize (lg_sl ([.ref (qA B 5 0), .int 0]) ++ List.replicate (2 - (lg_sl ([.ref (qA B 5 0), .int 0])).length) Slot.unset).toArray = ls at hl ⊢
  have hl : lv_has ls 2 [(0, .ref (qA B 5 0)), (1, .int 0)] := hl
  have hP : va_P D vwCl (qG B R N) s.heap := hP
  generalize hRe : (headSpec _ _).room = R9
  have hRf : R9.frames = 3 := by rw [← hRe]; rfl
  have hRc : R9.cells = 0 := by rw [← hRe]; rfl
  have hRs : R9.slots = 0 := by rw [← hRe]; rfl
  have hRl : R9.locals = 75 := by rw [← hRe]; rfl
  clear hRe
  refine lv_iload_n hx hb dX3_sum_0 rfl (lv_at hl 1 rfl) ?_
  refine lv_iconst (v := 0) hx hb dX3_sum_1 (by decide) ?_
  refine lv_iconst (v := 3) hx hb dX3_sum_2 (by decide) ?_
  refine zrdS (As := [.int 0, .int 0, .int 3]) (rest := []) (wc := []) ⟨hx, hb, hml, hown, hts⟩ (c_isWithin l D _ 0 0 3) (va_cwS 3 hts gX3_sum_X3_isWithin rfl rfl rfl (by decide +kernel) ⟨by rw [hRf]; exact Nat.le_of_ble_eq_true rfl, by rw [hRl]; exact Nat.le_of_ble_eq_true rfl⟩) hK hP hD [] rfl (by decide) [] rfl rfl hl.1 rfl (Nat.le_of_ble_eq_true rfl) dX3_sum_3 ⟨by omega, by omega⟩ (fun r_8 hr_8 => ?_)
  refine lv_topi (fun v_9 ev_9 => ?_)
  obtain rfl : v_9 = 1 := ev_9.trans (hr_8.trans (by decide))
  refine lv_if_ne (tgt := 17) hx hb dX3_sum_6 (by decide) (fun c_10 => ?_) (fun c_10 => absurd c_10 (by decide))
  refine lv_aload_n hx hb dX3_sum_17 rfl (lv_at hl 0 rfl) ?_
  refine lv_iload_n hx hb dX3_sum_18 rfl (lv_at hl 1 rfl) ?_
  refine zrdV2 (As := [.int 0]) (rest := []) (wc := qG B R N) ⟨hx, hb, hml, hown, hts⟩ (c_sumOf_0 l D _ B R N) (cwV 1 hts gX3_sum_X3_sumOf rfl rfl rfl (by decide +kernel) ⟨by rw [hRf]; exact Nat.le_of_ble_eq_true rfl, by rw [hRl]; exact Nat.le_of_ble_eq_true rfl⟩) hK hP hD [0, 1, 2, 3] rfl (ci := 3) (q0 := 0) rfl rfl rfl hl.1 rfl (Nat.le_of_ble_eq_true rfl) dX3_sum_19 ⟨by omega, by omega⟩ (fun r_11 hr_11 => ?_)
  refine lv_topi (fun v_12 ev_12 => ?_)
  obtain rfl : v_12 = (nI (N 4 1 7)) := ev_12.trans hr_11
  exact W.iret (v := (nI (N 4 1 7))) hx hb hr (fun t ht hW => ⟨(nI (N 4 1 7)), rfl, rfl, ht⟩) (fun _ h => by cases h) dX3_sum_22
set_option maxHeartbeats 4000000 in
set_option maxRecDepth 100000 in
theorem c_sumOf_1 (l : Launch) (D : zG) (sz : Nat) (B : qB) (R : qR0) (N : qN0) (hO : qOK B N) (hM : qM N) : Met l yX3_sumOf wsX3_sumOf ({ frames := 2, cells := 0, slots := 0, locals := 45 }) (zPc D (qT B) (qG B R N) sz [.ref (qA B 5 0), .int 1]) (vp_Si (fun r => r = nI (qmx (fun i => N 0 i 9) (N 4 1 5)))) 0 0 (fun _ => False) := by
  refine Met.ofW (cc := cX3_sumOf) (maxL := 2) (ret := (some .int)) (by decide) rfl ?_
  intro p e s m args below meth c s₁ B9 hml hv
  obtain ⟨rfl, hsz, hP, hK, hD0⟩ := hv
  have hx := B9.exec
  have hb := B9.bytes
  have hr := B9.returns
  have hts := atoms_spec (ws := wsX3_sumOf) B9.pre
  have hown : s.vm.findClass RX3 = some m.cls := findClass_of_methodNamed B9.named
  have hlocks := B9.notSynchronized
  subst hsz
  have hD := hD0
  generalize hAe : (fun _ : Nat => True) = A at hD
  have hl := lv_entry ([.ref (qA B 5 0), .int 1]) (n := 2) (Nat.le_of_ble_eq_true rfl)
  rw [lg_entry_eq]
  generalize (lg_sl ([.ref (qA B 5 0), .int 1]) ++ List.replicate (2 - (lg_sl ([.ref (qA B 5 0), .int 1])).length) Slot.unset).toArray = ls at hl ⊢
  have hl : lv_has ls 2 [(0, .ref (qA B 5 0)), (1, .int 1)] := hl
  have hP : va_P D vwCl (qG B R N) s.heap := hP
  generalize hRe : (headSpec _ _).room = R9
  have hRf : R9.frames = 2 := by rw [← hRe]; rfl
  have hRc : R9.cells = 0 := by rw [← hRe]; rfl
  have hRs : R9.slots = 0 := by rw [← hRe]; rfl
  have hRl : R9.locals = 45 := by rw [← hRe]; rfl
  clear hRe
  refine lv_iload_n hx hb dX3_sumOf_0 rfl (lv_at hl 1 rfl) ?_
  refine lv_tableIn (off := 32) (tgt := 33) hx hb dX3_sumOf_1 (by decide) (by decide) (by decide) (by decide) ?_
  refine lv_aload_n hx hb dX3_sumOf_33 rfl (lv_at hl 0 rfl) ?_
  refine zrdV2 (As := []) (rest := []) (wc := qG B R N) ⟨hx, hb, hml, hown, hts⟩ (c_greatestTop l D _ B R N hO hM) (cwV 0 hts gX3_sumOf_X3_greatestTop rfl rfl rfl (by decide +kernel) ⟨by rw [hRf]; exact Nat.le_of_ble_eq_true rfl, by rw [hRl]; exact Nat.le_of_ble_eq_true rfl⟩) hK hP hD [0, 1, 2, 3] rfl (ci := 3) (q0 := 0) rfl rfl rfl hl.1 rfl (Nat.le_of_ble_eq_true rfl) dX3_sumOf_34 ⟨by omega, by omega⟩ (fun r_13 hr_13 => ?_)
  refine lv_topi (fun v_14 ev_14 => ?_)
  obtain rfl : v_14 = (nI (qmx (fun i => N 0 i 9) (N 4 1 5))) := ev_14.trans hr_13
  exact W.iret (v := (nI (qmx (fun i => N 0 i 9) (N 4 1 5)))) hx hb hr (fun t ht hW => ⟨(nI (qmx (fun i => N 0 i 9) (N 4 1 5))), rfl, rfl, ht⟩) (fun _ h => by cases h) dX3_sumOf_37
set_option maxHeartbeats 4000000 in
set_option maxRecDepth 100000 in
theorem c_sum_1 (l : Launch) (D : zG) (sz : Nat) (B : qB) (R : qR0) (N : qN0) (hO : qOK B N) (hM : qM N) : Met l yX3_sum wsX3_sum ({ frames := 3, cells := 0, slots := 0, locals := 75 }) (zPc D (qT B) (qG B R N) sz [.ref (qA B 5 0), .int 1]) (vp_Si (fun r => r = nI (qmx (fun i => N 0 i 9) (N 4 1 5)))) 0 0 (fun _ => False) := by
  refine Met.ofW (cc := cX3_sum) (maxL := 2) (ret := (some .int)) (by decide) rfl ?_
  intro p e s m args below meth c s₁ B9 hml hv
  obtain ⟨rfl, hsz, hP, hK, hD0⟩ := hv
  have hx := B9.exec
  have hb := B9.bytes
  have hr := B9.returns
  have hts := atoms_spec (ws := wsX3_sum) B9.pre
  have hown : s.vm.findClass RX3 = some m.cls := findClass_of_methodNamed B9.named
  have hlocks := B9.notSynchronized
  subst hsz
  have hD := hD0
  generalize hAe : (fun _ : Nat => True) = A at hD
  have hl := lv_entry ([.ref (qA B 5 0), .int 1]) (n := 2) (Nat.le_of_ble_eq_true rfl)
  rw [lg_entry_eq]
  generalize (lg_sl ([.ref (qA B 5 0), .int 1]) ++ List.replicate (2 - (lg_sl ([.ref (qA B 5 0), .int 1])).length) Slot.unset).toArray = ls at hl ⊢
  have hl : lv_has ls 2 [(0, .ref (qA B 5 0)), (1, .int 1)] := hl
  have hP : va_P D vwCl (qG B R N) s.heap := hP
  generalize hRe : (headSpec _ _).room = R9
  have hRf : R9.frames = 3 := by rw [← hRe]; rfl
  have hRc : R9.cells = 0 := by rw [← hRe]; rfl
  have hRs : R9.slots = 0 := by rw [← hRe]; rfl
  have hRl : R9.locals = 75 := by rw [← hRe]; rfl
  clear hRe
  refine lv_iload_n hx hb dX3_sum_0 rfl (lv_at hl 1 rfl) ?_
  refine lv_iconst (v := 0) hx hb dX3_sum_1 (by decide) ?_
  refine lv_iconst (v := 3) hx hb dX3_sum_2 (by decide) ?_
  refine zrdS (As := [.int 1, .int 0, .int 3]) (rest := []) (wc := []) ⟨hx, hb, hml, hown, hts⟩ (c_isWithin l D _ 1 0 3) (va_cwS 3 hts gX3_sum_X3_isWithin rfl rfl rfl (by decide +kernel) ⟨by rw [hRf]; exact Nat.le_of_ble_eq_true rfl, by rw [hRl]; exact Nat.le_of_ble_eq_true rfl⟩) hK hP hD [] rfl (by decide) [] rfl rfl hl.1 rfl (Nat.le_of_ble_eq_true rfl) dX3_sum_3 ⟨by omega, by omega⟩ (fun r_15 hr_15 => ?_)
  refine lv_topi (fun v_16 ev_16 => ?_)
  obtain rfl : v_16 = 1 := ev_16.trans (hr_15.trans (by decide))
  refine lv_if_ne (tgt := 17) hx hb dX3_sum_6 (by decide) (fun c_17 => ?_) (fun c_17 => absurd c_17 (by decide))
  refine lv_aload_n hx hb dX3_sum_17 rfl (lv_at hl 0 rfl) ?_
  refine lv_iload_n hx hb dX3_sum_18 rfl (lv_at hl 1 rfl) ?_
  refine zrdV2 (As := [.int 1]) (rest := []) (wc := qG B R N) ⟨hx, hb, hml, hown, hts⟩ (c_sumOf_1 l D _ B R N hO hM) (cwV 1 hts gX3_sum_X3_sumOf rfl rfl rfl (by decide +kernel) ⟨by rw [hRf]; exact Nat.le_of_ble_eq_true rfl, by rw [hRl]; exact Nat.le_of_ble_eq_true rfl⟩) hK hP hD [0, 1, 2, 3] rfl (ci := 3) (q0 := 0) rfl rfl rfl hl.1 rfl (Nat.le_of_ble_eq_true rfl) dX3_sum_19 ⟨by omega, by omega⟩ (fun r_18 hr_18 => ?_)
  refine lv_topi (fun v_19 ev_19 => ?_)
  obtain rfl : v_19 = (nI (qmx (fun i => N 0 i 9) (N 4 1 5))) := ev_19.trans hr_18
  exact W.iret (v := (nI (qmx (fun i => N 0 i 9) (N 4 1 5)))) hx hb hr (fun t ht hW => ⟨(nI (qmx (fun i => N 0 i 9) (N 4 1 5))), rfl, rfl, ht⟩) (fun _ h => by cases h) dX3_sum_22
set_option maxHeartbeats 4000000 in
set_option maxRecDepth 100000 in
theorem c_at (l : Launch) (D : zG) (sz : Nat) (B : qB) (R : qR0) (N : qN0) (hO : qOK B N) (hM : qM N) (a b c1 t0 : Nat) (ha : a < 12) (hb2 : b < 10) (hc1 : c1 < 40) (ht0 : t0 < N 4 1 5) (h1 : qcov (N 0 t0 6) (N 0 t0 4) (N 0 t0 7) (N 0 t0 5) a b = true) (h2 : N 0 t0 8 ≤ c1) (h3 : c1 < N 0 t0 9) (hno : ∀ k, k < t0 → qcov (N 0 k 6) (N 0 k 4) (N 0 k 7) (N 0 k 5) a b = true → c1 < N 0 k 8 ∨ N 0 k 9 ≤ c1) : Met l yX3_at wsX3_at ({ frames := 2, cells := 0, slots := 0, locals := 45 }) (zPc D (qT B) (qG B R N) sz [.ref (qA B 5 0), .int (nI a), .int (nI b), .int (nI c1)]) (vp_Si (fun r => r = nI t0)) 0 0 (fun _ => False) := by
  refine Met.ofW (cc := cX3_at) (maxL := 6) (ret := (some .int)) (by decide) rfl ?_
  intro p e s m args below meth c s₁ B9 hml hv
  obtain ⟨rfl, hsz, hP, hK, hD0⟩ := hv
  have hx := B9.exec
  have hb := B9.bytes
  have hr := B9.returns
  have hts := atoms_spec (ws := wsX3_at) B9.pre
  have hown : s.vm.findClass RX3 = some m.cls := findClass_of_methodNamed B9.named
  have hlocks := B9.notSynchronized
  subst hsz
  have hD := hD0
  generalize hAe : (fun _ : Nat => True) = A at hD
  have hl := lv_entry ([.ref (qA B 5 0), .int (nI a), .int (nI b), .int (nI c1)]) (n := 6) (Nat.le_of_ble_eq_true rfl)
  rw [lg_entry_eq]
  generalize (lg_sl ([.ref (qA B 5 0), .int (nI a), .int (nI b), .int (nI c1)]) ++ List.replicate (6 - (lg_sl ([.ref (qA B 5 0), .int (nI a), .int (nI b), .int (nI c1)])).length) Slot.unset).toArray = ls at hl ⊢
  have hl : lv_has ls 6 [(0, .ref (qA B 5 0)), (1, .int (nI a)), (2, .int (nI b)), (3, .int (nI c1))] := hl
  have hP : va_P D vwCl (qG B R N) s.heap := hP
  generalize hRe : (headSpec _ _).room = R9
  have hRf : R9.frames = 2 := by rw [← hRe]; rfl
  have hRc : R9.cells = 0 := by rw [← hRe]; rfl
  have hRs : R9.slots = 0 := by rw [← hRe]; rfl
  have hRl : R9.locals = 45 := by rw [← hRe]; rfl
  clear hRe
  have o8 := hO.2.2.2.2.2.2.2.1
  refine lv_iload_n hx hb dX3_at_0 rfl (lv_at hl 1 rfl) ?_
  refine lv_iload_n hx hb dX3_at_1 rfl (lv_at hl 2 rfl) ?_
  refine zrdS (As := [.int (nI a), .int (nI b)]) (rest := []) (wc := []) ⟨hx, hb, hml, hown, hts⟩ (c_isCell l D _ (nI a) (nI b)) (va_cwS 2 hts gX3_at_X3_isCell rfl rfl rfl (by decide +kernel) ⟨by rw [hRf]; exact Nat.le_of_ble_eq_true rfl, by rw [hRl]; exact Nat.le_of_ble_eq_true rfl⟩) hK hP hD [] rfl (by decide) [] rfl rfl hl.1 rfl (Nat.le_of_ble_eq_true rfl) dX3_at_2 ⟨by omega, by omega⟩ (fun r_20 hr_20 => ?_)
  refine lv_topi (fun v_21 ev_21 => ?_)
  obtain rfl : v_21 = 1 := ev_21.trans (hr_20.trans (if_pos ⟨⟨nI_pos' (by omega), (nI_leI (b := 11) (by omega) (by decide)).mpr (by omega)⟩, nI_pos' (by omega), (nI_leI (b := 9) (by omega) (by decide)).mpr (by omega)⟩))
  refine lv_if_eq (tgt := 18) hx hb dX3_at_5 (by decide) (fun c_22 => absurd c_22 (by decide)) (fun c_22 => ?_)
  refine lv_iload_n hx hb dX3_at_8 rfl (lv_at hl 3 rfl) ?_
  refine lv_iconst (v := 0) hx hb dX3_at_9 (by decide) ?_
  refine lv_bipush (v := 39) hx hb dX3_at_10 (by decide) ?_
  refine zrdS (As := [.int (nI c1), .int 0, .int 39]) (rest := []) (wc := []) ⟨hx, hb, hml, hown, hts⟩ (c_isWithin l D _ (nI c1) 0 39) (va_cwS 3 hts gX3_at_X3_isWithin rfl rfl rfl (by decide +kernel) ⟨by rw [hRf]; exact Nat.le_of_ble_eq_true rfl, by rw [hRl]; exact Nat.le_of_ble_eq_true rfl⟩) hK hP hD [] rfl (by decide) [] rfl rfl hl.1 rfl (Nat.le_of_ble_eq_true rfl) dX3_at_12 ⟨by omega, by omega⟩ (fun r_23 hr_23 => ?_)
  refine lv_topi (fun v_24 ev_24 => ?_)
  obtain rfl : v_24 = 1 := ev_24.trans (hr_23.trans (if_pos ⟨nI_pos' (by omega), (nI_leI (b := 39) (by omega) (by decide)).mpr (by omega)⟩))
  refine lv_if_ne (tgt := 26) hx hb dX3_at_15 (by decide) (fun c_25 => ?_) (fun c_25 => absurd c_25 (by decide))
  refine lv_iconst (v := 0) hx hb dX3_at_26 (by decide) ?_
  refine lv_istore (lv' := [(4, .int 0), (0, .ref (qA B 5 0)), (1, .int (nI a)), (2, .int (nI b)), (3, .int (nI c1))]) hx hb dX3_at_27 hl (by decide) rfl (fun ls hl => ?_)
  have hl := lv_sub hl (l' := [(4, .int 0), (3, .int (nI c1)), (2, .int (nI b)), (1, .int (nI a)), (0, .ref (qA B 5 0))]) [0, 4, 3, 2, 1] rfl
  generalize hQe : MQ _ _ _ _ _ _ _ = Q
  have loop : ∀ (k i : Nat), i + k = t0 → ∀ (ls : Array Slot), lv_has ls 6 [(4, .int (nI i)), (3, .int (nI c1)), (2, .int (nI b)), (1, .int (nI a)), (0, .ref (qA B 5 0))] → W p l e R9 s m ([.ref (qA B 5 0), .int (nI a), .int (nI b), .int (nI c1)] : List Value).toArray below meth c s.heap [] 0 0 Q (F0 m 29 ls []) := by
    intro k
    induction k with
    | zero =>
      intro i hi ls hl
      obtain rfl : t0 = i := by omega
      have b8 := hM 0 t0 8
      have b9 := hM 0 t0 9
      refine lv_iload hx hb dX3_at_29 (lv_at hl 0 rfl) ?_
      refine lv_aload_n hx hb dX3_at_31 rfl (lv_at hl 4 rfl) ?_
      refine va_get (D := D) (ci := 3) (v := .int (nI (N 4 1 5))) (C := RX3) (T := TX3) (N := 14) hx hb hts (fun _ h9 => List.mem_cons_of_mem _ (List.mem_append_left _ (List.mem_append_left _ (List.mem_append_right _ h9)))) hown hK hP 0 rfl rfl 7 (by decide) (hts (.fieldLink RX3 38 "PalletStack" "cameCount" "I") (List.mem_of_getElem? (i := 3) (by rfl))) (fun _ h9 => h9) rfl dX3_at_32 ?_
      refine lv_icmp_ge (tgt := 88) hx hb dX3_at_35 (by decide) (fun c_26 => absurd c_26 (nI_ge (by omega) (by omega))) (fun c_26 => ?_)
      refine lv_aload_n hx hb dX3_at_38 rfl (lv_at hl 4 rfl) ?_
      refine lv_iload hx hb dX3_at_39 (lv_at hl 0 rfl) ?_
      refine zrdVq2 (As := [.int (nI t0)]) (rest := []) (wc := qG B R N) ⟨hx, hb, hml, hown, hts⟩ (c_itemOf l D _ B R N t0 (by omega) hO) (cwV 1 hts gX3_at_X3_itemOf rfl rfl rfl (by decide +kernel) ⟨by rw [hRf]; exact Nat.le_of_ble_eq_true rfl, by rw [hRl]; exact Nat.le_of_ble_eq_true rfl⟩) hK hP hD [0, 1, 2, 3] rfl (ci := 3) (q0 := 0) rfl rfl rfl hl.1 rfl (Nat.le_of_ble_eq_true rfl) dX3_at_41 ⟨by omega, by omega⟩ (fun r_27 hr_27 => ?_)
      refine W.eq (g2 := F0 m 44 ls [.ref (qA B 0 t0)]) (by rw [hr_27]; rfl) ?_
      refine lv_astore (lv' := [(5, .ref (qA B 0 t0)), (4, .int (nI t0)), (3, .int (nI c1)), (2, .int (nI b)), (1, .int (nI a)), (0, .ref (qA B 5 0))]) hx hb dX3_at_44 hl (by decide) rfl (fun ls hl => ?_)
      refine lv_aload hx hb dX3_at_46 (lv_at hl 0 rfl) ?_
      refine lv_ifnull hx hb dX3_at_48 ?_
      refine lv_aload hx hb dX3_at_51 (lv_at hl 0 rfl) ?_
      refine lv_iload_n hx hb dX3_at_53 rfl (lv_at hl 4 rfl) ?_
      refine lv_iload_n hx hb dX3_at_54 rfl (lv_at hl 3 rfl) ?_
      refine zrdV2 (As := [.int (nI a), .int (nI b)]) (rest := []) (wc := qG B R N) ⟨hx, hb, hml, hown, hts⟩ (c_covers l D _ B R N t0 a b (by omega) hM (by omega) (by omega)) (cwV 2 hts gX3_at_X0_covers rfl rfl rfl (by decide +kernel) ⟨by rw [hRf]; exact Nat.le_of_ble_eq_true rfl, by rw [hRl]; exact Nat.le_of_ble_eq_true rfl⟩) hK hP hD [0, 1, 2, 3] rfl (ci := 0) (q0 := (5 + t0)) rfl (qG_i (by omega)) rfl hl.1 rfl (Nat.le_of_ble_eq_true rfl) dX3_at_55 ⟨by omega, by omega⟩ (fun r_29 hr_29 => ?_)
      refine lv_topi (fun v_30 ev_30 => ?_)
      obtain rfl : v_30 = 1 := ev_30.trans (hr_29.trans (if_pos h1))
      refine lv_if_eq (tgt := 82) hx hb dX3_at_58 (by decide) (fun c_31 => absurd c_31 (by decide)) (fun c_31 => ?_)
      refine lv_aload hx hb dX3_at_61 (lv_at hl 0 rfl) ?_
      refine va_get (D := D) (ci := 0) (v := .int (nI (N 0 t0 8))) (C := RX0) (T := TX0) (N := 18) hx hb hts (fun _ h9 => List.mem_cons_of_mem _ (List.mem_append_left _ (List.mem_append_right _ h9))) hown hK hP (5 + t0) (qG_i (by omega)) rfl 8 (by decide) (hts (.fieldLink RX3 131 "PalletStack$Item" "bottom" "I") (List.mem_of_getElem? (i := 4) (by rfl))) (fun _ h9 => h9) rfl dX3_at_63 ?_
      refine lv_iload_n hx hb dX3_at_66 rfl (lv_at hl 2 rfl) ?_
      refine lv_icmp_gt (tgt := 82) hx hb dX3_at_67 (by decide) (fun c_32 => absurd c_32 (nI_nlt (by omega) (by omega))) (fun c_32 => ?_)
      refine lv_iload_n hx hb dX3_at_70 rfl (lv_at hl 2 rfl) ?_
      refine lv_aload hx hb dX3_at_71 (lv_at hl 0 rfl) ?_
      refine va_get (D := D) (ci := 0) (v := .int (nI (N 0 t0 9))) (C := RX0) (T := TX0) (N := 18) hx hb hts (fun _ h9 => List.mem_cons_of_mem _ (List.mem_append_left _ (List.mem_append_right _ h9))) hown hK hP (5 + t0) (qG_i (by omega)) rfl 9 (by decide) (hts (.fieldLink RX3 134 "PalletStack$Item" "top" "I") (List.mem_of_getElem? (i := 5) (by rfl))) (fun _ h9 => h9) rfl dX3_at_73 ?_
      refine lv_icmp_ge (tgt := 82) hx hb dX3_at_76 (by decide) (fun c_33 => absurd c_33 (nI_ge (by omega) (by omega))) (fun c_33 => ?_)
      refine lv_iload hx hb dX3_at_79 (lv_at hl 1 rfl) ?_
      rw [← hQe]
      exact W.iret (v := (nI t0)) hx hb hr (fun t ht hW => ⟨(nI t0), rfl, rfl, ht⟩) (fun _ h => by cases h) dX3_at_81
    | succ k ih =>
      intro i hi ls hl
      have b8 := hM 0 i 8
      have b9 := hM 0 i 9
      have hno := hno i (by omega)
      refine lv_iload hx hb dX3_at_29 (lv_at hl 0 rfl) ?_
      refine lv_aload_n hx hb dX3_at_31 rfl (lv_at hl 4 rfl) ?_
      refine va_get (D := D) (ci := 3) (v := .int (nI (N 4 1 5))) (C := RX3) (T := TX3) (N := 14) hx hb hts (fun _ h9 => List.mem_cons_of_mem _ (List.mem_append_left _ (List.mem_append_left _ (List.mem_append_right _ h9)))) hown hK hP 0 rfl rfl 7 (by decide) (hts (.fieldLink RX3 38 "PalletStack" "cameCount" "I") (List.mem_of_getElem? (i := 3) (by rfl))) (fun _ h9 => h9) rfl dX3_at_32 ?_
      refine lv_icmp_ge (tgt := 88) hx hb dX3_at_35 (by decide) (fun c_34 => absurd c_34 (nI_ge (by omega) (by omega))) (fun c_34 => ?_)
      refine lv_aload_n hx hb dX3_at_38 rfl (lv_at hl 4 rfl) ?_
      refine lv_iload hx hb dX3_at_39 (lv_at hl 0 rfl) ?_
      refine zrdVq2 (As := [.int (nI i)]) (rest := []) (wc := qG B R N) ⟨hx, hb, hml, hown, hts⟩ (c_itemOf l D _ B R N i (by omega) hO) (cwV 1 hts gX3_at_X3_itemOf rfl rfl rfl (by decide +kernel) ⟨by rw [hRf]; exact Nat.le_of_ble_eq_true rfl, by rw [hRl]; exact Nat.le_of_ble_eq_true rfl⟩) hK hP hD [0, 1, 2, 3] rfl (ci := 3) (q0 := 0) rfl rfl rfl hl.1 rfl (Nat.le_of_ble_eq_true rfl) dX3_at_41 ⟨by omega, by omega⟩ (fun r_35 hr_35 => ?_)
      refine W.eq (g2 := F0 m 44 ls [.ref (qA B 0 i)]) (by rw [hr_35]; rfl) ?_
      refine lv_astore (lv' := [(5, .ref (qA B 0 i)), (4, .int (nI i)), (3, .int (nI c1)), (2, .int (nI b)), (1, .int (nI a)), (0, .ref (qA B 5 0))]) hx hb dX3_at_44 hl (by decide) rfl (fun ls hl => ?_)
      refine lv_aload hx hb dX3_at_46 (lv_at hl 0 rfl) ?_
      refine lv_ifnull hx hb dX3_at_48 ?_
      refine lv_aload hx hb dX3_at_51 (lv_at hl 0 rfl) ?_
      refine lv_iload_n hx hb dX3_at_53 rfl (lv_at hl 4 rfl) ?_
      refine lv_iload_n hx hb dX3_at_54 rfl (lv_at hl 3 rfl) ?_
      refine zrdV2 (As := [.int (nI a), .int (nI b)]) (rest := []) (wc := qG B R N) ⟨hx, hb, hml, hown, hts⟩ (c_covers l D _ B R N i a b (by omega) hM (by omega) (by omega)) (cwV 2 hts gX3_at_X0_covers rfl rfl rfl (by decide +kernel) ⟨by rw [hRf]; exact Nat.le_of_ble_eq_true rfl, by rw [hRl]; exact Nat.le_of_ble_eq_true rfl⟩) hK hP hD [0, 1, 2, 3] rfl (ci := 0) (q0 := (5 + i)) rfl (qG_i (by omega)) rfl hl.1 rfl (Nat.le_of_ble_eq_true rfl) dX3_at_55 ⟨by omega, by omega⟩ (fun r_37 hr_37 => ?_)
      refine lv_if_eq (tgt := 82) hx hb dX3_at_58 (by decide) (fun c_38 => ?_) (fun c_38 => ?_)
      · have h_b := True.intro
        have k_39 : ¬ (qcov (N 0 i 6) (N 0 i 4) (N 0 i 7) (N 0 i 5) a b = true) := fun h9 => absurd ((hr_37.trans (if_pos h9)).symm.trans c_38) (by decide)
        refine lv_iinc (v := (nI (i + 1))) (lv' := [(4, .int (nI (i + 1))), (5, .ref (qA B 0 i)), (3, .int (nI c1)), (2, .int (nI b)), (1, .int (nI a)), (0, .ref (qA B 5 0))]) hx hb dX3_at_82 hl (k := 1) rfl (nI_1 i) (by decide) rfl (fun ls hl => ?_)
        refine lv_goto (tgt := 29) hx hb dX3_at_85 (by decide) ?_
        have hl := lv_sub hl (l' := [(4, .int (nI (i + 1))), (3, .int (nI c1)), (2, .int (nI b)), (1, .int (nI a)), (0, .ref (qA B 5 0))]) [0, 2, 3, 4, 5] rfl
        exact ih (i + 1) (by omega) ls hl
      · have h_b := True.intro
        have k_40 : qcov (N 0 i 6) (N 0 i 4) (N 0 i 7) (N 0 i 5) a b = true := Decidable.byContradiction fun h9 => absurd (hr_37.trans (if_neg h9)) c_38
        have hno := hno k_40
        refine lv_aload hx hb dX3_at_61 (lv_at hl 0 rfl) ?_
        refine va_get (D := D) (ci := 0) (v := .int (nI (N 0 i 8))) (C := RX0) (T := TX0) (N := 18) hx hb hts (fun _ h9 => List.mem_cons_of_mem _ (List.mem_append_left _ (List.mem_append_right _ h9))) hown hK hP (5 + i) (qG_i (by omega)) rfl 8 (by decide) (hts (.fieldLink RX3 131 "PalletStack$Item" "bottom" "I") (List.mem_of_getElem? (i := 4) (by rfl))) (fun _ h9 => h9) rfl dX3_at_63 ?_
        refine lv_iload_n hx hb dX3_at_66 rfl (lv_at hl 2 rfl) ?_
        refine lv_icmp_gt (tgt := 82) hx hb dX3_at_67 (by decide) (fun c_41 => ?_) (fun c_41 => ?_)
        · have h_b := True.intro
          have k_42 : c1 < (N 0 i 8) := (nI_ltI (a := c1) (b := (N 0 i 8)) (by omega) (by omega)).mp c_41
          refine lv_iinc (v := (nI (i + 1))) (lv' := [(4, .int (nI (i + 1))), (5, .ref (qA B 0 i)), (3, .int (nI c1)), (2, .int (nI b)), (1, .int (nI a)), (0, .ref (qA B 5 0))]) hx hb dX3_at_82 hl (k := 1) rfl (nI_1 i) (by decide) rfl (fun ls hl => ?_)
          refine lv_goto (tgt := 29) hx hb dX3_at_85 (by decide) ?_
          have hl := lv_sub hl (l' := [(4, .int (nI (i + 1))), (3, .int (nI c1)), (2, .int (nI b)), (1, .int (nI a)), (0, .ref (qA B 5 0))]) [0, 2, 3, 4, 5] rfl
          exact ih (i + 1) (by omega) ls hl
        · have h_b := True.intro
          have k_43 : ¬ (c1 < (N 0 i 8)) := fun h9 => c_41 ((nI_ltI (a := c1) (b := (N 0 i 8)) (by omega) (by omega)).mpr h9)
          refine lv_iload_n hx hb dX3_at_70 rfl (lv_at hl 2 rfl) ?_
          refine lv_aload hx hb dX3_at_71 (lv_at hl 0 rfl) ?_
          refine va_get (D := D) (ci := 0) (v := .int (nI (N 0 i 9))) (C := RX0) (T := TX0) (N := 18) hx hb hts (fun _ h9 => List.mem_cons_of_mem _ (List.mem_append_left _ (List.mem_append_right _ h9))) hown hK hP (5 + i) (qG_i (by omega)) rfl 9 (by decide) (hts (.fieldLink RX3 134 "PalletStack$Item" "top" "I") (List.mem_of_getElem? (i := 5) (by rfl))) (fun _ h9 => h9) rfl dX3_at_73 ?_
          refine lv_icmp_ge (tgt := 82) hx hb dX3_at_76 (by decide) (fun c_44 => ?_) (fun c_44 => ?_)
          · have h_b := True.intro
            have k_45 : (N 0 i 9) ≤ c1 := (nI_leI (a := (N 0 i 9)) (b := c1) (by omega) (by omega)).mp c_44
            refine lv_iinc (v := (nI (i + 1))) (lv' := [(4, .int (nI (i + 1))), (5, .ref (qA B 0 i)), (3, .int (nI c1)), (2, .int (nI b)), (1, .int (nI a)), (0, .ref (qA B 5 0))]) hx hb dX3_at_82 hl (k := 1) rfl (nI_1 i) (by decide) rfl (fun ls hl => ?_)
            refine lv_goto (tgt := 29) hx hb dX3_at_85 (by decide) ?_
            have hl := lv_sub hl (l' := [(4, .int (nI (i + 1))), (3, .int (nI c1)), (2, .int (nI b)), (1, .int (nI a)), (0, .ref (qA B 5 0))]) [0, 2, 3, 4, 5] rfl
            exact ih (i + 1) (by omega) ls hl
          · have h_b := True.intro
            have k_46 : ¬ ((N 0 i 9) ≤ c1) := fun h9 => c_44 ((nI_leI (a := (N 0 i 9)) (b := c1) (by omega) (by omega)).mpr h9)
            omega
  exact loop t0 0 (by omega) ls hl
set_option maxHeartbeats 4000000 in
set_option maxRecDepth 100000 in
theorem c_forget (l : Launch) (D : zG) (sz : Nat) (B : qB) (R : qR0) (N : qN0) (hO : qOK B N) : Met l yX3_forgetNextLoads wsX3_forgetNextLoads ({ frames := 1, cells := 0, slots := 0, locals := 22 }) (zPc D (qT B) (qG B R N) sz [.ref (qA B 5 0)]) (va_Qv (fun (u : qN0) => u = qz N (N 4 1 5)) (zB D (va_A (qG B R N) sz) (fun _ => []) 0 (fun u => qG B R u)) (va_A (qG B R N) sz)) 0 0 (va_A (qG B R N) sz) := by
  refine Met.ofW (cc := cX3_forgetNextLoads) (maxL := 3) (ret := none) (by decide) rfl ?_
  intro p e s m args below meth c s₁ B9 hml hv
  obtain ⟨rfl, hsz, hP, hK, hD0⟩ := hv
  have hx := B9.exec
  have hb := B9.bytes
  have hr := B9.returns
  have hts := atoms_spec (ws := wsX3_forgetNextLoads) B9.pre
  have hown : s.vm.findClass RX3 = some m.cls := findClass_of_methodNamed B9.named
  have hlocks := B9.notSynchronized
  subst hsz
  have hD := hD0.self (sz := s.heap.size)
  generalize hAe : va_A (qG B R N) s.heap.size = A at hD ⊢
  have hA : ∀ q : Nat, s.heap.size ≤ q → A q := fun q h => by rw [← hAe]; exact Or.inr h
  have hS : va_S A s.heap s.heap [] := va_S.rf
  have hl := lv_entry ([.ref (qA B 5 0)]) (n := 3) (Nat.le_of_ble_eq_true rfl)
  rw [lg_entry_eq]
  generalize (lg_sl ([.ref (qA B 5 0)]) ++ List.replicate (3 - (lg_sl ([.ref (qA B 5 0)])).length) Slot.unset).toArray = ls at hl ⊢
  have hl : lv_has ls 3 [(0, .ref (qA B 5 0))] := hl
  have hP : va_P D vwCl (qG B R N) s.heap := hP
  generalize hRe : (headSpec _ _).room = R9
  have hRf : R9.frames = 1 := by rw [← hRe]; rfl
  have hRc : R9.cells = 0 := by rw [← hRe]; rfl
  have hRs : R9.slots = 0 := by rw [← hRe]; rfl
  have hRl : R9.locals = 22 := by rw [← hRe]; rfl
  clear hRe
  have o8 := hO.2.2.2.2.2.2.2.1
  refine lv_iconst (v := 0) hx hb dX3_forgetNextLoads_0 (by decide) ?_
  refine lv_istore_n (lv' := [(1, .int 0), (0, .ref (qA B 5 0))]) hx hb dX3_forgetNextLoads_1 rfl hl (by decide) rfl (fun ls hl => ?_)
  generalize hQe : MQ _ _ _ _ _ _ _ = Q
  have loop : ∀ (k i : Nat), i + k = N 4 1 5 → ∀ (N1 : qN0) (hN : N1 = qz N i) (H : Heap) (locs : List Loc) (ls : Array Slot), va_P D vwCl (qG B R N1) H → va_D A (qG B R N1) → va_S A s.heap H locs → lv_has ls 3 [(1, .int (nI i)), (0, .ref (qA B 5 0))] → W p l e R9 s m ([.ref (qA B 5 0)] : List Value).toArray below meth c H locs 0 0 Q (F0 m 2 ls []) := by
    intro k
    induction k with
    | zero =>
      intro i hi N1 hN H locs ls hP hD hS hl
      have e5 : N1 4 1 5 = N 4 1 5 := by rw [hN]; exact qz_ne _ _ (by omega)
      have hO1 : qOK B N1 := qOKs hO (fun j _ _ => by rw [hN]; exact qz_ne _ _ (by omega)) (fun j _ => by rw [hN]; exact qz_ne _ _ (by omega))
      obtain rfl : N 4 1 5 = i := by omega
      have hP : va_P D vwCl (qG B R N1) H := hP
      have hD : va_D A (qG B R N1) := hD
      refine lv_iload_n hx hb dX3_forgetNextLoads_2 rfl (lv_at hl 0 rfl) ?_
      refine lv_aload_n hx hb dX3_forgetNextLoads_3 rfl (lv_at hl 1 rfl) ?_
      refine va_get (D := D) (ci := 3) (v := .int (nI (N1 4 1 5))) (C := RX3) (T := TX3) (N := 14) hx hb hts (fun _ h9 => List.mem_cons_of_mem _ (List.mem_append_left _ (List.mem_append_right _ h9))) hown hK hP 0 rfl rfl 7 (by decide) (hts (.fieldLink RX3 38 "PalletStack" "cameCount" "I") (List.mem_of_getElem? (i := 1) (by rfl))) (fun _ h9 => h9) rfl dX3_forgetNextLoads_4 ?_
      refine lv_topi (fun v_47 ev_47 => ?_)
      obtain rfl : v_47 = (nI (N 4 1 5)) := ev_47.trans (by rw [e5])
      refine lv_icmp_ge (tgt := 31) hx hb dX3_forgetNextLoads_7 (by decide) (fun c_48 => ?_) (fun c_48 => absurd (Int32.le_refl _) c_48)
      rw [← hQe]
      exact W.vret hx hb hr (fun t ht hW => ⟨⟨N1, rfl, hN, ⟨Nat.zero_le _, by rw [ht]; exact hP, va_K.moved hW.alike (hK.sub (tys' := []) [] rfl), hD⟩⟩, hS.F ht⟩) hS.2.2 dX3_forgetNextLoads_31
    | succ k ih =>
      intro i hi N1 hN H locs ls hP hD hS hl
      have e5 : N1 4 1 5 = N 4 1 5 := by rw [hN]; exact qz_ne _ _ (by omega)
      have hO1 : qOK B N1 := qOKs hO (fun j _ _ => by rw [hN]; exact qz_ne _ _ (by omega)) (fun j _ => by rw [hN]; exact qz_ne _ _ (by omega))
      have hP : va_P D vwCl (qG B R N1) H := hP
      have hD : va_D A (qG B R N1) := hD
      refine lv_iload_n hx hb dX3_forgetNextLoads_2 rfl (lv_at hl 0 rfl) ?_
      refine lv_aload_n hx hb dX3_forgetNextLoads_3 rfl (lv_at hl 1 rfl) ?_
      refine va_get (D := D) (ci := 3) (v := .int (nI (N1 4 1 5))) (C := RX3) (T := TX3) (N := 14) hx hb hts (fun _ h9 => List.mem_cons_of_mem _ (List.mem_append_left _ (List.mem_append_right _ h9))) hown hK hP 0 rfl rfl 7 (by decide) (hts (.fieldLink RX3 38 "PalletStack" "cameCount" "I") (List.mem_of_getElem? (i := 1) (by rfl))) (fun _ h9 => h9) rfl dX3_forgetNextLoads_4 ?_
      refine lv_topi (fun v_49 ev_49 => ?_)
      obtain rfl : v_49 = (nI (N 4 1 5)) := ev_49.trans (by rw [e5])
      refine lv_icmp_ge (tgt := 31) hx hb dX3_forgetNextLoads_7 (by decide) (fun c_50 => absurd c_50 (nI_ge (by omega) (by omega))) (fun c_50 => ?_)
      refine lv_aload_n hx hb dX3_forgetNextLoads_10 rfl (lv_at hl 1 rfl) ?_
      refine lv_iload_n hx hb dX3_forgetNextLoads_11 rfl (lv_at hl 0 rfl) ?_
      refine zrdVq2 (As := [.int (nI i)]) (rest := []) (wc := qG B R N1) ⟨hx, hb, hml, hown, hts⟩ (c_itemOf l D _ B R N1 i (by omega) hO1) (cwV 1 hts gX3_forgetNextLoads_X3_itemOf rfl rfl rfl (by decide +kernel) ⟨by rw [hRf]; exact Nat.le_of_ble_eq_true rfl, by rw [hRl]; exact Nat.le_of_ble_eq_true rfl⟩) hK hP hD [0, 1, 2, 3] rfl (ci := 3) (q0 := 0) rfl rfl rfl hl.1 rfl (Nat.le_of_ble_eq_true rfl) dX3_forgetNextLoads_12 ⟨by omega, by omega⟩ (fun r_51 hr_51 => ?_)
      refine W.eq (g2 := F0 m 15 ls [.ref (qA B 0 i)]) (by rw [hr_51]; rfl) ?_
      refine lv_astore_n (lv' := [(2, .ref (qA B 0 i)), (1, .int (nI i)), (0, .ref (qA B 5 0))]) hx hb dX3_forgetNextLoads_15 rfl hl (by decide) rfl (fun ls hl => ?_)
      refine lv_aload_n hx hb dX3_forgetNextLoads_16 rfl (lv_at hl 0 rfl) ?_
      refine lv_ifnull hx hb dX3_forgetNextLoads_17 ?_
      refine lv_aload_n hx hb dX3_forgetNextLoads_20 rfl (lv_at hl 0 rfl) ?_
      refine lv_iconst (v := 0) hx hb dX3_forgetNextLoads_21 (by decide) ?_
      refine va_put (D := D) (ci := 0) (v := .int (nI 0)) (ty := .int) (C := RX0) (T := TX0) (N := 18) hx hb hts (fun _ h9 => List.mem_cons_of_mem _ (List.mem_append_right _ h9)) tyX0 tyX0_ok nmX0 hown hK hP hD hS (5 + i) (qG_i (by omega)) rfl 12 (by decide) (hts (.fieldLink RX3 233 "PalletStack$Item" "nextLoad" "I") (List.mem_of_getElem? (i := 2) (by rfl))) (fun _ h9 => h9) rfl (by decide +kernel) rfl rfl (Nat.le_of_ble_eq_true rfl) dX3_forgetNextLoads_22 (fun H locs hP hD hS => ?_)
      rw [qG_pi (by omega) (by decide)] at hP hD
      obtain ⟨N_53, hN_53⟩ : ∃ z : qN0, z = qp N1 0 i 12 0 := ⟨_, rfl⟩
      rw [← hN_53] at hP hD
      have hP : va_P D vwCl (qG B R N_53) H := hP
      have hD : va_D A (qG B R N_53) := hD
      refine lv_iinc (v := (nI (i + 1))) (lv' := [(1, .int (nI (i + 1))), (2, .ref (qA B 0 i)), (0, .ref (qA B 5 0))]) hx hb dX3_forgetNextLoads_25 hl (k := 1) rfl (nI_1 i) (by decide) rfl (fun ls hl => ?_)
      refine lv_goto (tgt := 2) hx hb dX3_forgetNextLoads_28 (by decide) ?_
      have hl := lv_sub hl (l' := [(1, .int (nI (i + 1))), (0, .ref (qA B 5 0))]) [0, 2] rfl
      exact ih (i + 1) (by omega) _ (by rw [hN_53, hN]; exact qz_1 N i) H locs ls hP hD hS hl
  exact loop (N 4 1 5) 0 (by omega) N (qz_0 N).symm s.heap [] ls hP hD hS hl
set_option maxHeartbeats 4000000 in
set_option maxRecDepth 100000 in
theorem c_pass (l : Launch) (D : zG) (sz : Nat) (B : qB) (R : qR0) (N : qN0) (i : Nat) (hi : i < 61) (S : Nat → Nat) (hS9 : ∀ j, j < N 0 i 15 → R i j = some (qA B 0 (S j)) ∧ S j < 61 ∧ S j ≠ i ∧ N 1 i j ≤ 36) (hm : N 0 i 15 ≤ 36) (hg : 0 < N 0 i 10) (hM : qM N) (hw : N 0 i 1 ≤ 1000) : Met l yX0_passLoadDown wsX0_passLoadDown ({ frames := 0, cells := 0, slots := 0, locals := 0 }) (zPc D (qT B) (qG B R N) sz [.ref (qA B 0 i)]) (va_Qv (fun (u : qN0) => u = qcol N (qPs S (N 1 i) (N 0 i 1 + N 0 i 12) (N 0 i 10) (fun k => N 0 k 12) (N 0 i 15))) (zB D (va_A (qG B R N) sz) (fun _ => []) 0 (fun u => qG B R u)) (va_A (qG B R N) sz)) 0 0 (va_A (qG B R N) sz) := by
  refine Met.ofW (cc := cX0_passLoadDown) (maxL := 3) (ret := none) (by decide) rfl ?_
  intro p e s m args below meth c s₁ B9 hml hv
  obtain ⟨rfl, hsz, hP, hK, hD0⟩ := hv
  have hx := B9.exec
  have hb := B9.bytes
  have hr := B9.returns
  have hts := atoms_spec (ws := wsX0_passLoadDown) B9.pre
  have hown : s.vm.findClass RX0 = some m.cls := findClass_of_methodNamed B9.named
  have hlocks := B9.notSynchronized
  subst hsz
  have hD := hD0.self (sz := s.heap.size)
  generalize hAe : va_A (qG B R N) s.heap.size = A at hD ⊢
  have hA : ∀ q : Nat, s.heap.size ≤ q → A q := fun q h => by rw [← hAe]; exact Or.inr h
  have hS : va_S A s.heap s.heap [] := va_S.rf
  have hl := lv_entry ([.ref (qA B 0 i)]) (n := 3) (Nat.le_of_ble_eq_true rfl)
  rw [lg_entry_eq]
  generalize (lg_sl ([.ref (qA B 0 i)]) ++ List.replicate (3 - (lg_sl ([.ref (qA B 0 i)])).length) Slot.unset).toArray = ls at hl ⊢
  have hl : lv_has ls 3 [(0, .ref (qA B 0 i))] := hl
  have hP : va_P D vwCl (qG B R N) s.heap := hP
  generalize hRe : (headSpec _ _).room = R9
  have hRf : R9.frames = 0 := by rw [← hRe]; rfl
  have hRc : R9.cells = 0 := by rw [← hRe]; rfl
  have hRs : R9.slots = 0 := by rw [← hRe]; rfl
  have hRl : R9.locals = 0 := by rw [← hRe]; rfl
  clear hRe
  refine lv_iconst (v := 0) hx hb dX0_passLoadDown_0 (by decide) ?_
  refine lv_istore_n (lv' := [(1, .int 0), (0, .ref (qA B 0 i))]) hx hb dX0_passLoadDown_1 rfl hl (by decide) rfl (fun ls hl => ?_)
  generalize hQe : MQ _ _ _ _ _ _ _ = Q
  have b12 := hM 0 i 12
  have b10 := hM 0 i 10
  have hq : ∀ j, j < N 0 i 15 → (N 0 i 1 + N 0 i 12) * N 1 i j ≤ 1001000 * 36 := fun j hj => Nat.mul_le_mul (by omega) (hS9 j hj).2.2.2
  have hbd : ∀ j, j ≤ N 0 i 15 → ∀ k, qPs S (N 1 i) (N 0 i 1 + N 0 i 12) (N 0 i 10) (fun k => N 0 k 12) j k ≤ 1000000 + j * (1001000 * 36) := fun j hj k => qPs_bd (fun k => hM 0 k 12) (fun j9 h9 => Nat.le_trans (Nat.div_le_self _ _) (hq j9 (by omega)))
  have loop : ∀ (k j : Nat), j + k = N 0 i 15 → ∀ (N1 : qN0) (hN : N1 = qcol N (qPs S (N 1 i) (N 0 i 1 + N 0 i 12) (N 0 i 10) (fun k => N 0 k 12) j)) (H : Heap) (locs : List Loc) (ls : Array Slot), va_P D vwCl (qG B R N1) H → va_D A (qG B R N1) → va_S A s.heap H locs → lv_has ls 3 [(1, .int (nI j)), (0, .ref (qA B 0 i))] → W p l e R9 s m ([.ref (qA B 0 i)] : List Value).toArray below meth c H locs 0 0 Q (F0 m 2 ls []) := by
    intro k
    induction k with
    | zero =>
      intro j hj N1 hN H locs ls hP hD hS hl
      have ne : ∀ c i j, c ≠ 0 ∨ j ≠ 12 → N1 c i j = N c i j := fun c i j h => by rw [hN]; exact qcol_ne _ _ h
      obtain rfl : N 0 i 15 = j := by omega
      have hP : va_P D vwCl (qG B R N1) H := hP
      have hD : va_D A (qG B R N1) := hD
      refine lv_iload_n hx hb dX0_passLoadDown_2 rfl (lv_at hl 0 rfl) ?_
      refine lv_aload_n hx hb dX0_passLoadDown_3 rfl (lv_at hl 1 rfl) ?_
      refine va_get (D := D) (ci := 0) (v := .int (nI (N1 0 i 15))) (C := RX0) (T := TX0) (N := 18) hx hb hts (fun _ h9 => List.mem_cons_of_mem _ (List.mem_append_right _ h9)) hown hK hP (5 + i) (qG_i (by omega)) rfl 15 (by decide) (hts (.fieldLink RX0 58 "PalletStack$Item" "supportCount" "I") (List.mem_of_getElem? (i := 1) (by rfl))) (fun _ h9 => h9) rfl dX0_passLoadDown_4 ?_
      refine lv_topi (fun v_54 ev_54 => ?_)
      obtain rfl : v_54 = (nI (N 0 i 15)) := ev_54.trans (by rw [ne 0 i 15 (by omega)])
      refine lv_icmp_ge (tgt := 70) hx hb dX0_passLoadDown_7 (by decide) (fun c_55 => ?_) (fun c_55 => absurd (Int32.le_refl _) c_55)
      rw [← hQe]
      exact W.vret hx hb hr (fun t ht hW => ⟨⟨N1, rfl, hN, ⟨Nat.zero_le _, by rw [ht]; exact hP, va_K.moved hW.alike (hK.sub (tys' := []) [] rfl), hD⟩⟩, hS.F ht⟩) hS.2.2 dX0_passLoadDown_70
    | succ k ih =>
      intro j hj N1 hN H locs ls hP hD hS hl
      have ne : ∀ c i j, c ≠ 0 ∨ j ≠ 12 → N1 c i j = N c i j := fun c i j h => by rw [hN]; exact qcol_ne _ _ h
      obtain ⟨h1, h2, h3, h4⟩ := hS9 j (by omega)
      have q1 := hq j (by omega)
      have q2 := hbd j (by omega) (S j)
      have q3 : (N 0 i 1 + N 0 i 12) * N 1 i j / N 0 i 10 ≤ 1001000 * 36 := Nat.le_trans (Nat.div_le_self _ _) q1
      have e1 : N1 0 (S j) 12 = qPs S (N 1 i) (N 0 i 1 + N 0 i 12) (N 0 i 10) (fun k => N 0 k 12) j (S j) := by rw [hN]; exact qcol_eq _ _ _
      have e2 : N1 0 i 12 = N 0 i 12 := by rw [hN, qcol_eq]; exact qPs_ne (fun j9 h9 => (hS9 j9 (by omega)).2.2.1)
      have hP : va_P D vwCl (qG B R N1) H := hP
      have hD : va_D A (qG B R N1) := hD
      refine lv_iload_n hx hb dX0_passLoadDown_2 rfl (lv_at hl 0 rfl) ?_
      refine lv_aload_n hx hb dX0_passLoadDown_3 rfl (lv_at hl 1 rfl) ?_
      refine va_get (D := D) (ci := 0) (v := .int (nI (N1 0 i 15))) (C := RX0) (T := TX0) (N := 18) hx hb hts (fun _ h9 => List.mem_cons_of_mem _ (List.mem_append_right _ h9)) hown hK hP (5 + i) (qG_i (by omega)) rfl 15 (by decide) (hts (.fieldLink RX0 58 "PalletStack$Item" "supportCount" "I") (List.mem_of_getElem? (i := 1) (by rfl))) (fun _ h9 => h9) rfl dX0_passLoadDown_4 ?_
      refine lv_topi (fun v_56 ev_56 => ?_)
      obtain rfl : v_56 = (nI (N 0 i 15)) := ev_56.trans (by rw [ne 0 i 15 (by omega)])
      refine lv_icmp_ge (tgt := 70) hx hb dX0_passLoadDown_7 (by decide) (fun c_57 => absurd c_57 (nI_ge (by omega) (by omega))) (fun c_57 => ?_)
      refine lv_iload_n hx hb dX0_passLoadDown_10 rfl (lv_at hl 0 rfl) ?_
      refine lv_bipush (v := 36) hx hb dX0_passLoadDown_11 (by decide) ?_
      refine lv_icmp_ge (tgt := 70) hx hb dX0_passLoadDown_13 (by decide) (fun c_58 => absurd c_58 (nI_ge (b := 36) (by omega) (by decide))) (fun c_58 => ?_)
      refine lv_aload_n hx hb dX0_passLoadDown_16 rfl (lv_at hl 1 rfl) ?_
      refine va_get (D := D) (ci := 0) (v := .ref (qA B 1 i)) (C := RX0) (T := TX0) (N := 18) hx hb hts (fun _ h9 => List.mem_cons_of_mem _ (List.mem_append_right _ h9)) hown hK hP (5 + i) (qG_i (by omega)) rfl 16 (by decide) (hts (.fieldLink RX0 61 "PalletStack$Item" "supports" "[LPalletStack$Item;") (List.mem_of_getElem? (i := 2) (by rfl))) (fun _ h9 => h9) rfl dX0_passLoadDown_17 ?_
      refine lv_iload_n hx hb dX0_passLoadDown_20 rfl (lv_at hl 0 rfl) ?_
      refine va_aldq hx hb hK hP (66 + i) 1 (qG_s (by omega)) rfl (vp_in_nI (n := j) (N := 36) (by omega) (by decide)) dX0_passLoadDown_21 ?_
      refine W.eq (g2 := F0 m 22 ls [.ref (qA B 0 (S j))]) (by rw [nI_clamp (by omega), h1]; rfl) ?_
      refine lv_astore_n (lv' := [(2, .ref (qA B 0 (S j))), (1, .int (nI j)), (0, .ref (qA B 0 i))]) hx hb dX0_passLoadDown_22 rfl hl (by decide) rfl (fun ls hl => ?_)
      refine lv_aload_n hx hb dX0_passLoadDown_23 rfl (lv_at hl 0 rfl) ?_
      refine lv_ifnull hx hb dX0_passLoadDown_24 ?_
      refine lv_aload_n hx hb dX0_passLoadDown_27 rfl (lv_at hl 2 rfl) ?_
      refine va_get (D := D) (ci := 0) (v := .int (nI (N1 0 i 10))) (C := RX0) (T := TX0) (N := 18) hx hb hts (fun _ h9 => List.mem_cons_of_mem _ (List.mem_append_right _ h9)) hown hK hP (5 + i) (qG_i (by omega)) rfl 10 (by decide) (hts (.fieldLink RX0 43 "PalletStack$Item" "ground" "I") (List.mem_of_getElem? (i := 3) (by rfl))) (fun _ h9 => h9) rfl dX0_passLoadDown_28 ?_
      refine lv_topi (fun v_60 ev_60 => ?_)
      obtain rfl : v_60 = (nI (N 0 i 10)) := ev_60.trans (by rw [ne 0 i 10 (by omega)])
      refine lv_if_le (tgt := 64) hx hb dX0_passLoadDown_31 (by decide) (fun c_61 => absurd c_61 (fun h => absurd ((nI_leI (b := 0) (by omega) (by decide)).mp h) (by omega))) (fun c_61 => ?_)
      refine lv_aload_n hx hb dX0_passLoadDown_34 rfl (lv_at hl 0 rfl) ?_
      refine lv_dup hx hb dX0_passLoadDown_35 rfl ?_
      refine va_get (D := D) (ci := 0) (v := .int (nI (N1 0 (S j) 12))) (C := RX0) (T := TX0) (N := 18) hx hb hts (fun _ h9 => List.mem_cons_of_mem _ (List.mem_append_right _ h9)) hown hK hP (5 + (S j)) (qG_i (by omega)) rfl 12 (by decide) (hts (.fieldLink RX0 49 "PalletStack$Item" "nextLoad" "I") (List.mem_of_getElem? (i := 4) (by rfl))) (fun _ h9 => h9) rfl dX0_passLoadDown_36 ?_
      refine lv_topi (fun v_62 ev_62 => ?_)
      obtain rfl : v_62 = (nI (qPs S (N 1 i) (N 0 i 1 + N 0 i 12) (N 0 i 10) (fun k => N 0 k 12) j (S j))) := ev_62.trans (by rw [e1])
      refine lv_aload_n hx hb dX0_passLoadDown_39 rfl (lv_at hl 2 rfl) ?_
      refine va_get (D := D) (ci := 0) (v := .int (nI (N1 0 i 1))) (C := RX0) (T := TX0) (N := 18) hx hb hts (fun _ h9 => List.mem_cons_of_mem _ (List.mem_append_right _ h9)) hown hK hP (5 + i) (qG_i (by omega)) rfl 1 (by decide) (hts (.fieldLink RX0 15 "PalletStack$Item" "weight" "I") (List.mem_of_getElem? (i := 5) (by rfl))) (fun _ h9 => h9) rfl dX0_passLoadDown_40 ?_
      refine lv_topi (fun v_63 ev_63 => ?_)
      obtain rfl : v_63 = (nI (N 0 i 1)) := ev_63.trans (by rw [ne 0 i 1 (by omega)])
      refine lv_aload_n hx hb dX0_passLoadDown_43 rfl (lv_at hl 2 rfl) ?_
      refine va_get (D := D) (ci := 0) (v := .int (nI (N1 0 i 12))) (C := RX0) (T := TX0) (N := 18) hx hb hts (fun _ h9 => List.mem_cons_of_mem _ (List.mem_append_right _ h9)) hown hK hP (5 + i) (qG_i (by omega)) rfl 12 (by decide) (hts (.fieldLink RX0 49 "PalletStack$Item" "nextLoad" "I") (List.mem_of_getElem? (i := 4) (by rfl))) (fun _ h9 => h9) rfl dX0_passLoadDown_44 ?_
      refine lv_topi (fun v_64 ev_64 => ?_)
      obtain rfl : v_64 = (nI (N 0 i 12)) := ev_64.trans (by rw [e2])
      refine lv_iadd hx hb dX0_passLoadDown_47 ?_
      refine lv_topi (fun v_65 ev_65 => ?_)
      obtain rfl : v_65 = (nI (N 0 i 1 + N 0 i 12)) := ev_65.trans (nI_add _ _)
      refine lv_aload_n hx hb dX0_passLoadDown_48 rfl (lv_at hl 2 rfl) ?_
      refine va_get (D := D) (ci := 0) (v := .ref (qA B 2 i)) (C := RX0) (T := TX0) (N := 18) hx hb hts (fun _ h9 => List.mem_cons_of_mem _ (List.mem_append_right _ h9)) hown hK hP (5 + i) (qG_i (by omega)) rfl 17 (by decide) (hts (.fieldLink RX0 65 "PalletStack$Item" "supportCells" "[I") (List.mem_of_getElem? (i := 6) (by rfl))) (fun _ h9 => h9) rfl dX0_passLoadDown_49 ?_
      refine lv_iload_n hx hb dX0_passLoadDown_52 rfl (lv_at hl 1 rfl) ?_
      refine va_iald hx hb hK hP (127 + i) 2 (qG_c (by omega)) rfl (vp_in_nI (n := j) (N := 36) (by omega) (by decide)) dX0_passLoadDown_53 ?_
      refine lv_topi (fun v_66 ev_66 => ?_)
      obtain rfl : v_66 = (nI (N1 1 i j)) := ev_66.trans (by rw [nI_clamp (by omega)])
      refine lv_topi (fun v_67 ev_67 => ?_)
      obtain rfl : v_67 = (nI (N 1 i j)) := ev_67.trans (by rw [ne 1 i j (by omega)])
      refine lv_imul hx hb dX0_passLoadDown_54 ?_
      refine lv_topi (fun v_68 ev_68 => ?_)
      obtain rfl : v_68 = (nI ((N 0 i 1 + N 0 i 12) * N 1 i j)) := ev_68.trans (pk_mul _ _)
      refine lv_aload_n hx hb dX0_passLoadDown_55 rfl (lv_at hl 2 rfl) ?_
      refine va_get (D := D) (ci := 0) (v := .int (nI (N1 0 i 10))) (C := RX0) (T := TX0) (N := 18) hx hb hts (fun _ h9 => List.mem_cons_of_mem _ (List.mem_append_right _ h9)) hown hK hP (5 + i) (qG_i (by omega)) rfl 10 (by decide) (hts (.fieldLink RX0 43 "PalletStack$Item" "ground" "I") (List.mem_of_getElem? (i := 3) (by rfl))) (fun _ h9 => h9) rfl dX0_passLoadDown_56 ?_
      refine lv_topi (fun v_69 ev_69 => ?_)
      obtain rfl : v_69 = (nI (N 0 i 10)) := ev_69.trans (by rw [ne 0 i 10 (by omega)])
      refine lv_idiv hx hb dX0_passLoadDown_59 (fun h => absurd ((qeq (b := 0) (by omega) (by decide)).mp h) (by omega)) ?_
      refine lv_topi (fun v_70 ev_70 => ?_)
      obtain rfl : v_70 = (nI ((N 0 i 1 + N 0 i 12) * N 1 i j / N 0 i 10)) := ev_70.trans (pk_div (by omega) hg (by omega))
      refine lv_iadd hx hb dX0_passLoadDown_60 ?_
      refine lv_topi (fun v_71 ev_71 => ?_)
      obtain rfl : v_71 = (nI (qPs S (N 1 i) (N 0 i 1 + N 0 i 12) (N 0 i 10) (fun k => N 0 k 12) j (S j) + (N 0 i 1 + N 0 i 12) * N 1 i j / N 0 i 10)) := ev_71.trans (nI_add _ _)
      refine va_put (D := D) (ci := 0) (v := .int (nI (qPs S (N 1 i) (N 0 i 1 + N 0 i 12) (N 0 i 10) (fun k => N 0 k 12) j (S j) + (N 0 i 1 + N 0 i 12) * N 1 i j / N 0 i 10))) (ty := .int) (C := RX0) (T := TX0) (N := 18) hx hb hts (fun _ h9 => List.mem_cons_of_mem _ (List.mem_append_right _ h9)) tyX0 tyX0_ok nmX0 hown hK hP hD hS (5 + (S j)) (qG_i (by omega)) rfl 12 (by decide) (hts (.fieldLink RX0 49 "PalletStack$Item" "nextLoad" "I") (List.mem_of_getElem? (i := 4) (by rfl))) (fun _ h9 => h9) rfl (by decide +kernel) rfl rfl (Nat.le_of_ble_eq_true rfl) dX0_passLoadDown_61 (fun H locs hP hD hS => ?_)
      rw [qG_pi (by omega) (by decide)] at hP hD
      obtain ⟨N_72, hN_72⟩ : ∃ z : qN0, z = qp N1 0 (S j) 12 (qPs S (N 1 i) (N 0 i 1 + N 0 i 12) (N 0 i 10) (fun k => N 0 k 12) j (S j) + (N 0 i 1 + N 0 i 12) * N 1 i j / N 0 i 10) := ⟨_, rfl⟩
      rw [← hN_72] at hP hD
      have hP : va_P D vwCl (qG B R N_72) H := hP
      have hD : va_D A (qG B R N_72) := hD
      refine lv_iinc (v := (nI (j + 1))) (lv' := [(1, .int (nI (j + 1))), (2, .ref (qA B 0 (S j))), (0, .ref (qA B 0 i))]) hx hb dX0_passLoadDown_64 hl (k := 1) rfl (nI_1 j) (by decide) rfl (fun ls hl => ?_)
      refine lv_goto (tgt := 2) hx hb dX0_passLoadDown_67 (by decide) ?_
      have hl := lv_sub hl (l' := [(1, .int (nI (j + 1))), (0, .ref (qA B 0 i))]) [0, 2] rfl
      exact ih (j + 1) (by omega) _ (by rw [hN_72, hN, qcol_1]; rfl) H locs ls hP hD hS hl
  exact loop (N 0 i 15) 0 (by omega) N (qcol_0 N).symm s.heap [] ls hP hD hS hl
