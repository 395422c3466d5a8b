set_option maxHeartbeats 4000000 in
set_option maxRecDepth 100000 in
theorem c_isInField_0 (l : Launch) (D : zG) (sz : Nat) (k0 a b : Nat) (ha : a < 12) (hb2 : b < 10) : Met l yX3_isInField wsX3_isInField ({ frames := 1, cells := 0, slots := 0, locals := 22 }) (zPc D [] ([(k0, .inr (1, [.int 0, .int 1, .int 1, .int 2, .int 1, .int 0, .int 1, .int 0]))]) sz [.ref k0, .int (nI a), .int (nI b), .int 0]) (vp_Si (fun r => r = 1)) 0 0 (fun _ => False) := by
  refine Met.ofW (cc := cX3_isInField) (maxL := 6) (ret := (some .boolean)) (by decide) rfl ?_
  intro p e s m args below meth c s₁ B hml hv
  obtain ⟨rfl, hsz, hP, hK, hD0⟩ := hv
  have hx := B.exec
  have hb := B.bytes
  have hr := B.returns
  have hts := atoms_spec (ws := wsX3_isInField) B.pre
  have hown : s.vm.findClass RX3 = some m.cls := findClass_of_methodNamed B.named
  have hlocks := B.notSynchronized
  subst hsz
  have hD := hD0
  generalize hAe : (fun _ : Nat => True) = A at hD
  have hl := lv_entry ([.ref k0, .int (nI a), .int (nI b), .int 0]) (n := 6) (Nat.le_of_ble_eq_true rfl)
  rw [lg_entry_eq]
  generalize (lg_sl ([.ref k0, .int (nI a), .int (nI b), .int 0]) ++ List.replicate (6 - (lg_sl ([.ref k0, .int (nI a), .int (nI b), .int 0])).length) Slot.unset).toArray = ls at hl ⊢
  have hl : lv_has ls 6 [(0, .ref k0), (1, .int (nI a)), (2, .int (nI b)), (3, .int 0)] := hl
  have hP : va_P D vwCl ([(k0, .inr (1, [.int 0, .int 1, .int 1, .int 2, .int 1, .int 0, .int 1, .int 0]))]) s.heap := hP
  generalize hRe : (headSpec _ _).room = R
  have hRf : R.frames = 1 := by rw [← hRe]; rfl
  have hRc : R.cells = 0 := by rw [← hRe]; rfl
  have hRs : R.slots = 0 := by rw [← hRe]; rfl
  have hRl : R.locals = 22 := by rw [← hRe]; rfl
  clear hRe
  refine lv_iload_n hx hb dX3_isInField_0 rfl (lv_at hl 3 rfl) ?_
  refine lv_if_eq (tgt := 13) hx hb dX3_isInField_1 (by decide) (fun c_1 => ?_) (fun c_1 => absurd (rfl) c_1)
  refine lv_iload_n hx hb dX3_isInField_13 rfl (lv_at hl 3 rfl) ?_
  refine lv_if_eq (tgt := 24) hx hb dX3_isInField_14 (by decide) (fun c_2 => ?_) (fun c_2 => absurd (rfl) c_2)
  refine lv_aload_n hx hb dX3_isInField_24 rfl (lv_at hl 0 rfl) ?_
  refine va_get (D := D) (ci := 1) (v := .int 1) (C := RX1) (T := TX1) (N := 8) hx hb hts (fun _ h9 => List.mem_cons_of_mem _ (List.mem_append_right _ h9)) hown hK hP 0 rfl rfl 1 (by decide) (hts (.fieldLink RX3 249 "PalletStack$Kind" "width" "I") (List.mem_of_getElem? (i := 3) (by rfl))) (fun _ h9 => h9) rfl dX3_isInField_25 ?_
  refine lv_istore (lv' := [(4, .int 1), (0, .ref k0), (1, .int (nI a)), (2, .int (nI b)), (3, .int 0)]) hx hb dX3_isInField_28 hl (by decide) rfl (fun ls hl => ?_)
  refine lv_iload_n hx hb dX3_isInField_30 rfl (lv_at hl 4 rfl) ?_
  refine lv_if_eq (tgt := 41) hx hb dX3_isInField_31 (by decide) (fun c_3 => ?_) (fun c_3 => absurd (rfl) c_3)
  refine lv_aload_n hx hb dX3_isInField_41 rfl (lv_at hl 1 rfl) ?_
  refine va_get (D := D) (ci := 1) (v := .int 1) (C := RX1) (T := TX1) (N := 8) hx hb hts (fun _ h9 => List.mem_cons_of_mem _ (List.mem_append_right _ h9)) hown hK hP 0 rfl rfl 2 (by decide) (hts (.fieldLink RX3 248 "PalletStack$Kind" "depth" "I") (List.mem_of_getElem? (i := 2) (by rfl))) (fun _ h9 => h9) rfl dX3_isInField_42 ?_
  refine lv_istore (lv' := [(5, .int 1), (4, .int 1), (0, .ref k0), (1, .int (nI a)), (2, .int (nI b)), (3, .int 0)]) hx hb dX3_isInField_45 hl (by decide) rfl (fun ls hl => ?_)
  refine lv_iload_n hx hb dX3_isInField_47 rfl (lv_at hl 3 rfl) ?_
  refine lv_iconst (v := 0) hx hb dX3_isInField_48 (by decide) ?_
  refine lv_bipush (v := 12) hx hb dX3_isInField_49 (by decide) ?_
  refine lv_iload hx hb dX3_isInField_51 (lv_at hl 1 rfl) ?_
  refine lv_isub hx hb dX3_isInField_53 ?_
  refine lv_topi (fun v_4 ev_4 => ?_)
  obtain rfl : v_4 = 11 := ev_4.trans (by decide)
  refine zrdS (As := [.int (nI a), .int 0, .int 11]) (rest := []) (wc := []) ⟨hx, hb, hml, hown, hts⟩ (c_isWithin l D _ (nI a) 0 11) (va_cwS 3 hts gX3_isInField_X3_isWithin rfl rfl rfl (by decide +kernel) ⟨by rw [hRf]; exact Nat.le_of_ble_eq_true rfl, by rw [hRl]; exact Nat.le_of_ble_eq_true rfl⟩) hK hP hD [] rfl (by decide) [] rfl rfl hl.1 rfl (Nat.le_of_ble_eq_true rfl) dX3_isInField_54 ⟨by omega, by omega⟩ (fun r_5 hr_5 => ?_)
  refine lv_topi (fun v_6 ev_6 => ?_)
  obtain rfl : v_6 = 1 := ev_6.trans (hr_5.trans (if_pos ⟨nI_pos' (by omega), (nI_leI (b := 11) (by omega) (by decide)).mpr (by omega)⟩))
  refine lv_if_eq (tgt := 77) hx hb dX3_isInField_57 (by decide) (fun c_7 => absurd c_7 (by decide)) (fun c_7 => ?_)
  refine lv_iload_n hx hb dX3_isInField_60 rfl (lv_at hl 4 rfl) ?_
  refine lv_iconst (v := 0) hx hb dX3_isInField_61 (by decide) ?_
  refine lv_bipush (v := 10) hx hb dX3_isInField_62 (by decide) ?_
  refine lv_iload hx hb dX3_isInField_64 (lv_at hl 0 rfl) ?_
  refine lv_isub hx hb dX3_isInField_66 ?_
  refine lv_topi (fun v_8 ev_8 => ?_)
  obtain rfl : v_8 = 9 := ev_8.trans (by decide)
  refine zrdS (As := [.int (nI b), .int 0, .int 9]) (rest := []) (wc := []) ⟨hx, hb, hml, hown, hts⟩ (c_isWithin l D _ (nI b) 0 9) (va_cwS 3 hts gX3_isInField_X3_isWithin rfl rfl rfl (by decide +kernel) ⟨by rw [hRf]; exact Nat.le_of_ble_eq_true rfl, by rw [hRl]; exact Nat.le_of_ble_eq_true rfl⟩) hK hP hD [] rfl (by decide) [] rfl rfl hl.1 rfl (Nat.le_of_ble_eq_true rfl) dX3_isInField_67 ⟨by omega, by omega⟩ (fun r_9 hr_9 => ?_)
  refine lv_topi (fun v_10 ev_10 => ?_)
  obtain rfl : v_10 = 1 := ev_10.trans (hr_9.trans (if_pos ⟨nI_pos' (by omega), (nI_leI (b := 9) (by omega) (by decide)).mpr (by omega)⟩))
  refine lv_if_eq (tgt := 77) hx hb dX3_isInField_70 (by decide) (fun c_11 => absurd c_11 (by decide)) (fun c_11 => ?_)
  refine lv_iconst (v := 1) hx hb dX3_isInField_73 (by decide) ?_
  refine lv_goto (tgt := 78) hx hb dX3_isInField_74 (by decide) ?_
  exact W.zret (ty := .boolean) (v := 1) hx hb hr rfl (fun t ht hW => ⟨1, rfl, rfl, ht⟩) (fun _ h => by cases h) dX3_isInField_78
set_option maxHeartbeats 4000000 in
set_option maxRecDepth 100000 in
theorem c_isInField_1 (l : Launch) (D : zG) (sz : Nat) (k0 a b : Nat) (ha : a < 12) (hb2 : b < 10) : Met l yX3_isInField wsX3_isInField ({ frames := 1, cells := 0, slots := 0, locals := 22 }) (zPc D [] ([(k0, .inr (1, [.int 0, .int 1, .int 1, .int 2, .int 1, .int 0, .int 1, .int 0]))]) sz [.ref k0, .int (nI a), .int (nI b), .int 1]) (vp_Si (fun r => r = 1)) 0 0 (fun _ => False) := by
  refine Met.ofW (cc := cX3_isInField) (maxL := 6) (ret := (some .boolean)) (by decide) rfl ?_
  intro p e s m args below meth c s₁ B hml hv
  obtain ⟨rfl, hsz, hP, hK, hD0⟩ := hv
  have hx := B.exec
  have hb := B.bytes
  have hr := B.returns
  have hts := atoms_spec (ws := wsX3_isInField) B.pre
  have hown : s.vm.findClass RX3 = some m.cls := findClass_of_methodNamed B.named
  have hlocks := B.notSynchronized
  subst hsz
  have hD := hD0
  generalize hAe : (fun _ : Nat => True) = A at hD
  have hl := lv_entry ([.ref k0, .int (nI a), .int (nI b), .int 1]) (n := 6) (Nat.le_of_ble_eq_true rfl)
  rw [lg_entry_eq]
  generalize (lg_sl ([.ref k0, .int (nI a), .int (nI b), .int 1]) ++ List.replicate (6 - (lg_sl ([.ref k0, .int (nI a), .int (nI b), .int 1])).length) Slot.unset).toArray = ls at hl ⊢
  have hl : lv_has ls 6 [(0, .ref k0), (1, .int (nI a)), (2, .int (nI b)), (3, .int 1)] := hl
  have hP : va_P D vwCl ([(k0, .inr (1, [.int 0, .int 1, .int 1, .int 2, .int 1, .int 0, .int 1, .int 0]))]) s.heap := hP
  generalize hRe : (headSpec _ _).room = R
  have hRf : R.frames = 1 := by rw [← hRe]; rfl
  have hRc : R.cells = 0 := by rw [← hRe]; rfl
  have hRs : R.slots = 0 := by rw [← hRe]; rfl
  have hRl : R.locals = 22 := by rw [← hRe]; rfl
  clear hRe
  refine lv_iload_n hx hb dX3_isInField_0 rfl (lv_at hl 3 rfl) ?_
  refine lv_if_eq (tgt := 13) hx hb dX3_isInField_1 (by decide) (fun c_12 => absurd c_12 (by decide)) (fun c_12 => ?_)
  refine lv_aload_n hx hb dX3_isInField_4 rfl (lv_at hl 0 rfl) ?_
  refine va_get (D := D) (ci := 1) (v := .int 1) (C := RX1) (T := TX1) (N := 8) hx hb hts (fun _ h9 => List.mem_cons_of_mem _ (List.mem_append_right _ h9)) hown hK hP 0 rfl rfl 6 (by decide) (hts (.fieldLink RX3 245 "PalletStack$Kind" "canTurn" "Z") (List.mem_of_getElem? (i := 1) (by rfl))) (fun _ h9 => h9) rfl dX3_isInField_5 ?_
  refine lv_if_ne (tgt := 13) hx hb dX3_isInField_8 (by decide) (fun c_13 => ?_) (fun c_13 => absurd c_13 (by decide))
  refine lv_iload_n hx hb dX3_isInField_13 rfl (lv_at hl 3 rfl) ?_
  refine lv_if_eq (tgt := 24) hx hb dX3_isInField_14 (by decide) (fun c_14 => absurd c_14 (by decide)) (fun c_14 => ?_)
  refine lv_aload_n hx hb dX3_isInField_17 rfl (lv_at hl 0 rfl) ?_
  refine va_get (D := D) (ci := 1) (v := .int 1) (C := RX1) (T := TX1) (N := 8) hx hb hts (fun _ h9 => List.mem_cons_of_mem _ (List.mem_append_right _ h9)) hown hK hP 0 rfl rfl 2 (by decide) (hts (.fieldLink RX3 248 "PalletStack$Kind" "depth" "I") (List.mem_of_getElem? (i := 2) (by rfl))) (fun _ h9 => h9) rfl dX3_isInField_18 ?_
  refine lv_goto (tgt := 28) hx hb dX3_isInField_21 (by decide) ?_
  refine lv_istore (lv' := [(4, .int 1), (0, .ref k0), (1, .int (nI a)), (2, .int (nI b)), (3, .int 1)]) hx hb dX3_isInField_28 hl (by decide) rfl (fun ls hl => ?_)
  refine lv_iload_n hx hb dX3_isInField_30 rfl (lv_at hl 4 rfl) ?_
  refine lv_if_eq (tgt := 41) hx hb dX3_isInField_31 (by decide) (fun c_15 => absurd c_15 (by decide)) (fun c_15 => ?_)
  refine lv_aload_n hx hb dX3_isInField_34 rfl (lv_at hl 1 rfl) ?_
  refine va_get (D := D) (ci := 1) (v := .int 1) (C := RX1) (T := TX1) (N := 8) hx hb hts (fun _ h9 => List.mem_cons_of_mem _ (List.mem_append_right _ h9)) hown hK hP 0 rfl rfl 1 (by decide) (hts (.fieldLink RX3 249 "PalletStack$Kind" "width" "I") (List.mem_of_getElem? (i := 3) (by rfl))) (fun _ h9 => h9) rfl dX3_isInField_35 ?_
  refine lv_goto (tgt := 45) hx hb dX3_isInField_38 (by decide) ?_
  refine lv_istore (lv' := [(5, .int 1), (4, .int 1), (0, .ref k0), (1, .int (nI a)), (2, .int (nI b)), (3, .int 1)]) hx hb dX3_isInField_45 hl (by decide) rfl (fun ls hl => ?_)
  refine lv_iload_n hx hb dX3_isInField_47 rfl (lv_at hl 3 rfl) ?_
  refine lv_iconst (v := 0) hx hb dX3_isInField_48 (by decide) ?_
  refine lv_bipush (v := 12) hx hb dX3_isInField_49 (by decide) ?_
  refine lv_iload hx hb dX3_isInField_51 (lv_at hl 1 rfl) ?_
  refine lv_isub hx hb dX3_isInField_53 ?_
  refine lv_topi (fun v_16 ev_16 => ?_)
  obtain rfl : v_16 = 11 := ev_16.trans (by decide)
  refine zrdS (As := [.int (nI a), .int 0, .int 11]) (rest := []) (wc := []) ⟨hx, hb, hml, hown, hts⟩ (c_isWithin l D _ (nI a) 0 11) (va_cwS 3 hts gX3_isInField_X3_isWithin rfl rfl rfl (by decide +kernel) ⟨by rw [hRf]; exact Nat.le_of_ble_eq_true rfl, by rw [hRl]; exact Nat.le_of_ble_eq_true rfl⟩) hK hP hD [] rfl (by decide) [] rfl rfl hl.1 rfl (Nat.le_of_ble_eq_true rfl) dX3_isInField_54 ⟨by omega, by omega⟩ (fun r_17 hr_17 => ?_)
  refine lv_topi (fun v_18 ev_18 => ?_)
  obtain rfl : v_18 = 1 := ev_18.trans (hr_17.trans (if_pos ⟨nI_pos' (by omega), (nI_leI (b := 11) (by omega) (by decide)).mpr (by omega)⟩))
  refine lv_if_eq (tgt := 77) hx hb dX3_isInField_57 (by decide) (fun c_19 => absurd c_19 (by decide)) (fun c_19 => ?_)
  refine lv_iload_n hx hb dX3_isInField_60 rfl (lv_at hl 4 rfl) ?_
  refine lv_iconst (v := 0) hx hb dX3_isInField_61 (by decide) ?_
  refine lv_bipush (v := 10) hx hb dX3_isInField_62 (by decide) ?_
  refine lv_iload hx hb dX3_isInField_64 (lv_at hl 0 rfl) ?_
  refine lv_isub hx hb dX3_isInField_66 ?_
  refine lv_topi (fun v_20 ev_20 => ?_)
  obtain rfl : v_20 = 9 := ev_20.trans (by decide)
  refine zrdS (As := [.int (nI b), .int 0, .int 9]) (rest := []) (wc := []) ⟨hx, hb, hml, hown, hts⟩ (c_isWithin l D _ (nI b) 0 9) (va_cwS 3 hts gX3_isInField_X3_isWithin rfl rfl rfl (by decide +kernel) ⟨by rw [hRf]; exact Nat.le_of_ble_eq_true rfl, by rw [hRl]; exact Nat.le_of_ble_eq_true rfl⟩) hK hP hD [] rfl (by decide) [] rfl rfl hl.1 rfl (Nat.le_of_ble_eq_true rfl) dX3_isInField_67 ⟨by omega, by omega⟩ (fun r_21 hr_21 => ?_)
  refine lv_topi (fun v_22 ev_22 => ?_)
  obtain rfl : v_22 = 1 := ev_22.trans (hr_21.trans (if_pos ⟨nI_pos' (by omega), (nI_leI (b := 9) (by omega) (by decide)).mpr (by omega)⟩))
  refine lv_if_eq (tgt := 77) hx hb dX3_isInField_70 (by decide) (fun c_23 => absurd c_23 (by decide)) (fun c_23 => ?_)
  refine lv_iconst (v := 1) hx hb dX3_isInField_73 (by decide) ?_
  refine lv_goto (tgt := 78) hx hb dX3_isInField_74 (by decide) ?_
  exact W.zret (ty := .boolean) (v := 1) hx hb hr rfl (fun t ht hW => ⟨1, rfl, rfl, ht⟩) (fun _ h => by cases h) dX3_isInField_78
theorem c_isInField (l : Launch) (D : zG) (sz : Nat) (k0 a b : Nat) (ha : a < 12) (hb2 : b < 10) (t : Int32) (ht : t = 0 ∨ t = 1) : Met l yX3_isInField wsX3_isInField ({ frames := 1, cells := 0, slots := 0, locals := 22 }) (zPc D [] ([(k0, .inr (1, [.int 0, .int 1, .int 1, .int 2, .int 1, .int 0, .int 1, .int 0]))]) sz [.ref k0, .int (nI a), .int (nI b), .int t]) (vp_Si (fun r => r = 1)) 0 0 (fun _ => False) := by
  rcases ht with rfl | rfl
  · exact c_isInField_0 l D sz k0 a b ha hb2
  · exact c_isInField_1 l D sz k0 a b ha hb2
set_option maxHeartbeats 4000000 in
set_option maxRecDepth 100000 in
theorem c_shape_0 (l : Launch) (D : zG) (sz : Nat) (tr k0 su sc : Nat) (w : Nat → Int32) : Met l yX0_shape wsX0_shape ({ frames := 0, cells := 0, slots := 0, locals := 0 }) (zPc D [] ([(tr, .inr (0, [.int (w 0), .int (w 1), .int (w 2), .int (w 3), .int (w 4), .int (w 5), .int (w 6), .int (w 7), .int (w 8), .int (w 9), .int (w 10), .int (w 11), .int (w 12), .int (w 13), .int (w 14), .int (w 15), .ref su, .ref sc])), (k0, .inr (1, [.int 0, .int 1, .int 1, .int 2, .int 1, .int 0, .int 1, .int 0]))]) sz [.ref tr, .ref k0, .int 0]) (va_Qv (fun (u : Unit) => True) (zB D (va_A ([(tr, .inr (0, [.int (w 0), .int (w 1), .int (w 2), .int (w 3), .int (w 4), .int (w 5), .int (w 6), .int (w 7), .int (w 8), .int (w 9), .int (w 10), .int (w 11), .int (w 12), .int (w 13), .int (w 14), .int (w 15), .ref su, .ref sc])), (k0, .inr (1, [.int 0, .int 1, .int 1, .int 2, .int 1, .int 0, .int 1, .int 0]))]) sz) (fun _ => []) 0 (fun _ => [(tr, .inr (0, [.int 0, .int 1, .int 0, .int 0, .int 1, .int 1, .int (w 6), .int (w 7), .int (w 8), .int (w 9), .int (w 10), .int (w 11), .int (w 12), .int (w 13), .int (w 14), .int (w 15), .ref su, .ref sc])), (k0, .inr (1, [.int 0, .int 1, .int 1, .int 2, .int 1, .int 0, .int 1, .int 0]))])) (va_A ([(tr, .inr (0, [.int (w 0), .int (w 1), .int (w 2), .int (w 3), .int (w 4), .int (w 5), .int (w 6), .int (w 7), .int (w 8), .int (w 9), .int (w 10), .int (w 11), .int (w 12), .int (w 13), .int (w 14), .int (w 15), .ref su, .ref sc])), (k0, .inr (1, [.int 0, .int 1, .int 1, .int 2, .int 1, .int 0, .int 1, .int 0]))]) sz)) 0 0 (va_A ([(tr, .inr (0, [.int (w 0), .int (w 1), .int (w 2), .int (w 3), .int (w 4), .int (w 5), .int (w 6), .int (w 7), .int (w 8), .int (w 9), .int (w 10), .int (w 11), .int (w 12), .int (w 13), .int (w 14), .int (w 15), .ref su, .ref sc])), (k0, .inr (1, [.int 0, .int 1, .int 1, .int 2, .int 1, .int 0, .int 1, .int 0]))]) sz) := by
  refine Met.ofW (cc := cX0_shape) (maxL := 3) (ret := none) (by decide) rfl ?_
  intro p e s m args below meth c s₁ B hml hv
  obtain ⟨rfl, hsz, hP, hK, hD0⟩ := hv
  have hx := B.exec
  have hb := B.bytes
  have hr := B.returns
  have hts := atoms_spec (ws := wsX0_shape) B.pre
  have hown : s.vm.findClass RX0 = some m.cls := findClass_of_methodNamed B.named
  have hlocks := B.notSynchronized
  subst hsz
  have hD := hD0.self (sz := s.heap.size)
  generalize hAe : va_A ([(tr, .inr (0, [.int (w 0), .int (w 1), .int (w 2), .int (w 3), .int (w 4), .int (w 5), .int (w 6), .int (w 7), .int (w 8), .int (w 9), .int (w 10), .int (w 11), .int (w 12), .int (w 13), .int (w 14), .int (w 15), .ref su, .ref sc])), (k0, .inr (1, [.int 0, .int 1, .int 1, .int 2, .int 1, .int 0, .int 1, .int 0]))]) s.heap.size = A at hD ⊢
  have hA : ∀ q : Nat, s.heap.size ≤ q → A q := fun q h => by rw [← hAe]; exact Or.inr h
  have hS : va_S A s.heap s.heap [] := va_S.rf
  have hl := lv_entry ([.ref tr, .ref k0, .int 0]) (n := 3) (Nat.le_of_ble_eq_true rfl)
  rw [lg_entry_eq]
  generalize (lg_sl ([.ref tr, .ref k0, .int 0]) ++ List.replicate (3 - (lg_sl ([.ref tr, .ref k0, .int 0])).length) Slot.unset).toArray = ls at hl ⊢
  have hl : lv_has ls 3 [(0, .ref tr), (1, .ref k0), (2, .int 0)] := hl
  have hP : va_P D vwCl ([(tr, .inr (0, [.int (w 0), .int (w 1), .int (w 2), .int (w 3), .int (w 4), .int (w 5), .int (w 6), .int (w 7), .int (w 8), .int (w 9), .int (w 10), .int (w 11), .int (w 12), .int (w 13), .int (w 14), .int (w 15), .ref su, .ref sc])), (k0, .inr (1, [.int 0, .int 1, .int 1, .int 2, .int 1, .int 0, .int 1, .int 0]))]) s.heap := hP
  generalize hRe : (headSpec _ _).room = R
  have hRf : R.frames = 0 := by rw [← hRe]; rfl
  have hRc : R.cells = 0 := by rw [← hRe]; rfl
  have hRs : R.slots = 0 := by rw [← hRe]; rfl
  have hRl : R.locals = 0 := by rw [← hRe]; rfl
  clear hRe
  refine lv_aload_n hx hb dX0_shape_0 rfl (lv_at hl 0 rfl) ?_
  refine lv_aload_n hx hb dX0_shape_1 rfl (lv_at hl 1 rfl) ?_
  refine va_get (D := D) (ci := 1) (v := .int 0) (C := RX1) (T := TX1) (N := 8) hx hb hts (fun _ h9 => List.mem_cons_of_mem _ (List.mem_append_left _ (List.mem_append_right _ h9))) hown hK hP 1 rfl rfl 0 (by decide) (hts (.fieldLink RX0 69 "PalletStack$Kind" "number" "I") (List.mem_of_getElem? (i := 1) (by rfl))) (fun _ h9 => h9) rfl dX0_shape_2 ?_
  refine va_put (D := D) (ci := 0) (v := .int 0) (ty := .int) (C := RX0) (T := TX0) (N := 18) hx hb hts (fun _ h9 => List.mem_cons_of_mem _ (List.mem_append_right _ h9)) tyX0 tyX0_ok nmX0 hown hK hP hD hS 0 rfl rfl 0 (by decide) (hts (.fieldLink RX0 9 "PalletStack$Item" "kind" "I") (List.mem_of_getElem? (i := 2) (by rfl))) (fun _ h9 => h9) rfl (by decide +kernel) rfl rfl (Nat.le_of_ble_eq_true rfl) dX0_shape_5 (fun H locs hP hD hS => ?_)
  have hP : va_P D vwCl ([(tr, .inr (0, [.int 0, .int (w 1), .int (w 2), .int (w 3), .int (w 4), .int (w 5), .int (w 6), .int (w 7), .int (w 8), .int (w 9), .int (w 10), .int (w 11), .int (w 12), .int (w 13), .int (w 14), .int (w 15), .ref su, .ref sc])), (k0, .inr (1, [.int 0, .int 1, .int 1, .int 2, .int 1, .int 0, .int 1, .int 0]))]) H := hP
  have hD : va_D A ([(tr, .inr (0, [.int 0, .int (w 1), .int (w 2), .int (w 3), .int (w 4), .int (w 5), .int (w 6), .int (w 7), .int (w 8), .int (w 9), .int (w 10), .int (w 11), .int (w 12), .int (w 13), .int (w 14), .int (w 15), .ref su, .ref sc])), (k0, .inr (1, [.int 0, .int 1, .int 1, .int 2, .int 1, .int 0, .int 1, .int 0]))]) := hD
  refine lv_aload_n hx hb dX0_shape_8 rfl (lv_at hl 0 rfl) ?_
  refine lv_aload_n hx hb dX0_shape_9 rfl (lv_at hl 1 rfl) ?_
  refine va_get (D := D) (ci := 1) (v := .int 1) (C := RX1) (T := TX1) (N := 8) hx hb hts (fun _ h9 => List.mem_cons_of_mem _ (List.mem_append_left _ (List.mem_append_right _ h9))) hown hK hP 1 rfl rfl 4 (by decide) (hts (.fieldLink RX0 74 "PalletStack$Kind" "weight" "I") (List.mem_of_getElem? (i := 3) (by rfl))) (fun _ h9 => h9) rfl dX0_shape_10 ?_
  refine va_put (D := D) (ci := 0) (v := .int 1) (ty := .int) (C := RX0) (T := TX0) (N := 18) hx hb hts (fun _ h9 => List.mem_cons_of_mem _ (List.mem_append_right _ h9)) tyX0 tyX0_ok nmX0 hown hK hP hD hS 0 rfl rfl 1 (by decide) (hts (.fieldLink RX0 15 "PalletStack$Item" "weight" "I") (List.mem_of_getElem? (i := 4) (by rfl))) (fun _ h9 => h9) rfl (by decide +kernel) rfl rfl (Nat.le_of_ble_eq_true rfl) dX0_shape_13 (fun H locs hP hD hS => ?_)
  have hP : va_P D vwCl ([(tr, .inr (0, [.int 0, .int 1, .int (w 2), .int (w 3), .int (w 4), .int (w 5), .int (w 6), .int (w 7), .int (w 8), .int (w 9), .int (w 10), .int (w 11), .int (w 12), .int (w 13), .int (w 14), .int (w 15), .ref su, .ref sc])), (k0, .inr (1, [.int 0, .int 1, .int 1, .int 2, .int 1, .int 0, .int 1, .int 0]))]) H := hP
  have hD : va_D A ([(tr, .inr (0, [.int 0, .int 1, .int (w 2), .int (w 3), .int (w 4), .int (w 5), .int (w 6), .int (w 7), .int (w 8), .int (w 9), .int (w 10), .int (w 11), .int (w 12), .int (w 13), .int (w 14), .int (w 15), .ref su, .ref sc])), (k0, .inr (1, [.int 0, .int 1, .int 1, .int 2, .int 1, .int 0, .int 1, .int 0]))]) := hD
  refine lv_aload_n hx hb dX0_shape_16 rfl (lv_at hl 0 rfl) ?_
  refine lv_aload_n hx hb dX0_shape_17 rfl (lv_at hl 1 rfl) ?_
  refine va_get (D := D) (ci := 1) (v := .int 0) (C := RX1) (T := TX1) (N := 8) hx hb hts (fun _ h9 => List.mem_cons_of_mem _ (List.mem_append_left _ (List.mem_append_right _ h9))) hown hK hP 1 rfl rfl 5 (by decide) (hts (.fieldLink RX0 75 "PalletStack$Kind" "strength" "I") (List.mem_of_getElem? (i := 5) (by rfl))) (fun _ h9 => h9) rfl dX0_shape_18 ?_
  refine va_put (D := D) (ci := 0) (v := .int 0) (ty := .int) (C := RX0) (T := TX0) (N := 18) hx hb hts (fun _ h9 => List.mem_cons_of_mem _ (List.mem_append_right _ h9)) tyX0 tyX0_ok nmX0 hown hK hP hD hS 0 rfl rfl 2 (by decide) (hts (.fieldLink RX0 18 "PalletStack$Item" "strength" "I") (List.mem_of_getElem? (i := 6) (by rfl))) (fun _ h9 => h9) rfl (by decide +kernel) rfl rfl (Nat.le_of_ble_eq_true rfl) dX0_shape_21 (fun H locs hP hD hS => ?_)
  have hP : va_P D vwCl ([(tr, .inr (0, [.int 0, .int 1, .int 0, .int (w 3), .int (w 4), .int (w 5), .int (w 6), .int (w 7), .int (w 8), .int (w 9), .int (w 10), .int (w 11), .int (w 12), .int (w 13), .int (w 14), .int (w 15), .ref su, .ref sc])), (k0, .inr (1, [.int 0, .int 1, .int 1, .int 2, .int 1, .int 0, .int 1, .int 0]))]) H := hP
  have hD : va_D A ([(tr, .inr (0, [.int 0, .int 1, .int 0, .int (w 3), .int (w 4), .int (w 5), .int (w 6), .int (w 7), .int (w 8), .int (w 9), .int (w 10), .int (w 11), .int (w 12), .int (w 13), .int (w 14), .int (w 15), .ref su, .ref sc])), (k0, .inr (1, [.int 0, .int 1, .int 1, .int 2, .int 1, .int 0, .int 1, .int 0]))]) := hD
  refine lv_aload_n hx hb dX0_shape_24 rfl (lv_at hl 0 rfl) ?_
  refine lv_iload_n hx hb dX0_shape_25 rfl (lv_at hl 2 rfl) ?_
  refine va_put (D := D) (ci := 0) (v := .int 0) (ty := .boolean) (C := RX0) (T := TX0) (N := 18) hx hb hts (fun _ h9 => List.mem_cons_of_mem _ (List.mem_append_right _ h9)) tyX0 tyX0_ok nmX0 hown hK hP hD hS 0 rfl rfl 3 (by decide) (hts (.fieldLink RX0 21 "PalletStack$Item" "isTurned" "Z") (List.mem_of_getElem? (i := 7) (by rfl))) (fun _ h9 => h9) rfl (by decide +kernel) rfl rfl (Nat.le_of_ble_eq_true rfl) dX0_shape_26 (fun H locs hP hD hS => ?_)
  have hP : va_P D vwCl ([(tr, .inr (0, [.int 0, .int 1, .int 0, .int 0, .int (w 4), .int (w 5), .int (w 6), .int (w 7), .int (w 8), .int (w 9), .int (w 10), .int (w 11), .int (w 12), .int (w 13), .int (w 14), .int (w 15), .ref su, .ref sc])), (k0, .inr (1, [.int 0, .int 1, .int 1, .int 2, .int 1, .int 0, .int 1, .int 0]))]) H := hP
  have hD : va_D A ([(tr, .inr (0, [.int 0, .int 1, .int 0, .int 0, .int (w 4), .int (w 5), .int (w 6), .int (w 7), .int (w 8), .int (w 9), .int (w 10), .int (w 11), .int (w 12), .int (w 13), .int (w 14), .int (w 15), .ref su, .ref sc])), (k0, .inr (1, [.int 0, .int 1, .int 1, .int 2, .int 1, .int 0, .int 1, .int 0]))]) := hD
  refine lv_aload_n hx hb dX0_shape_29 rfl (lv_at hl 0 rfl) ?_
  refine lv_iload_n hx hb dX0_shape_30 rfl (lv_at hl 2 rfl) ?_
  refine lv_if_eq (tgt := 41) hx hb dX0_shape_31 (by decide) (fun c_24 => ?_) (fun c_24 => absurd (rfl) c_24)
  refine lv_aload_n hx hb dX0_shape_41 rfl (lv_at hl 1 rfl) ?_
  refine va_get (D := D) (ci := 1) (v := .int 1) (C := RX1) (T := TX1) (N := 8) hx hb hts (fun _ h9 => List.mem_cons_of_mem _ (List.mem_append_left _ (List.mem_append_right _ h9))) hown hK hP 1 rfl rfl 1 (by decide) (hts (.fieldLink RX0 77 "PalletStack$Kind" "width" "I") (List.mem_of_getElem? (i := 9) (by rfl))) (fun _ h9 => h9) rfl dX0_shape_42 ?_
  refine va_put (D := D) (ci := 0) (v := .int 1) (ty := .int) (C := RX0) (T := TX0) (N := 18) hx hb hts (fun _ h9 => List.mem_cons_of_mem _ (List.mem_append_right _ h9)) tyX0 tyX0_ok nmX0 hown hK hP hD hS 0 rfl rfl 4 (by decide) (hts (.fieldLink RX0 25 "PalletStack$Item" "width" "I") (List.mem_of_getElem? (i := 10) (by rfl))) (fun _ h9 => h9) rfl (by decide +kernel) rfl rfl (Nat.le_of_ble_eq_true rfl) dX0_shape_45 (fun H locs hP hD hS => ?_)
  have hP : va_P D vwCl ([(tr, .inr (0, [.int 0, .int 1, .int 0, .int 0, .int 1, .int (w 5), .int (w 6), .int (w 7), .int (w 8), .int (w 9), .int (w 10), .int (w 11), .int (w 12), .int (w 13), .int (w 14), .int (w 15), .ref su, .ref sc])), (k0, .inr (1, [.int 0, .int 1, .int 1, .int 2, .int 1, .int 0, .int 1, .int 0]))]) H := hP
  have hD : va_D A ([(tr, .inr (0, [.int 0, .int 1, .int 0, .int 0, .int 1, .int (w 5), .int (w 6), .int (w 7), .int (w 8), .int (w 9), .int (w 10), .int (w 11), .int (w 12), .int (w 13), .int (w 14), .int (w 15), .ref su, .ref sc])), (k0, .inr (1, [.int 0, .int 1, .int 1, .int 2, .int 1, .int 0, .int 1, .int 0]))]) := hD
  refine lv_aload_n hx hb dX0_shape_48 rfl (lv_at hl 0 rfl) ?_
  refine lv_iload_n hx hb dX0_shape_49 rfl (lv_at hl 2 rfl) ?_
  refine lv_if_eq (tgt := 60) hx hb dX0_shape_50 (by decide) (fun c_25 => ?_) (fun c_25 => absurd (rfl) c_25)
  refine lv_aload_n hx hb dX0_shape_60 rfl (lv_at hl 1 rfl) ?_
  refine va_get (D := D) (ci := 1) (v := .int 1) (C := RX1) (T := TX1) (N := 8) hx hb hts (fun _ h9 => List.mem_cons_of_mem _ (List.mem_append_left _ (List.mem_append_right _ h9))) hown hK hP 1 rfl rfl 2 (by decide) (hts (.fieldLink RX0 76 "PalletStack$Kind" "depth" "I") (List.mem_of_getElem? (i := 8) (by rfl))) (fun _ h9 => h9) rfl dX0_shape_61 ?_
  refine va_put (D := D) (ci := 0) (v := .int 1) (ty := .int) (C := RX0) (T := TX0) (N := 18) hx hb hts (fun _ h9 => List.mem_cons_of_mem _ (List.mem_append_right _ h9)) tyX0 tyX0_ok nmX0 hown hK hP hD hS 0 rfl rfl 5 (by decide) (hts (.fieldLink RX0 28 "PalletStack$Item" "depth" "I") (List.mem_of_getElem? (i := 11) (by rfl))) (fun _ h9 => h9) rfl (by decide +kernel) rfl rfl (Nat.le_of_ble_eq_true rfl) dX0_shape_64 (fun H locs hP hD hS => ?_)
  have hP : va_P D vwCl ([(tr, .inr (0, [.int 0, .int 1, .int 0, .int 0, .int 1, .int 1, .int (w 6), .int (w 7), .int (w 8), .int (w 9), .int (w 10), .int (w 11), .int (w 12), .int (w 13), .int (w 14), .int (w 15), .ref su, .ref sc])), (k0, .inr (1, [.int 0, .int 1, .int 1, .int 2, .int 1, .int 0, .int 1, .int 0]))]) H := hP
  have hD : va_D A ([(tr, .inr (0, [.int 0, .int 1, .int 0, .int 0, .int 1, .int 1, .int (w 6), .int (w 7), .int (w 8), .int (w 9), .int (w 10), .int (w 11), .int (w 12), .int (w 13), .int (w 14), .int (w 15), .ref su, .ref sc])), (k0, .inr (1, [.int 0, .int 1, .int 1, .int 2, .int 1, .int 0, .int 1, .int 0]))]) := hD
  exact W.vret hx hb hr (fun t ht hW => ⟨⟨(), rfl, True.intro, ⟨Nat.zero_le _, by rw [ht]; exact hP, va_K.moved hW.alike (hK.sub (tys' := []) [] rfl), hD⟩⟩, hS.F ht⟩) hS.2.2 dX0_shape_67
set_option maxHeartbeats 4000000 in
set_option maxRecDepth 100000 in
theorem c_shape_1 (l : Launch) (D : zG) (sz : Nat) (tr k0 su sc : Nat) (w : Nat → Int32) : Met l yX0_shape wsX0_shape ({ frames := 0, cells := 0, slots := 0, locals := 0 }) (zPc D [] ([(tr, .inr (0, [.int (w 0), .int (w 1), .int (w 2), .int (w 3), .int (w 4), .int (w 5), .int (w 6), .int (w 7), .int (w 8), .int (w 9), .int (w 10), .int (w 11), .int (w 12), .int (w 13), .int (w 14), .int (w 15), .ref su, .ref sc])), (k0, .inr (1, [.int 0, .int 1, .int 1, .int 2, .int 1, .int 0, .int 1, .int 0]))]) sz [.ref tr, .ref k0, .int 1]) (va_Qv (fun (u : Unit) => True) (zB D (va_A ([(tr, .inr (0, [.int (w 0), .int (w 1), .int (w 2), .int (w 3), .int (w 4), .int (w 5), .int (w 6), .int (w 7), .int (w 8), .int (w 9), .int (w 10), .int (w 11), .int (w 12), .int (w 13), .int (w 14), .int (w 15), .ref su, .ref sc])), (k0, .inr (1, [.int 0, .int 1, .int 1, .int 2, .int 1, .int 0, .int 1, .int 0]))]) sz) (fun _ => []) 0 (fun _ => [(tr, .inr (0, [.int 0, .int 1, .int 0, .int 1, .int 1, .int 1, .int (w 6), .int (w 7), .int (w 8), .int (w 9), .int (w 10), .int (w 11), .int (w 12), .int (w 13), .int (w 14), .int (w 15), .ref su, .ref sc])), (k0, .inr (1, [.int 0, .int 1, .int 1, .int 2, .int 1, .int 0, .int 1, .int 0]))])) (va_A ([(tr, .inr (0, [.int (w 0), .int (w 1), .int (w 2), .int (w 3), .int (w 4), .int (w 5), .int (w 6), .int (w 7), .int (w 8), .int (w 9), .int (w 10), .int (w 11), .int (w 12), .int (w 13), .int (w 14), .int (w 15), .ref su, .ref sc])), (k0, .inr (1, [.int 0, .int 1, .int 1, .int 2, .int 1, .int 0, .int 1, .int 0]))]) sz)) 0 0 (va_A ([(tr, .inr (0, [.int (w 0), .int (w 1), .int (w 2), .int (w 3), .int (w 4), .int (w 5), .int (w 6), .int (w 7), .int (w 8), .int (w 9), .int (w 10), .int (w 11), .int (w 12), .int (w 13), .int (w 14), .int (w 15), .ref su, .ref sc])), (k0, .inr (1, [.int 0, .int 1, .int 1, .int 2, .int 1, .int 0, .int 1, .int 0]))]) sz) := by
  refine Met.ofW (cc := cX0_shape) (maxL := 3) (ret := none) (by decide) rfl ?_
  intro p e s m args below meth c s₁ B hml hv
  obtain ⟨rfl, hsz, hP, hK, hD0⟩ := hv
  have hx := B.exec
  have hb := B.bytes
  have hr := B.returns
  have hts := atoms_spec (ws := wsX0_shape) B.pre
  have hown : s.vm.findClass RX0 = some m.cls := findClass_of_methodNamed B.named
  have hlocks := B.notSynchronized
  subst hsz
  have hD := hD0.self (sz := s.heap.size)
  generalize hAe : va_A ([(tr, .inr (0, [.int (w 0), .int (w 1), .int (w 2), .int (w 3), .int (w 4), .int (w 5), .int (w 6), .int (w 7), .int (w 8), .int (w 9), .int (w 10), .int (w 11), .int (w 12), .int (w 13), .int (w 14), .int (w 15), .ref su, .ref sc])), (k0, .inr (1, [.int 0, .int 1, .int 1, .int 2, .int 1, .int 0, .int 1, .int 0]))]) s.heap.size = A at hD ⊢
  have hA : ∀ q : Nat, s.heap.size ≤ q → A q := fun q h => by rw [← hAe]; exact Or.inr h
  have hS : va_S A s.heap s.heap [] := va_S.rf
  have hl := lv_entry ([.ref tr, .ref k0, .int 1]) (n := 3) (Nat.le_of_ble_eq_true rfl)
  rw [lg_entry_eq]
  generalize (lg_sl ([.ref tr, .ref k0, .int 1]) ++ List.replicate (3 - (lg_sl ([.ref tr, .ref k0, .int 1])).length) Slot.unset).toArray = ls at hl ⊢
  have hl : lv_has ls 3 [(0, .ref tr), (1, .ref k0), (2, .int 1)] := hl
  have hP : va_P D vwCl ([(tr, .inr (0, [.int (w 0), .int (w 1), .int (w 2), .int (w 3), .int (w 4), .int (w 5), .int (w 6), .int (w 7), .int (w 8), .int (w 9), .int (w 10), .int (w 11), .int (w 12), .int (w 13), .int (w 14), .int (w 15), .ref su, .ref sc])), (k0, .inr (1, [.int 0, .int 1, .int 1, .int 2, .int 1, .int 0, .int 1, .int 0]))]) s.heap := hP
  generalize hRe : (headSpec _ _).room = R
  have hRf : R.frames = 0 := by rw [← hRe]; rfl
  have hRc : R.cells = 0 := by rw [← hRe]; rfl
  have hRs : R.slots = 0 := by rw [← hRe]; rfl
  have hRl : R.locals = 0 := by rw [← hRe]; rfl
  clear hRe
  refine lv_aload_n hx hb dX0_shape_0 rfl (lv_at hl 0 rfl) ?_
  refine lv_aload_n hx hb dX0_shape_1 rfl (lv_at hl 1 rfl) ?_
  refine va_get (D := D) (ci := 1) (v := .int 0) (C := RX1) (T := TX1) (N := 8) hx hb hts (fun _ h9 => List.mem_cons_of_mem _ (List.mem_append_left _ (List.mem_append_right _ h9))) hown hK hP 1 rfl rfl 0 (by decide) (hts (.fieldLink RX0 69 "PalletStack$Kind" "number" "I") (List.mem_of_getElem? (i := 1) (by rfl))) (fun _ h9 => h9) rfl dX0_shape_2 ?_
  refine va_put (D := D) (ci := 0) (v := .int 0) (ty := .int) (C := RX0) (T := TX0) (N := 18) hx hb hts (fun _ h9 => List.mem_cons_of_mem _ (List.mem_append_right _ h9)) tyX0 tyX0_ok nmX0 hown hK hP hD hS 0 rfl rfl 0 (by decide) (hts (.fieldLink RX0 9 "PalletStack$Item" "kind" "I") (List.mem_of_getElem? (i := 2) (by rfl))) (fun _ h9 => h9) rfl (by decide +kernel) rfl rfl (Nat.le_of_ble_eq_true rfl) dX0_shape_5 (fun H locs hP hD hS => ?_)
  have hP : va_P D vwCl ([(tr, .inr (0, [.int 0, .int (w 1), .int (w 2), .int (w 3), .int (w 4), .int (w 5), .int (w 6), .int (w 7), .int (w 8), .int (w 9), .int (w 10), .int (w 11), .int (w 12), .int (w 13), .int (w 14), .int (w 15), .ref su, .ref sc])), (k0, .inr (1, [.int 0, .int 1, .int 1, .int 2, .int 1, .int 0, .int 1, .int 0]))]) H := hP
  have hD : va_D A ([(tr, .inr (0, [.int 0, .int (w 1), .int (w 2), .int (w 3), .int (w 4), .int (w 5), .int (w 6), .int (w 7), .int (w 8), .int (w 9), .int (w 10), .int (w 11), .int (w 12), .int (w 13), .int (w 14), .int (w 15), .ref su, .ref sc])), (k0, .inr (1, [.int 0, .int 1, .int 1, .int 2, .int 1, .int 0, .int 1, .int 0]))]) := hD
  refine lv_aload_n hx hb dX0_shape_8 rfl (lv_at hl 0 rfl) ?_
  refine lv_aload_n hx hb dX0_shape_9 rfl (lv_at hl 1 rfl) ?_
  refine va_get (D := D) (ci := 1) (v := .int 1) (C := RX1) (T := TX1) (N := 8) hx hb hts (fun _ h9 => List.mem_cons_of_mem _ (List.mem_append_left _ (List.mem_append_right _ h9))) hown hK hP 1 rfl rfl 4 (by decide) (hts (.fieldLink RX0 74 "PalletStack$Kind" "weight" "I") (List.mem_of_getElem? (i := 3) (by rfl))) (fun _ h9 => h9) rfl dX0_shape_10 ?_
  refine va_put (D := D) (ci := 0) (v := .int 1) (ty := .int) (C := RX0) (T := TX0) (N := 18) hx hb hts (fun _ h9 => List.mem_cons_of_mem _ (List.mem_append_right _ h9)) tyX0 tyX0_ok nmX0 hown hK hP hD hS 0 rfl rfl 1 (by decide) (hts (.fieldLink RX0 15 "PalletStack$Item" "weight" "I") (List.mem_of_getElem? (i := 4) (by rfl))) (fun _ h9 => h9) rfl (by decide +kernel) rfl rfl (Nat.le_of_ble_eq_true rfl) dX0_shape_13 (fun H locs hP hD hS => ?_)
  have hP : va_P D vwCl ([(tr, .inr (0, [.int 0, .int 1, .int (w 2), .int (w 3), .int (w 4), .int (w 5), .int (w 6), .int (w 7), .int (w 8), .int (w 9), .int (w 10), .int (w 11), .int (w 12), .int (w 13), .int (w 14), .int (w 15), .ref su, .ref sc])), (k0, .inr (1, [.int 0, .int 1, .int 1, .int 2, .int 1, .int 0, .int 1, .int 0]))]) H := hP
  have hD : va_D A ([(tr, .inr (0, [.int 0, .int 1, .int (w 2), .int (w 3), .int (w 4), .int (w 5), .int (w 6), .int (w 7), .int (w 8), .int (w 9), .int (w 10), .int (w 11), .int (w 12), .int (w 13), .int (w 14), .int (w 15), .ref su, .ref sc])), (k0, .inr (1, [.int 0, .int 1, .int 1, .int 2, .int 1, .int 0, .int 1, .int 0]))]) := hD
  refine lv_aload_n hx hb dX0_shape_16 rfl (lv_at hl 0 rfl) ?_
  refine lv_aload_n hx hb dX0_shape_17 rfl (lv_at hl 1 rfl) ?_
  refine va_get (D := D) (ci := 1) (v := .int 0) (C := RX1) (T := TX1) (N := 8) hx hb hts (fun _ h9 => List.mem_cons_of_mem _ (List.mem_append_left _ (List.mem_append_right _ h9))) hown hK hP 1 rfl rfl 5 (by decide) (hts (.fieldLink RX0 75 "PalletStack$Kind" "strength" "I") (List.mem_of_getElem? (i := 5) (by rfl))) (fun _ h9 => h9) rfl dX0_shape_18 ?_
  refine va_put (D := D) (ci := 0) (v := .int 0) (ty := .int) (C := RX0) (T := TX0) (N := 18) hx hb hts (fun _ h9 => List.mem_cons_of_mem _ (List.mem_append_right _ h9)) tyX0 tyX0_ok nmX0 hown hK hP hD hS 0 rfl rfl 2 (by decide) (hts (.fieldLink RX0 18 "PalletStack$Item" "strength" "I") (List.mem_of_getElem? (i := 6) (by rfl))) (fun _ h9 => h9) rfl (by decide +kernel) rfl rfl (Nat.le_of_ble_eq_true rfl) dX0_shape_21 (fun H locs hP hD hS => ?_)
  have hP : va_P D vwCl ([(tr, .inr (0, [.int 0, .int 1, .int 0, .int (w 3), .int (w 4), .int (w 5), .int (w 6), .int (w 7), .int (w 8), .int (w 9), .int (w 10), .int (w 11), .int (w 12), .int (w 13), .int (w 14), .int (w 15), .ref su, .ref sc])), (k0, .inr (1, [.int 0, .int 1, .int 1, .int 2, .int 1, .int 0, .int 1, .int 0]))]) H := hP
  have hD : va_D A ([(tr, .inr (0, [.int 0, .int 1, .int 0, .int (w 3), .int (w 4), .int (w 5), .int (w 6), .int (w 7), .int (w 8), .int (w 9), .int (w 10), .int (w 11), .int (w 12), .int (w 13), .int (w 14), .int (w 15), .ref su, .ref sc])), (k0, .inr (1, [.int 0, .int 1, .int 1, .int 2, .int 1, .int 0, .int 1, .int 0]))]) := hD
  refine lv_aload_n hx hb dX0_shape_24 rfl (lv_at hl 0 rfl) ?_
  refine lv_iload_n hx hb dX0_shape_25 rfl (lv_at hl 2 rfl) ?_
  refine va_put (D := D) (ci := 0) (v := .int 1) (ty := .boolean) (C := RX0) (T := TX0) (N := 18) hx hb hts (fun _ h9 => List.mem_cons_of_mem _ (List.mem_append_right _ h9)) tyX0 tyX0_ok nmX0 hown hK hP hD hS 0 rfl rfl 3 (by decide) (hts (.fieldLink RX0 21 "PalletStack$Item" "isTurned" "Z") (List.mem_of_getElem? (i := 7) (by rfl))) (fun _ h9 => h9) rfl (by decide +kernel) rfl rfl (Nat.le_of_ble_eq_true rfl) dX0_shape_26 (fun H locs hP hD hS => ?_)
  have hP : va_P D vwCl ([(tr, .inr (0, [.int 0, .int 1, .int 0, .int 1, .int (w 4), .int (w 5), .int (w 6), .int (w 7), .int (w 8), .int (w 9), .int (w 10), .int (w 11), .int (w 12), .int (w 13), .int (w 14), .int (w 15), .ref su, .ref sc])), (k0, .inr (1, [.int 0, .int 1, .int 1, .int 2, .int 1, .int 0, .int 1, .int 0]))]) H := hP
  have hD : va_D A ([(tr, .inr (0, [.int 0, .int 1, .int 0, .int 1, .int (w 4), .int (w 5), .int (w 6), .int (w 7), .int (w 8), .int (w 9), .int (w 10), .int (w 11), .int (w 12), .int (w 13), .int (w 14), .int (w 15), .ref su, .ref sc])), (k0, .inr (1, [.int 0, .int 1, .int 1, .int 2, .int 1, .int 0, .int 1, .int 0]))]) := hD
  refine lv_aload_n hx hb dX0_shape_29 rfl (lv_at hl 0 rfl) ?_
  refine lv_iload_n hx hb dX0_shape_30 rfl (lv_at hl 2 rfl) ?_
  refine lv_if_eq (tgt := 41) hx hb dX0_shape_31 (by decide) (fun c_26 => absurd c_26 (by decide)) (fun c_26 => ?_)
  refine lv_aload_n hx hb dX0_shape_34 rfl (lv_at hl 1 rfl) ?_
  refine va_get (D := D) (ci := 1) (v := .int 1) (C := RX1) (T := TX1) (N := 8) hx hb hts (fun _ h9 => List.mem_cons_of_mem _ (List.mem_append_left _ (List.mem_append_right _ h9))) hown hK hP 1 rfl rfl 2 (by decide) (hts (.fieldLink RX0 76 "PalletStack$Kind" "depth" "I") (List.mem_of_getElem? (i := 8) (by rfl))) (fun _ h9 => h9) rfl dX0_shape_35 ?_
  refine lv_goto (tgt := 45) hx hb dX0_shape_38 (by decide) ?_
  refine va_put (D := D) (ci := 0) (v := .int 1) (ty := .int) (C := RX0) (T := TX0) (N := 18) hx hb hts (fun _ h9 => List.mem_cons_of_mem _ (List.mem_append_right _ h9)) tyX0 tyX0_ok nmX0 hown hK hP hD hS 0 rfl rfl 4 (by decide) (hts (.fieldLink RX0 25 "PalletStack$Item" "width" "I") (List.mem_of_getElem? (i := 10) (by rfl))) (fun _ h9 => h9) rfl (by decide +kernel) rfl rfl (Nat.le_of_ble_eq_true rfl) dX0_shape_45 (fun H locs hP hD hS => ?_)
  have hP : va_P D vwCl ([(tr, .inr (0, [.int 0, .int 1, .int 0, .int 1, .int 1, .int (w 5), .int (w 6), .int (w 7), .int (w 8), .int (w 9), .int (w 10), .int (w 11), .int (w 12), .int (w 13), .int (w 14), .int (w 15), .ref su, .ref sc])), (k0, .inr (1, [.int 0, .int 1, .int 1, .int 2, .int 1, .int 0, .int 1, .int 0]))]) H := hP
  have hD : va_D A ([(tr, .inr (0, [.int 0, .int 1, .int 0, .int 1, .int 1, .int (w 5), .int (w 6), .int (w 7), .int (w 8), .int (w 9), .int (w 10), .int (w 11), .int (w 12), .int (w 13), .int (w 14), .int (w 15), .ref su, .ref sc])), (k0, .inr (1, [.int 0, .int 1, .int 1, .int 2, .int 1, .int 0, .int 1, .int 0]))]) := hD
  refine lv_aload_n hx hb dX0_shape_48 rfl (lv_at hl 0 rfl) ?_
  refine lv_iload_n hx hb dX0_shape_49 rfl (lv_at hl 2 rfl) ?_
  refine lv_if_eq (tgt := 60) hx hb dX0_shape_50 (by decide) (fun c_27 => absurd c_27 (by decide)) (fun c_27 => ?_)
  refine lv_aload_n hx hb dX0_shape_53 rfl (lv_at hl 1 rfl) ?_
  refine va_get (D := D) (ci := 1) (v := .int 1) (C := RX1) (T := TX1) (N := 8) hx hb hts (fun _ h9 => List.mem_cons_of_mem _ (List.mem_append_left _ (List.mem_append_right _ h9))) hown hK hP 1 rfl rfl 1 (by decide) (hts (.fieldLink RX0 77 "PalletStack$Kind" "width" "I") (List.mem_of_getElem? (i := 9) (by rfl))) (fun _ h9 => h9) rfl dX0_shape_54 ?_
  refine lv_goto (tgt := 64) hx hb dX0_shape_57 (by decide) ?_
  refine va_put (D := D) (ci := 0) (v := .int 1) (ty := .int) (C := RX0) (T := TX0) (N := 18) hx hb hts (fun _ h9 => List.mem_cons_of_mem _ (List.mem_append_right _ h9)) tyX0 tyX0_ok nmX0 hown hK hP hD hS 0 rfl rfl 5 (by decide) (hts (.fieldLink RX0 28 "PalletStack$Item" "depth" "I") (List.mem_of_getElem? (i := 11) (by rfl))) (fun _ h9 => h9) rfl (by decide +kernel) rfl rfl (Nat.le_of_ble_eq_true rfl) dX0_shape_64 (fun H locs hP hD hS => ?_)
  have hP : va_P D vwCl ([(tr, .inr (0, [.int 0, .int 1, .int 0, .int 1, .int 1, .int 1, .int (w 6), .int (w 7), .int (w 8), .int (w 9), .int (w 10), .int (w 11), .int (w 12), .int (w 13), .int (w 14), .int (w 15), .ref su, .ref sc])), (k0, .inr (1, [.int 0, .int 1, .int 1, .int 2, .int 1, .int 0, .int 1, .int 0]))]) H := hP
  have hD : va_D A ([(tr, .inr (0, [.int 0, .int 1, .int 0, .int 1, .int 1, .int 1, .int (w 6), .int (w 7), .int (w 8), .int (w 9), .int (w 10), .int (w 11), .int (w 12), .int (w 13), .int (w 14), .int (w 15), .ref su, .ref sc])), (k0, .inr (1, [.int 0, .int 1, .int 1, .int 2, .int 1, .int 0, .int 1, .int 0]))]) := hD
  exact W.vret hx hb hr (fun t ht hW => ⟨⟨(), rfl, True.intro, ⟨Nat.zero_le _, by rw [ht]; exact hP, va_K.moved hW.alike (hK.sub (tys' := []) [] rfl), hD⟩⟩, hS.F ht⟩) hS.2.2 dX0_shape_67
theorem c_shape (l : Launch) (D : zG) (sz : Nat) (tr k0 su sc : Nat) (w : Nat → Int32) (t : Int32) (ht : t = 0 ∨ t = 1) : Met l yX0_shape wsX0_shape ({ frames := 0, cells := 0, slots := 0, locals := 0 }) (zPc D [] ([(tr, .inr (0, [.int (w 0), .int (w 1), .int (w 2), .int (w 3), .int (w 4), .int (w 5), .int (w 6), .int (w 7), .int (w 8), .int (w 9), .int (w 10), .int (w 11), .int (w 12), .int (w 13), .int (w 14), .int (w 15), .ref su, .ref sc])), (k0, .inr (1, [.int 0, .int 1, .int 1, .int 2, .int 1, .int 0, .int 1, .int 0]))]) sz [.ref tr, .ref k0, .int t]) (va_Qv (fun (u : Unit) => True) (zB D (va_A ([(tr, .inr (0, [.int (w 0), .int (w 1), .int (w 2), .int (w 3), .int (w 4), .int (w 5), .int (w 6), .int (w 7), .int (w 8), .int (w 9), .int (w 10), .int (w 11), .int (w 12), .int (w 13), .int (w 14), .int (w 15), .ref su, .ref sc])), (k0, .inr (1, [.int 0, .int 1, .int 1, .int 2, .int 1, .int 0, .int 1, .int 0]))]) sz) (fun _ => []) 0 (fun _ => [(tr, .inr (0, [.int 0, .int 1, .int 0, .int t, .int 1, .int 1, .int (w 6), .int (w 7), .int (w 8), .int (w 9), .int (w 10), .int (w 11), .int (w 12), .int (w 13), .int (w 14), .int (w 15), .ref su, .ref sc])), (k0, .inr (1, [.int 0, .int 1, .int 1, .int 2, .int 1, .int 0, .int 1, .int 0]))])) (va_A ([(tr, .inr (0, [.int (w 0), .int (w 1), .int (w 2), .int (w 3), .int (w 4), .int (w 5), .int (w 6), .int (w 7), .int (w 8), .int (w 9), .int (w 10), .int (w 11), .int (w 12), .int (w 13), .int (w 14), .int (w 15), .ref su, .ref sc])), (k0, .inr (1, [.int 0, .int 1, .int 1, .int 2, .int 1, .int 0, .int 1, .int 0]))]) sz)) 0 0 (va_A ([(tr, .inr (0, [.int (w 0), .int (w 1), .int (w 2), .int (w 3), .int (w 4), .int (w 5), .int (w 6), .int (w 7), .int (w 8), .int (w 9), .int (w 10), .int (w 11), .int (w 12), .int (w 13), .int (w 14), .int (w 15), .ref su, .ref sc])), (k0, .inr (1, [.int 0, .int 1, .int 1, .int 2, .int 1, .int 0, .int 1, .int 0]))]) sz) := by
  rcases ht with rfl | rfl
  · exact c_shape_0 l D sz tr k0 su sc w
  · exact c_shape_1 l D sz tr k0 su sc w
set_option maxHeartbeats 4000000 in
set_option maxRecDepth 100000 in
theorem c_topOf (l : Launch) (D : zG) (sz : Nat) (o kA iA tA tr lA n : Nat) (cT : ClassId) (a b : Nat) (ha : a < 12) (hb2 : b < 10) : Met l yX3_topOf wsX3_topOf ({ frames := 0, cells := 0, slots := 0, locals := 0 }) (zPc D [(cT, .int)] ([(o, .inr (3, [.ref kA, .int 1, .int 1, .int 0, .int 1, .int 0, .ref iA, .int 0, .int 0, .int 0, .ref tA, .ref tr, .ref lA, .int (nI n)])), (tA, .inl (cT, 120, .inl (fun _ => 0)))]) sz [.ref o, .int (nI a), .int (nI b)]) (vp_Si (fun r => r = 0)) 0 0 (fun _ => False) := by
  refine Met.ofW (cc := cX3_topOf) (maxL := 4) (ret := (some .int)) (by decide) rfl ?_
  intro p e s m args below meth c s₁ B hml hv
  obtain ⟨rfl, hsz, hP, hK, hD0⟩ := hv
  have hx := B.exec
  have hb := B.bytes
  have hr := B.returns
  have hts := atoms_spec (ws := wsX3_topOf) B.pre
  have hown : s.vm.findClass RX3 = some m.cls := findClass_of_methodNamed B.named
  have hlocks := B.notSynchronized
  subst hsz
  have hD := hD0
  generalize hAe : (fun _ : Nat => True) = A at hD
  have hl := lv_entry ([.ref o, .int (nI a), .int (nI b)]) (n := 4) (Nat.le_of_ble_eq_true rfl)
  rw [lg_entry_eq]
  generalize (lg_sl ([.ref o, .int (nI a), .int (nI b)]) ++ List.replicate (4 - (lg_sl ([.ref o, .int (nI a), .int (nI b)])).length) Slot.unset).toArray = ls at hl ⊢
  have hl : lv_has ls 4 [(0, .ref o), (1, .int (nI a)), (2, .int (nI b))] := hl
  have hP : va_P D vwCl ([(o, .inr (3, [.ref kA, .int 1, .int 1, .int 0, .int 1, .int 0, .ref iA, .int 0, .int 0, .int 0, .ref tA, .ref tr, .ref lA, .int (nI n)])), (tA, .inl (cT, 120, .inl (fun _ => 0)))]) s.heap := hP
  generalize hRe : (headSpec _ _).room = R
  have hRf : R.frames = 0 := by rw [← hRe]; rfl
  have hRc : R.cells = 0 := by rw [← hRe]; rfl
  have hRs : R.slots = 0 := by rw [← hRe]; rfl
  have hRl : R.locals = 0 := by rw [← hRe]; rfl
  clear hRe
  refine lv_iload_n hx hb dX3_topOf_0 rfl (lv_at hl 2 rfl) ?_
  refine lv_bipush (v := 12) hx hb dX3_topOf_1 (by decide) ?_
  refine lv_imul hx hb dX3_topOf_3 ?_
  refine lv_topi (fun v_28 ev_28 => ?_)
  obtain rfl : v_28 = (nI (b * 12)) := ev_28.trans (pk_mul b 12)
  refine lv_iload_n hx hb dX3_topOf_4 rfl (lv_at hl 1 rfl) ?_
  refine lv_iadd hx hb dX3_topOf_5 ?_
  refine lv_topi (fun v_29 ev_29 => ?_)
  obtain rfl : v_29 = (nI (b * 12 + a)) := ev_29.trans (nI_add _ _)
  refine lv_istore_n (lv' := [(3, .int (nI (b * 12 + a))), (0, .ref o), (1, .int (nI a)), (2, .int (nI b))]) hx hb dX3_topOf_6 rfl hl (by decide) rfl (fun ls hl => ?_)
  refine lv_iload_n hx hb dX3_topOf_7 rfl (lv_at hl 0 rfl) ?_
  refine lv_if_lt (tgt := 26) hx hb dX3_topOf_8 (by decide) (fun c_30 => absurd c_30 (nI_pos (by omega))) (fun c_30 => ?_)
  refine lv_iload_n hx hb dX3_topOf_11 rfl (lv_at hl 0 rfl) ?_
  refine lv_bipush (v := 120) hx hb dX3_topOf_12 (by decide) ?_
  refine lv_icmp_ge (tgt := 26) hx hb dX3_topOf_14 (by decide) (fun c_31 => absurd c_31 (nI_ge (b := 120) (by omega) (by decide))) (fun c_31 => ?_)
  refine lv_aload_n hx hb dX3_topOf_17 rfl (lv_at hl 1 rfl) ?_
  refine va_get (D := D) (ci := 3) (v := .ref tA) (C := RX3) (T := TX3) (N := 14) hx hb hts (fun _ h9 => List.mem_cons_of_mem _ (List.mem_append_right _ h9)) hown hK hP 0 rfl rfl 10 (by decide) (hts (.fieldLink RX3 47 "PalletStack" "tops" "[I") (List.mem_of_getElem? (i := 1) (by rfl))) (fun _ h9 => h9) rfl dX3_topOf_18 ?_
  refine lv_iload_n hx hb dX3_topOf_21 rfl (lv_at hl 0 rfl) ?_
  refine va_iald hx hb hK hP 1 0 rfl rfl (vp_in_nI (N := 120) (by omega) (by decide)) dX3_topOf_22 ?_
  refine lv_topi (fun v_32 ev_32 => ?_)
  obtain rfl : v_32 = 0 := ev_32.trans rfl
  refine lv_goto (tgt := 27) hx hb dX3_topOf_23 (by decide) ?_
  exact W.iret (v := 0) hx hb hr (fun t ht hW => ⟨0, rfl, rfl, ht⟩) (fun _ h => by cases h) dX3_topOf_27
set_option maxHeartbeats 4000000 in
set_option maxRecDepth 100000 in
theorem c_letDown (l : Launch) (D : zG) (sz : Nat) (o kA iA tA tr lA n : Nat) (k0 su sc : Nat) (w : Nat → Int32) (cT : ClassId) (a b : Nat) (ha : a < 12) (hb2 : b < 10) (t : Int32) (ht : t = 0 ∨ t = 1) : Met l yX3_letDown wsX3_letDown ({ frames := 1, cells := 0, slots := 0, locals := 23 }) (zPc D [(cT, .int)] ([(o, .inr (3, [.ref kA, .int 1, .int 1, .int 0, .int 1, .int 0, .ref iA, .int 0, .int 0, .int 0, .ref tA, .ref tr, .ref lA, .int (nI n)])), (tA, .inl (cT, 120, .inl (fun _ => 0))), (tr, .inr (0, [.int (w 0), .int (w 1), .int (w 2), .int (w 3), .int (w 4), .int (w 5), .int (w 6), .int (w 7), .int (w 8), .int (w 9), .int (w 10), .int (w 11), .int (w 12), .int (w 13), .int (w 14), .int (w 15), .ref su, .ref sc])), (k0, .inr (1, [.int 0, .int 1, .int 1, .int 2, .int 1, .int 0, .int 1, .int 0]))]) sz [.ref o, .ref k0, .int (nI a), .int (nI b), .int t]) (va_Qv (fun (u : Unit) => True) (zB D (va_A ([(o, .inr (3, [.ref kA, .int 1, .int 1, .int 0, .int 1, .int 0, .ref iA, .int 0, .int 0, .int 0, .ref tA, .ref tr, .ref lA, .int (nI n)])), (tA, .inl (cT, 120, .inl (fun _ => 0))), (tr, .inr (0, [.int (w 0), .int (w 1), .int (w 2), .int (w 3), .int (w 4), .int (w 5), .int (w 6), .int (w 7), .int (w 8), .int (w 9), .int (w 10), .int (w 11), .int (w 12), .int (w 13), .int (w 14), .int (w 15), .ref su, .ref sc])), (k0, .inr (1, [.int 0, .int 1, .int 1, .int 2, .int 1, .int 0, .int 1, .int 0]))]) sz) (fun _ => []) 0 (fun _ => [(o, .inr (3, [.ref kA, .int 1, .int 1, .int 0, .int 1, .int 0, .ref iA, .int 0, .int 0, .int 0, .ref tA, .ref tr, .ref lA, .int (nI n)])), (tA, .inl (cT, 120, .inl (fun _ => 0))), (tr, .inr (0, [.int 0, .int 1, .int 0, .int t, .int 1, .int 1, .int (nI a), .int (nI b), .int 0, .int 2, .int 1, .int (w 11), .int (w 12), .int (w 13), .int (w 14), .int (w 15), .ref su, .ref sc])), (k0, .inr (1, [.int 0, .int 1, .int 1, .int 2, .int 1, .int 0, .int 1, .int 0]))])) (va_A ([(o, .inr (3, [.ref kA, .int 1, .int 1, .int 0, .int 1, .int 0, .ref iA, .int 0, .int 0, .int 0, .ref tA, .ref tr, .ref lA, .int (nI n)])), (tA, .inl (cT, 120, .inl (fun _ => 0))), (tr, .inr (0, [.int (w 0), .int (w 1), .int (w 2), .int (w 3), .int (w 4), .int (w 5), .int (w 6), .int (w 7), .int (w 8), .int (w 9), .int (w 10), .int (w 11), .int (w 12), .int (w 13), .int (w 14), .int (w 15), .ref su, .ref sc])), (k0, .inr (1, [.int 0, .int 1, .int 1, .int 2, .int 1, .int 0, .int 1, .int 0]))]) sz)) 0 0 (va_A ([(o, .inr (3, [.ref kA, .int 1, .int 1, .int 0, .int 1, .int 0, .ref iA, .int 0, .int 0, .int 0, .ref tA, .ref tr, .ref lA, .int (nI n)])), (tA, .inl (cT, 120, .inl (fun _ => 0))), (tr, .inr (0, [.int (w 0), .int (w 1), .int (w 2), .int (w 3), .int (w 4), .int (w 5), .int (w 6), .int (w 7), .int (w 8), .int (w 9), .int (w 10), .int (w 11), .int (w 12), .int (w 13), .int (w 14), .int (w 15), .ref su, .ref sc])), (k0, .inr (1, [.int 0, .int 1, .int 1, .int 2, .int 1, .int 0, .int 1, .int 0]))]) sz) := by
  refine Met.ofW (cc := cX3_letDown) (maxL := 10) (ret := none) (by decide) rfl ?_
  intro p e s m args below meth c s₁ B hml hv
  obtain ⟨rfl, hsz, hP, hK, hD0⟩ := hv
  have hx := B.exec
  have hb := B.bytes
  have hr := B.returns
  have hts := atoms_spec (ws := wsX3_letDown) B.pre
  have hown : s.vm.findClass RX3 = some m.cls := findClass_of_methodNamed B.named
  have hlocks := B.notSynchronized
  subst hsz
  have hD := hD0.self (sz := s.heap.size)
  generalize hAe : va_A ([(o, .inr (3, [.ref kA, .int 1, .int 1, .int 0, .int 1, .int 0, .ref iA, .int 0, .int 0, .int 0, .ref tA, .ref tr, .ref lA, .int (nI n)])), (tA, .inl (cT, 120, .inl (fun _ => 0))), (tr, .inr (0, [.int (w 0), .int (w 1), .int (w 2), .int (w 3), .int (w 4), .int (w 5), .int (w 6), .int (w 7), .int (w 8), .int (w 9), .int (w 10), .int (w 11), .int (w 12), .int (w 13), .int (w 14), .int (w 15), .ref su, .ref sc])), (k0, .inr (1, [.int 0, .int 1, .int 1, .int 2, .int 1, .int 0, .int 1, .int 0]))]) s.heap.size = A at hD ⊢
  have hA : ∀ q : Nat, s.heap.size ≤ q → A q := fun q h => by rw [← hAe]; exact Or.inr h
  have hS : va_S A s.heap s.heap [] := va_S.rf
  have hl := lv_entry ([.ref o, .ref k0, .int (nI a), .int (nI b), .int t]) (n := 10) (Nat.le_of_ble_eq_true rfl)
  rw [lg_entry_eq]
  generalize (lg_sl ([.ref o, .ref k0, .int (nI a), .int (nI b), .int t]) ++ List.replicate (10 - (lg_sl ([.ref o, .ref k0, .int (nI a), .int (nI b), .int t])).length) Slot.unset).toArray = ls at hl ⊢
  have hl : lv_has ls 10 [(0, .ref o), (1, .ref k0), (2, .int (nI a)), (3, .int (nI b)), (4, .int t)] := hl
  have hP : va_P D vwCl ([(o, .inr (3, [.ref kA, .int 1, .int 1, .int 0, .int 1, .int 0, .ref iA, .int 0, .int 0, .int 0, .ref tA, .ref tr, .ref lA, .int (nI n)])), (tA, .inl (cT, 120, .inl (fun _ => 0))), (tr, .inr (0, [.int (w 0), .int (w 1), .int (w 2), .int (w 3), .int (w 4), .int (w 5), .int (w 6), .int (w 7), .int (w 8), .int (w 9), .int (w 10), .int (w 11), .int (w 12), .int (w 13), .int (w 14), .int (w 15), .ref su, .ref sc])), (k0, .inr (1, [.int 0, .int 1, .int 1, .int 2, .int 1, .int 0, .int 1, .int 0]))]) s.heap := hP
  generalize hRe : (headSpec _ _).room = R
  have hRf : R.frames = 1 := by rw [← hRe]; rfl
  have hRc : R.cells = 0 := by rw [← hRe]; rfl
  have hRs : R.slots = 0 := by rw [← hRe]; rfl
  have hRl : R.locals = 23 := by rw [← hRe]; rfl
  clear hRe
  refine lv_aload_n hx hb dX3_letDown_0 rfl (lv_at hl 0 rfl) ?_
  refine va_get (D := D) (ci := 3) (v := .ref tr) (C := RX3) (T := TX3) (N := 14) hx hb hts (fun _ h9 => List.mem_cons_of_mem _ (List.mem_append_left _ (List.mem_append_left _ (List.mem_append_right _ h9)))) hown hK hP 0 rfl rfl 11 (by decide) (hts (.fieldLink RX3 52 "PalletStack" "trial" "LPalletStack$Item;") (List.mem_of_getElem? (i := 1) (by rfl))) (fun _ h9 => h9) rfl dX3_letDown_1 ?_
  refine lv_aload_n hx hb dX3_letDown_4 rfl (lv_at hl 1 rfl) ?_
  refine lv_iload hx hb dX3_letDown_5 (lv_at hl 4 rfl) ?_
  refine zcallvV (As := [.ref k0, .int t]) (rest := []) (wc := [(tr, .inr (0, [.int (w 0), .int (w 1), .int (w 2), .int (w 3), .int (w 4), .int (w 5), .int (w 6), .int (w 7), .int (w 8), .int (w 9), .int (w 10), .int (w 11), .int (w 12), .int (w 13), .int (w 14), .int (w 15), .ref su, .ref sc])), (k0, .inr (1, [.int 0, .int 1, .int 1, .int 2, .int 1, .int 0, .int 1, .int 0]))]) (wr := [(o, .inr (3, [.ref kA, .int 1, .int 1, .int 0, .int 1, .int 0, .ref iA, .int 0, .int 0, .int 0, .ref tA, .ref tr, .ref lA, .int (nI n)])), (tA, .inl (cT, 120, .inl (fun _ => 0)))]) ⟨hx, hb, hml, hown, hts⟩ (c_shape l D _ tr k0 su sc w t ht) (cwV 2 hts gX3_letDown_X0_shape rfl rfl rfl (by decide +kernel) ⟨by rw [hRf]; exact Nat.le_of_ble_eq_true rfl, by rw [hRl]; exact Nat.le_of_ble_eq_true rfl⟩) hK hP hD hS hA [2, 3] [0, 1] rfl (by decide) rfl (by decide) (by decide) [] rfl (ci := 0) (q0 := 2) rfl rfl rfl hl.1 rfl (Nat.le_of_ble_eq_true rfl) dX3_letDown_7 ⟨by omega, by omega⟩ (fun u_34 H locs hwu_34 hnu_34 hzu_34 hK hP hD hS => ?_)
  have hK : va_K D vwCl [(cT, .int)] s := hK
  have hP : va_P D vwCl ([(o, .inr (3, [.ref kA, .int 1, .int 1, .int 0, .int 1, .int 0, .ref iA, .int 0, .int 0, .int 0, .ref tA, .ref tr, .ref lA, .int (nI n)])), (tA, .inl (cT, 120, .inl (fun _ => 0))), (tr, .inr (0, [.int 0, .int 1, .int 0, .int t, .int 1, .int 1, .int (w 6), .int (w 7), .int (w 8), .int (w 9), .int (w 10), .int (w 11), .int (w 12), .int (w 13), .int (w 14), .int (w 15), .ref su, .ref sc])), (k0, .inr (1, [.int 0, .int 1, .int 1, .int 2, .int 1, .int 0, .int 1, .int 0]))]) H := hP
  have hD : va_D A ([(o, .inr (3, [.ref kA, .int 1, .int 1, .int 0, .int 1, .int 0, .ref iA, .int 0, .int 0, .int 0, .ref tA, .ref tr, .ref lA, .int (nI n)])), (tA, .inl (cT, 120, .inl (fun _ => 0))), (tr, .inr (0, [.int 0, .int 1, .int 0, .int t, .int 1, .int 1, .int (w 6), .int (w 7), .int (w 8), .int (w 9), .int (w 10), .int (w 11), .int (w 12), .int (w 13), .int (w 14), .int (w 15), .ref su, .ref sc])), (k0, .inr (1, [.int 0, .int 1, .int 1, .int 2, .int 1, .int 0, .int 1, .int 0]))]) := hD
  have hP := hP.sub (ws' := [(o, .inr (3, [.ref kA, .int 1, .int 1, .int 0, .int 1, .int 0, .ref iA, .int 0, .int 0, .int 0, .ref tA, .ref tr, .ref lA, .int (nI n)])), (tA, .inl (cT, 120, .inl (fun _ => 0))), (tr, .inr (0, [.int 0, .int 1, .int 0, .int t, .int 1, .int 1, .int (w 6), .int (w 7), .int (w 8), .int (w 9), .int (w 10), .int (w 11), .int (w 12), .int (w 13), .int (w 14), .int (w 15), .ref su, .ref sc])), (k0, .inr (1, [.int 0, .int 1, .int 1, .int 2, .int 1, .int 0, .int 1, .int 0]))]) [0, 1, 2, 3] rfl
  have hD := hD.sub (ws' := [(o, .inr (3, [.ref kA, .int 1, .int 1, .int 0, .int 1, .int 0, .ref iA, .int 0, .int 0, .int 0, .ref tA, .ref tr, .ref lA, .int (nI n)])), (tA, .inl (cT, 120, .inl (fun _ => 0))), (tr, .inr (0, [.int 0, .int 1, .int 0, .int t, .int 1, .int 1, .int (w 6), .int (w 7), .int (w 8), .int (w 9), .int (w 10), .int (w 11), .int (w 12), .int (w 13), .int (w 14), .int (w 15), .ref su, .ref sc])), (k0, .inr (1, [.int 0, .int 1, .int 1, .int 2, .int 1, .int 0, .int 1, .int 0]))]) [0, 1, 2, 3] (by decide) rfl
  refine lv_aload_n hx hb dX3_letDown_10 rfl (lv_at hl 0 rfl) ?_
  refine va_get (D := D) (ci := 3) (v := .ref tr) (C := RX3) (T := TX3) (N := 14) hx hb hts (fun _ h9 => List.mem_cons_of_mem _ (List.mem_append_left _ (List.mem_append_left _ (List.mem_append_right _ h9)))) hown hK hP 0 rfl rfl 11 (by decide) (hts (.fieldLink RX3 52 "PalletStack" "trial" "LPalletStack$Item;") (List.mem_of_getElem? (i := 1) (by rfl))) (fun _ h9 => h9) rfl dX3_letDown_11 ?_
  refine lv_iload_n hx hb dX3_letDown_14 rfl (lv_at hl 2 rfl) ?_
  refine va_put (D := D) (ci := 0) (v := .int (nI a)) (ty := .int) (C := RX0) (T := TX0) (N := 18) hx hb hts (fun _ h9 => List.mem_cons_of_mem _ (List.mem_append_left _ (List.mem_append_right _ h9))) tyX0 tyX0_ok nmX0 hown hK hP hD hS 2 rfl rfl 6 (by decide) (hts (.fieldLink RX3 182 "PalletStack$Item" "x" "I") (List.mem_of_getElem? (i := 2) (by rfl))) (fun _ h9 => h9) rfl (by decide +kernel) rfl rfl (Nat.le_of_ble_eq_true rfl) dX3_letDown_15 (fun H locs hP hD hS => ?_)
  have hP : va_P D vwCl ([(o, .inr (3, [.ref kA, .int 1, .int 1, .int 0, .int 1, .int 0, .ref iA, .int 0, .int 0, .int 0, .ref tA, .ref tr, .ref lA, .int (nI n)])), (tA, .inl (cT, 120, .inl (fun _ => 0))), (tr, .inr (0, [.int 0, .int 1, .int 0, .int t, .int 1, .int 1, .int (nI a), .int (w 7), .int (w 8), .int (w 9), .int (w 10), .int (w 11), .int (w 12), .int (w 13), .int (w 14), .int (w 15), .ref su, .ref sc])), (k0, .inr (1, [.int 0, .int 1, .int 1, .int 2, .int 1, .int 0, .int 1, .int 0]))]) H := hP
  have hD : va_D A ([(o, .inr (3, [.ref kA, .int 1, .int 1, .int 0, .int 1, .int 0, .ref iA, .int 0, .int 0, .int 0, .ref tA, .ref tr, .ref lA, .int (nI n)])), (tA, .inl (cT, 120, .inl (fun _ => 0))), (tr, .inr (0, [.int 0, .int 1, .int 0, .int t, .int 1, .int 1, .int (nI a), .int (w 7), .int (w 8), .int (w 9), .int (w 10), .int (w 11), .int (w 12), .int (w 13), .int (w 14), .int (w 15), .ref su, .ref sc])), (k0, .inr (1, [.int 0, .int 1, .int 1, .int 2, .int 1, .int 0, .int 1, .int 0]))]) := hD
  refine lv_aload_n hx hb dX3_letDown_18 rfl (lv_at hl 0 rfl) ?_
  refine va_get (D := D) (ci := 3) (v := .ref tr) (C := RX3) (T := TX3) (N := 14) hx hb hts (fun _ h9 => List.mem_cons_of_mem _ (List.mem_append_left _ (List.mem_append_left _ (List.mem_append_right _ h9)))) hown hK hP 0 rfl rfl 11 (by decide) (hts (.fieldLink RX3 52 "PalletStack" "trial" "LPalletStack$Item;") (List.mem_of_getElem? (i := 1) (by rfl))) (fun _ h9 => h9) rfl dX3_letDown_19 ?_
  refine lv_iload_n hx hb dX3_letDown_22 rfl (lv_at hl 3 rfl) ?_
  refine va_put (D := D) (ci := 0) (v := .int (nI b)) (ty := .int) (C := RX0) (T := TX0) (N := 18) hx hb hts (fun _ h9 => List.mem_cons_of_mem _ (List.mem_append_left _ (List.mem_append_right _ h9))) tyX0 tyX0_ok nmX0 hown hK hP hD hS 2 rfl rfl 7 (by decide) (hts (.fieldLink RX3 176 "PalletStack$Item" "y" "I") (List.mem_of_getElem? (i := 3) (by rfl))) (fun _ h9 => h9) rfl (by decide +kernel) rfl rfl (Nat.le_of_ble_eq_true rfl) dX3_letDown_23 (fun H locs hP hD hS => ?_)
  have hP : va_P D vwCl ([(o, .inr (3, [.ref kA, .int 1, .int 1, .int 0, .int 1, .int 0, .ref iA, .int 0, .int 0, .int 0, .ref tA, .ref tr, .ref lA, .int (nI n)])), (tA, .inl (cT, 120, .inl (fun _ => 0))), (tr, .inr (0, [.int 0, .int 1, .int 0, .int t, .int 1, .int 1, .int (nI a), .int (nI b), .int (w 8), .int (w 9), .int (w 10), .int (w 11), .int (w 12), .int (w 13), .int (w 14), .int (w 15), .ref su, .ref sc])), (k0, .inr (1, [.int 0, .int 1, .int 1, .int 2, .int 1, .int 0, .int 1, .int 0]))]) H := hP
  have hD : va_D A ([(o, .inr (3, [.ref kA, .int 1, .int 1, .int 0, .int 1, .int 0, .ref iA, .int 0, .int 0, .int 0, .ref tA, .ref tr, .ref lA, .int (nI n)])), (tA, .inl (cT, 120, .inl (fun _ => 0))), (tr, .inr (0, [.int 0, .int 1, .int 0, .int t, .int 1, .int 1, .int (nI a), .int (nI b), .int (w 8), .int (w 9), .int (w 10), .int (w 11), .int (w 12), .int (w 13), .int (w 14), .int (w 15), .ref su, .ref sc])), (k0, .inr (1, [.int 0, .int 1, .int 1, .int 2, .int 1, .int 0, .int 1, .int 0]))]) := hD
  refine lv_iconst (v := 0) hx hb dX3_letDown_26 (by decide) ?_
  refine lv_istore (lv' := [(5, .int 0), (0, .ref o), (1, .ref k0), (2, .int (nI a)), (3, .int (nI b)), (4, .int t)]) hx hb dX3_letDown_27 hl (by decide) rfl (fun ls hl => ?_)
  refine lv_iconst (v := 0) hx hb dX3_letDown_29 (by decide) ?_
  refine lv_istore (lv' := [(6, .int 0), (5, .int 0), (0, .ref o), (1, .ref k0), (2, .int (nI a)), (3, .int (nI b)), (4, .int t)]) hx hb dX3_letDown_30 hl (by decide) rfl (fun ls hl => ?_)
  refine lv_iload_n hx hb dX3_letDown_32 rfl (lv_at hl 5 rfl) ?_
  refine lv_istore (lv' := [(7, .int (nI b)), (6, .int 0), (5, .int 0), (0, .ref o), (1, .ref k0), (2, .int (nI a)), (3, .int (nI b)), (4, .int t)]) hx hb dX3_letDown_33 hl (by decide) rfl (fun ls hl => ?_)
  refine lv_iload hx hb dX3_letDown_35 (lv_at hl 0 rfl) ?_
  refine lv_iload_n hx hb dX3_letDown_37 rfl (lv_at hl 6 rfl) ?_
  refine lv_aload_n hx hb dX3_letDown_38 rfl (lv_at hl 3 rfl) ?_
  refine va_get (D := D) (ci := 3) (v := .ref tr) (C := RX3) (T := TX3) (N := 14) hx hb hts (fun _ h9 => List.mem_cons_of_mem _ (List.mem_append_left _ (List.mem_append_left _ (List.mem_append_right _ h9)))) hown hK hP 0 rfl rfl 11 (by decide) (hts (.fieldLink RX3 52 "PalletStack" "trial" "LPalletStack$Item;") (List.mem_of_getElem? (i := 1) (by rfl))) (fun _ h9 => h9) rfl dX3_letDown_39 ?_
  refine va_get (D := D) (ci := 0) (v := .int 1) (C := RX0) (T := TX0) (N := 18) hx hb hts (fun _ h9 => List.mem_cons_of_mem _ (List.mem_append_left _ (List.mem_append_right _ h9))) hown hK hP 2 rfl rfl 5 (by decide) (hts (.fieldLink RX3 179 "PalletStack$Item" "depth" "I") (List.mem_of_getElem? (i := 4) (by rfl))) (fun _ h9 => h9) rfl dX3_letDown_42 ?_
  refine lv_iadd hx hb dX3_letDown_45 ?_
  refine lv_topi (fun v_35 ev_35 => ?_)
  obtain rfl : v_35 = (nI (b + 1)) := ev_35.trans (nI_1 b)
  refine lv_icmp_ge (tgt := 115) hx hb dX3_letDown_46 (by decide) (fun c_36 => absurd c_36 (nI_ge (by omega) (by omega))) (fun c_36 => ?_)
  refine lv_iload_n hx hb dX3_letDown_49 rfl (lv_at hl 5 rfl) ?_
  refine lv_istore (lv' := [(8, .int (nI a)), (7, .int (nI b)), (6, .int 0), (5, .int 0), (0, .ref o), (1, .ref k0), (2, .int (nI a)), (3, .int (nI b)), (4, .int t)]) hx hb dX3_letDown_50 hl (by decide) rfl (fun ls hl => ?_)
  refine lv_iload hx hb dX3_letDown_52 (lv_at hl 0 rfl) ?_
  refine lv_iload_n hx hb dX3_letDown_54 rfl (lv_at hl 6 rfl) ?_
  refine lv_aload_n hx hb dX3_letDown_55 rfl (lv_at hl 4 rfl) ?_
  refine va_get (D := D) (ci := 3) (v := .ref tr) (C := RX3) (T := TX3) (N := 14) hx hb hts (fun _ h9 => List.mem_cons_of_mem _ (List.mem_append_left _ (List.mem_append_left _ (List.mem_append_right _ h9)))) hown hK hP 0 rfl rfl 11 (by decide) (hts (.fieldLink RX3 52 "PalletStack" "trial" "LPalletStack$Item;") (List.mem_of_getElem? (i := 1) (by rfl))) (fun _ h9 => h9) rfl dX3_letDown_56 ?_
  refine va_get (D := D) (ci := 0) (v := .int 1) (C := RX0) (T := TX0) (N := 18) hx hb hts (fun _ h9 => List.mem_cons_of_mem _ (List.mem_append_left _ (List.mem_append_right _ h9))) hown hK hP 2 rfl rfl 4 (by decide) (hts (.fieldLink RX3 185 "PalletStack$Item" "width" "I") (List.mem_of_getElem? (i := 5) (by rfl))) (fun _ h9 => h9) rfl dX3_letDown_59 ?_
  refine lv_iadd hx hb dX3_letDown_62 ?_
  refine lv_topi (fun v_37 ev_37 => ?_)
  obtain rfl : v_37 = (nI (a + 1)) := ev_37.trans (nI_1 a)
  refine lv_icmp_ge (tgt := 109) hx hb dX3_letDown_63 (by decide) (fun c_38 => absurd c_38 (nI_ge (by omega) (by omega))) (fun c_38 => ?_)
  refine lv_aload_n hx hb dX3_letDown_66 rfl (lv_at hl 4 rfl) ?_
  refine lv_iload hx hb dX3_letDown_67 (lv_at hl 0 rfl) ?_
  refine lv_iload hx hb dX3_letDown_69 (lv_at hl 1 rfl) ?_
  refine zrdV (As := [.int (nI a), .int (nI b)]) (rest := []) (wc := [(o, .inr (3, [.ref kA, .int 1, .int 1, .int 0, .int 1, .int 0, .ref iA, .int 0, .int 0, .int 0, .ref tA, .ref tr, .ref lA, .int (nI n)])), (tA, .inl (cT, 120, .inl (fun _ => 0)))]) ⟨hx, hb, hml, hown, hts⟩ (c_topOf l D _ o kA iA tA tr lA n cT a b ha hb2) (cwV 2 hts gX3_letDown_X3_topOf rfl rfl rfl (by decide +kernel) ⟨by rw [hRf]; exact Nat.le_of_ble_eq_true rfl, by rw [hRl]; exact Nat.le_of_ble_eq_true rfl⟩) hK hP hD [0, 1] rfl (by decide) [0] rfl (ci := 3) (q0 := 0) rfl rfl rfl hl.1 rfl (Nat.le_of_ble_eq_true rfl) dX3_letDown_71 ⟨by omega, by omega⟩ (fun r_39 hr_39 => ?_)
  refine lv_topi (fun v_40 ev_40 => ?_)
  obtain rfl : v_40 = 0 := ev_40.trans hr_39
  refine lv_istore (lv' := [(9, .int 0), (8, .int (nI a)), (7, .int (nI b)), (6, .int 0), (5, .int 0), (0, .ref o), (1, .ref k0), (2, .int (nI a)), (3, .int (nI b)), (4, .int t)]) hx hb dX3_letDown_74 hl (by decide) rfl (fun ls hl => ?_)
  refine lv_iload hx hb dX3_letDown_76 (lv_at hl 0 rfl) ?_
  refine lv_iload hx hb dX3_letDown_78 (lv_at hl 4 rfl) ?_
  refine lv_icmp_le (tgt := 93) hx hb dX3_letDown_80 (by decide) (fun c_41 => ?_) (fun c_41 => absurd (by decide) c_41)
  refine lv_iload hx hb dX3_letDown_93 (lv_at hl 0 rfl) ?_
  refine lv_iload hx hb dX3_letDown_95 (lv_at hl 4 rfl) ?_
  refine lv_icmp_ne (tgt := 103) hx hb dX3_letDown_97 (by decide) (fun c_42 => absurd (rfl) c_42) (fun c_42 => ?_)
  refine lv_iinc (v := 1) (lv' := [(6, .int 1), (9, .int 0), (8, .int (nI a)), (7, .int (nI b)), (5, .int 0), (0, .ref o), (1, .ref k0), (2, .int (nI a)), (3, .int (nI b)), (4, .int t)]) hx hb dX3_letDown_100 hl (k := 3) rfl (rfl) (by decide) rfl (fun ls hl => ?_)
  refine lv_iinc (v := (nI (a + 1))) (lv' := [(8, .int (nI (a + 1))), (6, .int 1), (9, .int 0), (7, .int (nI b)), (5, .int 0), (0, .ref o), (1, .ref k0), (2, .int (nI a)), (3, .int (nI b)), (4, .int t)]) hx hb dX3_letDown_103 hl (k := 2) rfl (nI_1 a) (by decide) rfl (fun ls hl => ?_)
  refine lv_goto (tgt := 52) hx hb dX3_letDown_106 (by decide) ?_
  refine lv_iload hx hb dX3_letDown_52 (lv_at hl 0 rfl) ?_
  refine lv_iload_n hx hb dX3_letDown_54 rfl (lv_at hl 7 rfl) ?_
  refine lv_aload_n hx hb dX3_letDown_55 rfl (lv_at hl 5 rfl) ?_
  refine va_get (D := D) (ci := 3) (v := .ref tr) (C := RX3) (T := TX3) (N := 14) hx hb hts (fun _ h9 => List.mem_cons_of_mem _ (List.mem_append_left _ (List.mem_append_left _ (List.mem_append_right _ h9)))) hown hK hP 0 rfl rfl 11 (by decide) (hts (.fieldLink RX3 52 "PalletStack" "trial" "LPalletStack$Item;") (List.mem_of_getElem? (i := 1) (by rfl))) (fun _ h9 => h9) rfl dX3_letDown_56 ?_
  refine va_get (D := D) (ci := 0) (v := .int 1) (C := RX0) (T := TX0) (N := 18) hx hb hts (fun _ h9 => List.mem_cons_of_mem _ (List.mem_append_left _ (List.mem_append_right _ h9))) hown hK hP 2 rfl rfl 4 (by decide) (hts (.fieldLink RX3 185 "PalletStack$Item" "width" "I") (List.mem_of_getElem? (i := 5) (by rfl))) (fun _ h9 => h9) rfl dX3_letDown_59 ?_
  refine lv_iadd hx hb dX3_letDown_62 ?_
  refine lv_topi (fun v_43 ev_43 => ?_)
  obtain rfl : v_43 = (nI (a + 1)) := ev_43.trans (nI_1 a)
  refine lv_icmp_ge (tgt := 109) hx hb dX3_letDown_63 (by decide) (fun c_44 => ?_) (fun c_44 => absurd (Int32.le_refl _) c_44)
  refine lv_iinc (v := (nI (b + 1))) (lv' := [(7, .int (nI (b + 1))), (8, .int (nI (a + 1))), (6, .int 1), (9, .int 0), (5, .int 0), (0, .ref o), (1, .ref k0), (2, .int (nI a)), (3, .int (nI b)), (4, .int t)]) hx hb dX3_letDown_109 hl (k := 3) rfl (nI_1 b) (by decide) rfl (fun ls hl => ?_)
  refine lv_goto (tgt := 35) hx hb dX3_letDown_112 (by decide) ?_
  refine lv_iload hx hb dX3_letDown_35 (lv_at hl 0 rfl) ?_
  refine lv_iload_n hx hb dX3_letDown_37 rfl (lv_at hl 8 rfl) ?_
  refine lv_aload_n hx hb dX3_letDown_38 rfl (lv_at hl 5 rfl) ?_
  refine va_get (D := D) (ci := 3) (v := .ref tr) (C := RX3) (T := TX3) (N := 14) hx hb hts (fun _ h9 => List.mem_cons_of_mem _ (List.mem_append_left _ (List.mem_append_left _ (List.mem_append_right _ h9)))) hown hK hP 0 rfl rfl 11 (by decide) (hts (.fieldLink RX3 52 "PalletStack" "trial" "LPalletStack$Item;") (List.mem_of_getElem? (i := 1) (by rfl))) (fun _ h9 => h9) rfl dX3_letDown_39 ?_
  refine va_get (D := D) (ci := 0) (v := .int 1) (C := RX0) (T := TX0) (N := 18) hx hb hts (fun _ h9 => List.mem_cons_of_mem _ (List.mem_append_left _ (List.mem_append_right _ h9))) hown hK hP 2 rfl rfl 5 (by decide) (hts (.fieldLink RX3 179 "PalletStack$Item" "depth" "I") (List.mem_of_getElem? (i := 4) (by rfl))) (fun _ h9 => h9) rfl dX3_letDown_42 ?_
  refine lv_iadd hx hb dX3_letDown_45 ?_
  refine lv_topi (fun v_45 ev_45 => ?_)
  obtain rfl : v_45 = (nI (b + 1)) := ev_45.trans (nI_1 b)
  refine lv_icmp_ge (tgt := 115) hx hb dX3_letDown_46 (by decide) (fun c_46 => ?_) (fun c_46 => absurd (Int32.le_refl _) c_46)
  refine lv_aload_n hx hb dX3_letDown_115 rfl (lv_at hl 5 rfl) ?_
  refine va_get (D := D) (ci := 3) (v := .ref tr) (C := RX3) (T := TX3) (N := 14) hx hb hts (fun _ h9 => List.mem_cons_of_mem _ (List.mem_append_left _ (List.mem_append_left _ (List.mem_append_right _ h9)))) hown hK hP 0 rfl rfl 11 (by decide) (hts (.fieldLink RX3 52 "PalletStack" "trial" "LPalletStack$Item;") (List.mem_of_getElem? (i := 1) (by rfl))) (fun _ h9 => h9) rfl dX3_letDown_116 ?_
  refine lv_iload hx hb dX3_letDown_119 (lv_at hl 4 rfl) ?_
  refine va_put (D := D) (ci := 0) (v := .int 0) (ty := .int) (C := RX0) (T := TX0) (N := 18) hx hb hts (fun _ h9 => List.mem_cons_of_mem _ (List.mem_append_left _ (List.mem_append_right _ h9))) tyX0 tyX0_ok nmX0 hown hK hP hD hS 2 rfl rfl 8 (by decide) (hts (.fieldLink RX3 131 "PalletStack$Item" "bottom" "I") (List.mem_of_getElem? (i := 6) (by rfl))) (fun _ h9 => h9) rfl (by decide +kernel) rfl rfl (Nat.le_of_ble_eq_true rfl) dX3_letDown_121 (fun H locs hP hD hS => ?_)
  have hP : va_P D vwCl ([(o, .inr (3, [.ref kA, .int 1, .int 1, .int 0, .int 1, .int 0, .ref iA, .int 0, .int 0, .int 0, .ref tA, .ref tr, .ref lA, .int (nI n)])), (tA, .inl (cT, 120, .inl (fun _ => 0))), (tr, .inr (0, [.int 0, .int 1, .int 0, .int t, .int 1, .int 1, .int (nI a), .int (nI b), .int 0, .int (w 9), .int (w 10), .int (w 11), .int (w 12), .int (w 13), .int (w 14), .int (w 15), .ref su, .ref sc])), (k0, .inr (1, [.int 0, .int 1, .int 1, .int 2, .int 1, .int 0, .int 1, .int 0]))]) H := hP
  have hD : va_D A ([(o, .inr (3, [.ref kA, .int 1, .int 1, .int 0, .int 1, .int 0, .ref iA, .int 0, .int 0, .int 0, .ref tA, .ref tr, .ref lA, .int (nI n)])), (tA, .inl (cT, 120, .inl (fun _ => 0))), (tr, .inr (0, [.int 0, .int 1, .int 0, .int t, .int 1, .int 1, .int (nI a), .int (nI b), .int 0, .int (w 9), .int (w 10), .int (w 11), .int (w 12), .int (w 13), .int (w 14), .int (w 15), .ref su, .ref sc])), (k0, .inr (1, [.int 0, .int 1, .int 1, .int 2, .int 1, .int 0, .int 1, .int 0]))]) := hD
  refine lv_aload_n hx hb dX3_letDown_124 rfl (lv_at hl 5 rfl) ?_
  refine va_get (D := D) (ci := 3) (v := .ref tr) (C := RX3) (T := TX3) (N := 14) hx hb hts (fun _ h9 => List.mem_cons_of_mem _ (List.mem_append_left _ (List.mem_append_left _ (List.mem_append_right _ h9)))) hown hK hP 0 rfl rfl 11 (by decide) (hts (.fieldLink RX3 52 "PalletStack" "trial" "LPalletStack$Item;") (List.mem_of_getElem? (i := 1) (by rfl))) (fun _ h9 => h9) rfl dX3_letDown_125 ?_
  refine lv_iload hx hb dX3_letDown_128 (lv_at hl 4 rfl) ?_
  refine lv_aload_n hx hb dX3_letDown_130 rfl (lv_at hl 6 rfl) ?_
  refine va_get (D := D) (ci := 1) (v := .int 2) (C := RX1) (T := TX1) (N := 8) hx hb hts (fun _ h9 => List.mem_cons_of_mem _ (List.mem_append_right _ h9)) hown hK hP 3 rfl rfl 3 (by decide) (hts (.fieldLink RX3 254 "PalletStack$Kind" "height" "I") (List.mem_of_getElem? (i := 7) (by rfl))) (fun _ h9 => h9) rfl dX3_letDown_131 ?_
  refine lv_iadd hx hb dX3_letDown_134 ?_
  refine lv_topi (fun v_47 ev_47 => ?_)
  obtain rfl : v_47 = 2 := ev_47.trans (by decide)
  refine va_put (D := D) (ci := 0) (v := .int 2) (ty := .int) (C := RX0) (T := TX0) (N := 18) hx hb hts (fun _ h9 => List.mem_cons_of_mem _ (List.mem_append_left _ (List.mem_append_right _ h9))) tyX0 tyX0_ok nmX0 hown hK hP hD hS 2 rfl rfl 9 (by decide) (hts (.fieldLink RX3 134 "PalletStack$Item" "top" "I") (List.mem_of_getElem? (i := 8) (by rfl))) (fun _ h9 => h9) rfl (by decide +kernel) rfl rfl (Nat.le_of_ble_eq_true rfl) dX3_letDown_135 (fun H locs hP hD hS => ?_)
  have hP : va_P D vwCl ([(o, .inr (3, [.ref kA, .int 1, .int 1, .int 0, .int 1, .int 0, .ref iA, .int 0, .int 0, .int 0, .ref tA, .ref tr, .ref lA, .int (nI n)])), (tA, .inl (cT, 120, .inl (fun _ => 0))), (tr, .inr (0, [.int 0, .int 1, .int 0, .int t, .int 1, .int 1, .int (nI a), .int (nI b), .int 0, .int 2, .int (w 10), .int (w 11), .int (w 12), .int (w 13), .int (w 14), .int (w 15), .ref su, .ref sc])), (k0, .inr (1, [.int 0, .int 1, .int 1, .int 2, .int 1, .int 0, .int 1, .int 0]))]) H := hP
  have hD : va_D A ([(o, .inr (3, [.ref kA, .int 1, .int 1, .int 0, .int 1, .int 0, .ref iA, .int 0, .int 0, .int 0, .ref tA, .ref tr, .ref lA, .int (nI n)])), (tA, .inl (cT, 120, .inl (fun _ => 0))), (tr, .inr (0, [.int 0, .int 1, .int 0, .int t, .int 1, .int 1, .int (nI a), .int (nI b), .int 0, .int 2, .int (w 10), .int (w 11), .int (w 12), .int (w 13), .int (w 14), .int (w 15), .ref su, .ref sc])), (k0, .inr (1, [.int 0, .int 1, .int 1, .int 2, .int 1, .int 0, .int 1, .int 0]))]) := hD
  refine lv_aload_n hx hb dX3_letDown_138 rfl (lv_at hl 5 rfl) ?_
  refine va_get (D := D) (ci := 3) (v := .ref tr) (C := RX3) (T := TX3) (N := 14) hx hb hts (fun _ h9 => List.mem_cons_of_mem _ (List.mem_append_left _ (List.mem_append_left _ (List.mem_append_right _ h9)))) hown hK hP 0 rfl rfl 11 (by decide) (hts (.fieldLink RX3 52 "PalletStack" "trial" "LPalletStack$Item;") (List.mem_of_getElem? (i := 1) (by rfl))) (fun _ h9 => h9) rfl dX3_letDown_139 ?_
  refine lv_iload hx hb dX3_letDown_142 (lv_at hl 2 rfl) ?_
  refine va_put (D := D) (ci := 0) (v := .int 1) (ty := .int) (C := RX0) (T := TX0) (N := 18) hx hb hts (fun _ h9 => List.mem_cons_of_mem _ (List.mem_append_left _ (List.mem_append_right _ h9))) tyX0 tyX0_ok nmX0 hown hK hP hD hS 2 rfl rfl 10 (by decide) (hts (.fieldLink RX3 214 "PalletStack$Item" "ground" "I") (List.mem_of_getElem? (i := 9) (by rfl))) (fun _ h9 => h9) rfl (by decide +kernel) rfl rfl (Nat.le_of_ble_eq_true rfl) dX3_letDown_144 (fun H locs hP hD hS => ?_)
  have hP : va_P D vwCl ([(o, .inr (3, [.ref kA, .int 1, .int 1, .int 0, .int 1, .int 0, .ref iA, .int 0, .int 0, .int 0, .ref tA, .ref tr, .ref lA, .int (nI n)])), (tA, .inl (cT, 120, .inl (fun _ => 0))), (tr, .inr (0, [.int 0, .int 1, .int 0, .int t, .int 1, .int 1, .int (nI a), .int (nI b), .int 0, .int 2, .int 1, .int (w 11), .int (w 12), .int (w 13), .int (w 14), .int (w 15), .ref su, .ref sc])), (k0, .inr (1, [.int 0, .int 1, .int 1, .int 2, .int 1, .int 0, .int 1, .int 0]))]) H := hP
  have hD : va_D A ([(o, .inr (3, [.ref kA, .int 1, .int 1, .int 0, .int 1, .int 0, .ref iA, .int 0, .int 0, .int 0, .ref tA, .ref tr, .ref lA, .int (nI n)])), (tA, .inl (cT, 120, .inl (fun _ => 0))), (tr, .inr (0, [.int 0, .int 1, .int 0, .int t, .int 1, .int 1, .int (nI a), .int (nI b), .int 0, .int 2, .int 1, .int (w 11), .int (w 12), .int (w 13), .int (w 14), .int (w 15), .ref su, .ref sc])), (k0, .inr (1, [.int 0, .int 1, .int 1, .int 2, .int 1, .int 0, .int 1, .int 0]))]) := hD
  exact W.vret hx hb hr (fun t ht hW => ⟨⟨(), rfl, True.intro, ⟨Nat.zero_le _, by rw [ht]; exact hP, va_K.moved hW.alike (hK.sub (tys' := []) [] rfl), hD⟩⟩, hS.F ht⟩) hS.2.2 dX3_letDown_147
set_option maxHeartbeats 4000000 in
set_option maxRecDepth 100000 in
theorem c_brokenRule (l : Launch) (D : zG) (sz : Nat) (o kA iA tA tr lA n : Nat) (k0 su sc : Nat) (w : Nat → Int32) (h9 : w 9 = 2) : Met l yX3_brokenRule wsX3_brokenRule ({ frames := 0, cells := 0, slots := 0, locals := 0 }) (zPc D [] ([(o, .inr (3, [.ref kA, .int 1, .int 1, .int 0, .int 1, .int 0, .ref iA, .int 0, .int 0, .int 0, .ref tA, .ref tr, .ref lA, .int (nI n)])), (tr, .inr (0, [.int (w 0), .int (w 1), .int (w 2), .int (w 3), .int (w 4), .int (w 5), .int (w 6), .int (w 7), .int (w 8), .int (w 9), .int (w 10), .int (w 11), .int (w 12), .int (w 13), .int (w 14), .int (w 15), .ref su, .ref sc]))]) sz [.ref o, .ref k0]) (vp_Si (fun r => r = 2)) 0 0 (fun _ => False) := by
  refine Met.ofW (cc := cX3_brokenRule) (maxL := 2) (ret := (some .int)) (by decide) rfl ?_
  intro p e s m args below meth c s₁ B hml hv
  obtain ⟨rfl, hsz, hP, hK, hD0⟩ := hv
  have hx := B.exec
  have hb := B.bytes
  have hr := B.returns
  have hts := atoms_spec (ws := wsX3_brokenRule) B.pre
  have hown : s.vm.findClass RX3 = some m.cls := findClass_of_methodNamed B.named
  have hlocks := B.notSynchronized
  subst hsz
  have hD := hD0
  generalize hAe : (fun _ : Nat => True) = A at hD
  have hl := lv_entry ([.ref o, .ref k0]) (n := 2) (Nat.le_of_ble_eq_true rfl)
  rw [lg_entry_eq]
  generalize (lg_sl ([.ref o, .ref k0]) ++ List.replicate (2 - (lg_sl ([.ref o, .ref k0])).length) Slot.unset).toArray = ls at hl ⊢
  have hl : lv_has ls 2 [(0, .ref o), (1, .ref k0)] := hl
  have hP : va_P D vwCl ([(o, .inr (3, [.ref kA, .int 1, .int 1, .int 0, .int 1, .int 0, .ref iA, .int 0, .int 0, .int 0, .ref tA, .ref tr, .ref lA, .int (nI n)])), (tr, .inr (0, [.int (w 0), .int (w 1), .int (w 2), .int (w 3), .int (w 4), .int (w 5), .int (w 6), .int (w 7), .int (w 8), .int (w 9), .int (w 10), .int (w 11), .int (w 12), .int (w 13), .int (w 14), .int (w 15), .ref su, .ref sc]))]) s.heap := hP
  generalize hRe : (headSpec _ _).room = R
  have hRf : R.frames = 0 := by rw [← hRe]; rfl
  have hRc : R.cells = 0 := by rw [← hRe]; rfl
  have hRs : R.slots = 0 := by rw [← hRe]; rfl
  have hRl : R.locals = 0 := by rw [← hRe]; rfl
  clear hRe
  refine lv_aload_n hx hb dX3_brokenRule_0 rfl (lv_at hl 0 rfl) ?_
  refine va_get (D := D) (ci := 3) (v := .ref tr) (C := RX3) (T := TX3) (N := 14) hx hb hts (fun _ h9 => List.mem_cons_of_mem _ (List.mem_append_left _ (List.mem_append_left _ (List.mem_append_right _ h9)))) hown hK hP 0 rfl rfl 11 (by decide) (hts (.fieldLink RX3 52 "PalletStack" "trial" "LPalletStack$Item;") (List.mem_of_getElem? (i := 1) (by rfl))) (fun _ h9 => h9) rfl dX3_brokenRule_1 ?_
  refine va_get (D := D) (ci := 0) (v := .int (w 9)) (C := RX0) (T := TX0) (N := 18) hx hb hts (fun _ h9 => List.mem_cons_of_mem _ (List.mem_append_left _ (List.mem_append_right _ h9))) hown hK hP 1 rfl rfl 9 (by decide) (hts (.fieldLink RX3 134 "PalletStack$Item" "top" "I") (List.mem_of_getElem? (i := 2) (by rfl))) (fun _ h9 => h9) rfl dX3_brokenRule_4 ?_
  refine lv_aload_n hx hb dX3_brokenRule_7 rfl (lv_at hl 0 rfl) ?_
  refine va_get (D := D) (ci := 3) (v := .int 1) (C := RX3) (T := TX3) (N := 14) hx hb hts (fun _ h9 => List.mem_cons_of_mem _ (List.mem_append_left _ (List.mem_append_left _ (List.mem_append_right _ h9)))) hown hK hP 0 rfl rfl 2 (by decide) (hts (.fieldLink RX3 19 "PalletStack" "greatestHeight" "I") (List.mem_of_getElem? (i := 3) (by rfl))) (fun _ h9 => h9) rfl dX3_brokenRule_8 ?_
  refine lv_icmp_le (tgt := 16) hx hb dX3_brokenRule_11 (by decide) (fun c_48 => absurd c_48 (by rw [h9]; decide)) (fun c_48 => ?_)
  refine lv_iconst (v := 2) hx hb dX3_brokenRule_14 (by decide) ?_
  exact W.iret (v := 2) hx hb hr (fun t ht hW => ⟨2, rfl, rfl, ht⟩) (fun _ h => by cases h) dX3_brokenRule_15
set_option maxHeartbeats 4000000 in
set_option maxRecDepth 100000 in
theorem c_bestPlace (l : Launch) (D : zG) (sz : Nat) (o kA iA tA tr lA n : Nat) (k0 su sc : Nat) (w : Nat → Int32) (cT : ClassId) : Met l yX3_bestPlace wsX3_bestPlace ({ frames := 2, cells := 0, slots := 0, locals := 52 }) (zPc D [(cT, .int)] ([(o, .inr (3, [.ref kA, .int 1, .int 1, .int 0, .int 1, .int 0, .ref iA, .int 0, .int 0, .int 0, .ref tA, .ref tr, .ref lA, .int (nI n)])), (tA, .inl (cT, 120, .inl (fun _ => 0))), (tr, .inr (0, [.int (w 0), .int (w 1), .int (w 2), .int (w 3), .int (w 4), .int (w 5), .int (w 6), .int (w 7), .int (w 8), .int (w 9), .int (w 10), .int (w 11), .int (w 12), .int (w 13), .int (w 14), .int (w 15), .ref su, .ref sc])), (k0, .inr (1, [.int 0, .int 1, .int 1, .int 2, .int 1, .int 0, .int 1, .int 0]))]) sz [.ref o, .ref k0]) (va_Qi (fun (r : Int32) (u : Nat → Int32) => r = -1) (zB D (va_A ([(o, .inr (3, [.ref kA, .int 1, .int 1, .int 0, .int 1, .int 0, .ref iA, .int 0, .int 0, .int 0, .ref tA, .ref tr, .ref lA, .int (nI n)])), (tA, .inl (cT, 120, .inl (fun _ => 0))), (tr, .inr (0, [.int (w 0), .int (w 1), .int (w 2), .int (w 3), .int (w 4), .int (w 5), .int (w 6), .int (w 7), .int (w 8), .int (w 9), .int (w 10), .int (w 11), .int (w 12), .int (w 13), .int (w 14), .int (w 15), .ref su, .ref sc])), (k0, .inr (1, [.int 0, .int 1, .int 1, .int 2, .int 1, .int 0, .int 1, .int 0]))]) sz) (fun _ => []) 0 (fun u => [(o, .inr (3, [.ref kA, .int 1, .int 1, .int 0, .int 1, .int 0, .ref iA, .int 0, .int 0, .int 0, .ref tA, .ref tr, .ref lA, .int (nI n)])), (tA, .inl (cT, 120, .inl (fun _ => 0))), (tr, .inr (0, [.int (u 0), .int (u 1), .int (u 2), .int (u 3), .int (u 4), .int (u 5), .int (u 6), .int (u 7), .int (u 8), .int (u 9), .int (u 10), .int (u 11), .int (u 12), .int (u 13), .int (u 14), .int (u 15), .ref su, .ref sc])), (k0, .inr (1, [.int 0, .int 1, .int 1, .int 2, .int 1, .int 0, .int 1, .int 0]))])) (va_A ([(o, .inr (3, [.ref kA, .int 1, .int 1, .int 0, .int 1, .int 0, .ref iA, .int 0, .int 0, .int 0, .ref tA, .ref tr, .ref lA, .int (nI n)])), (tA, .inl (cT, 120, .inl (fun _ => 0))), (tr, .inr (0, [.int (w 0), .int (w 1), .int (w 2), .int (w 3), .int (w 4), .int (w 5), .int (w 6), .int (w 7), .int (w 8), .int (w 9), .int (w 10), .int (w 11), .int (w 12), .int (w 13), .int (w 14), .int (w 15), .ref su, .ref sc])), (k0, .inr (1, [.int 0, .int 1, .int 1, .int 2, .int 1, .int 0, .int 1, .int 0]))]) sz)) 0 0 (va_A ([(o, .inr (3, [.ref kA, .int 1, .int 1, .int 0, .int 1, .int 0, .ref iA, .int 0, .int 0, .int 0, .ref tA, .ref tr, .ref lA, .int (nI n)])), (tA, .inl (cT, 120, .inl (fun _ => 0))), (tr, .inr (0, [.int (w 0), .int (w 1), .int (w 2), .int (w 3), .int (w 4), .int (w 5), .int (w 6), .int (w 7), .int (w 8), .int (w 9), .int (w 10), .int (w 11), .int (w 12), .int (w 13), .int (w 14), .int (w 15), .ref su, .ref sc])), (k0, .inr (1, [.int 0, .int 1, .int 1, .int 2, .int 1, .int 0, .int 1, .int 0]))]) sz) := by
  refine Met.ofW (cc := cX3_bestPlace) (maxL := 7) (ret := (some .int)) (by decide) rfl ?_
  intro p e s m args below meth c s₁ B hml hv
  obtain ⟨rfl, hsz, hP, hK, hD0⟩ := hv
  have hx := B.exec
  have hb := B.bytes
  have hr := B.returns
  have hts := atoms_spec (ws := wsX3_bestPlace) B.pre
  have hown : s.vm.findClass RX3 = some m.cls := findClass_of_methodNamed B.named
  have hlocks := B.notSynchronized
  subst hsz
  have hD := hD0.self (sz := s.heap.size)
  generalize hAe : va_A ([(o, .inr (3, [.ref kA, .int 1, .int 1, .int 0, .int 1, .int 0, .ref iA, .int 0, .int 0, .int 0, .ref tA, .ref tr, .ref lA, .int (nI n)])), (tA, .inl (cT, 120, .inl (fun _ => 0))), (tr, .inr (0, [.int (w 0), .int (w 1), .int (w 2), .int (w 3), .int (w 4), .int (w 5), .int (w 6), .int (w 7), .int (w 8), .int (w 9), .int (w 10), .int (w 11), .int (w 12), .int (w 13), .int (w 14), .int (w 15), .ref su, .ref sc])), (k0, .inr (1, [.int 0, .int 1, .int 1, .int 2, .int 1, .int 0, .int 1, .int 0]))]) s.heap.size = A at hD ⊢
  have hA : ∀ q : Nat, s.heap.size ≤ q → A q := fun q h => by rw [← hAe]; exact Or.inr h
  have hS : va_S A s.heap s.heap [] := va_S.rf
  have hl := lv_entry ([.ref o, .ref k0]) (n := 7) (Nat.le_of_ble_eq_true rfl)
  rw [lg_entry_eq]
  generalize (lg_sl ([.ref o, .ref k0]) ++ List.replicate (7 - (lg_sl ([.ref o, .ref k0])).length) Slot.unset).toArray = ls at hl ⊢
  have hl : lv_has ls 7 [(0, .ref o), (1, .ref k0)] := hl
  have hP : va_P D vwCl ([(o, .inr (3, [.ref kA, .int 1, .int 1, .int 0, .int 1, .int 0, .ref iA, .int 0, .int 0, .int 0, .ref tA, .ref tr, .ref lA, .int (nI n)])), (tA, .inl (cT, 120, .inl (fun _ => 0))), (tr, .inr (0, [.int (w 0), .int (w 1), .int (w 2), .int (w 3), .int (w 4), .int (w 5), .int (w 6), .int (w 7), .int (w 8), .int (w 9), .int (w 10), .int (w 11), .int (w 12), .int (w 13), .int (w 14), .int (w 15), .ref su, .ref sc])), (k0, .inr (1, [.int 0, .int 1, .int 1, .int 2, .int 1, .int 0, .int 1, .int 0]))]) s.heap := hP
  generalize hRe : (headSpec _ _).room = R
  have hRf : R.frames = 2 := by rw [← hRe]; rfl
  have hRc : R.cells = 0 := by rw [← hRe]; rfl
  have hRs : R.slots = 0 := by rw [← hRe]; rfl
  have hRl : R.locals = 52 := by rw [← hRe]; rfl
  clear hRe
  refine lv_iconst (v := (-1)) hx hb dX3_bestPlace_0 (by decide) ?_
  refine lv_istore_n (lv' := [(2, .int (-1)), (0, .ref o), (1, .ref k0)]) hx hb dX3_bestPlace_1 rfl hl (by decide) rfl (fun ls hl => ?_)
  refine lv_iconst (v := 0) hx hb dX3_bestPlace_2 (by decide) ?_
  refine lv_istore_n (lv' := [(3, .int 0), (2, .int (-1)), (0, .ref o), (1, .ref k0)]) hx hb dX3_bestPlace_3 rfl hl (by decide) rfl (fun ls hl => ?_)
  refine lv_iconst (v := 0) hx hb dX3_bestPlace_4 (by decide) ?_
  refine lv_istore (lv' := [(4, .int 0), (3, .int 0), (2, .int (-1)), (0, .ref o), (1, .ref k0)]) hx hb dX3_bestPlace_5 hl (by decide) rfl (fun ls hl => ?_)
  refine lv_iconst (v := 0) hx hb dX3_bestPlace_7 (by decide) ?_
  refine lv_istore (lv' := [(5, .int 0), (4, .int 0), (3, .int 0), (2, .int (-1)), (0, .ref o), (1, .ref k0)]) hx hb dX3_bestPlace_8 hl (by decide) rfl (fun ls hl => ?_)
  generalize hQe : MQ _ _ _ _ _ _ _ = Q
  have hl := lv_sub hl (l' := [(5, .int 0), (4, .int 0), (3, .int 0), (2, .int (-1)), (1, .ref k0), (0, .ref o)]) [0, 1, 2, 3, 5, 4] rfl
  have loop : ∀ (k c1 : Nat), c1 + k = 240 → ∀ (w : Nat → Int32) (H : Heap) (locs : List Loc) (ls : Array Slot), va_P D vwCl ([(o, .inr (3, [.ref kA, .int 1, .int 1, .int 0, .int 1, .int 0, .ref iA, .int 0, .int 0, .int 0, .ref tA, .ref tr, .ref lA, .int (nI n)])), (tA, .inl (cT, 120, .inl (fun _ => 0))), (tr, .inr (0, [.int (w 0), .int (w 1), .int (w 2), .int (w 3), .int (w 4), .int (w 5), .int (w 6), .int (w 7), .int (w 8), .int (w 9), .int (w 10), .int (w 11), .int (w 12), .int (w 13), .int (w 14), .int (w 15), .ref su, .ref sc])), (k0, .inr (1, [.int 0, .int 1, .int 1, .int 2, .int 1, .int 0, .int 1, .int 0]))]) H → va_D A ([(o, .inr (3, [.ref kA, .int 1, .int 1, .int 0, .int 1, .int 0, .ref iA, .int 0, .int 0, .int 0, .ref tA, .ref tr, .ref lA, .int (nI n)])), (tA, .inl (cT, 120, .inl (fun _ => 0))), (tr, .inr (0, [.int (w 0), .int (w 1), .int (w 2), .int (w 3), .int (w 4), .int (w 5), .int (w 6), .int (w 7), .int (w 8), .int (w 9), .int (w 10), .int (w 11), .int (w 12), .int (w 13), .int (w 14), .int (w 15), .ref su, .ref sc])), (k0, .inr (1, [.int 0, .int 1, .int 1, .int 2, .int 1, .int 0, .int 1, .int 0]))]) → va_S A s.heap H locs → lv_has ls 7 [(5, .int (nI c1)), (4, .int 0), (3, .int 0), (2, .int (-1)), (1, .ref k0), (0, .ref o)] → W p l e R s m ([.ref o, .ref k0] : List Value).toArray below meth c H locs 0 0 Q (F0 m 10 ls []) := by
    intro k
    induction k with
    | zero =>
      intro c1 hc w H locs ls hP hD hS hl
      obtain rfl : c1 = 240 := by omega
      refine lv_iload hx hb dX3_bestPlace_10 (lv_at hl 0 rfl) ?_
      refine lv_sipush (v := 240) hx hb dX3_bestPlace_12 (by decide) ?_
      refine lv_icmp_ge (tgt := 154) hx hb dX3_bestPlace_15 (by decide) (fun c_49 => ?_) (fun c_49 => absurd (by decide) c_49)
      refine lv_iload_n hx hb dX3_bestPlace_154 rfl (lv_at hl 3 rfl) ?_
      rw [← hQe]
      exact W.iret (v := (-1)) hx hb hr (fun t ht hW => ⟨⟨(-1), w, rfl, rfl, ⟨Nat.zero_le _, by rw [ht]; exact hP, va_K.moved hW.alike (hK.sub (tys' := []) [] rfl), hD⟩⟩, hS.F ht⟩) hS.2.2 dX3_bestPlace_155
    | succ k ih =>
      intro c1 hc w H locs ls hP hD hS hl
      have hc2 : c1 < 240 := by omega
      have ht : nI (c1 % 2) = 0 ∨ nI (c1 % 2) = 1 := by rcases Nat.mod_two_eq_zero_or_one c1 with h | h <;> rw [h] <;> decide
      have hx1 : c1 / 2 % 12 < 12 := Nat.mod_lt _ (by decide)
      have hy1 : c1 / 2 / 12 < 10 := by omega
      refine lv_iload hx hb dX3_bestPlace_10 (lv_at hl 0 rfl) ?_
      refine lv_sipush (v := 240) hx hb dX3_bestPlace_12 (by decide) ?_
      refine lv_icmp_ge (tgt := 154) hx hb dX3_bestPlace_15 (by decide) (fun c_50 => absurd c_50 (nI_ge (b := 240) (by omega) (by decide))) (fun c_50 => ?_)
      refine lv_aload_n hx hb dX3_bestPlace_18 rfl (lv_at hl 4 rfl) ?_
      refine lv_iload hx hb dX3_bestPlace_19 (lv_at hl 0 rfl) ?_
      refine zrdS (As := [.int (nI c1)]) (rest := [.ref k0]) (wc := []) ⟨hx, hb, hml, hown, hts⟩ (c_xOf l D _ c1 hc2) (va_cwS 1 hts gX3_bestPlace_X3_xOf rfl rfl rfl (by decide +kernel) ⟨by rw [hRf]; exact Nat.le_of_ble_eq_true rfl, by rw [hRl]; exact Nat.le_of_ble_eq_true rfl⟩) hK hP hD [] rfl (by decide) [] rfl rfl hl.1 rfl (Nat.le_of_ble_eq_true rfl) dX3_bestPlace_21 ⟨by omega, by omega⟩ (fun r_51 hr_51 => ?_)
      refine lv_topi (fun v_52 ev_52 => ?_)
      obtain rfl : v_52 = (nI (c1 / 2 % 12)) := ev_52.trans hr_51
      refine lv_iload hx hb dX3_bestPlace_24 (lv_at hl 0 rfl) ?_
      refine zrdS (As := [.int (nI c1)]) (rest := [.int (nI (c1 / 2 % 12)), .ref k0]) (wc := []) ⟨hx, hb, hml, hown, hts⟩ (c_yOf l D _ c1 hc2) (va_cwS 1 hts gX3_bestPlace_X3_yOf rfl rfl rfl (by decide +kernel) ⟨by rw [hRf]; exact Nat.le_of_ble_eq_true rfl, by rw [hRl]; exact Nat.le_of_ble_eq_true rfl⟩) hK hP hD [] rfl (by decide) [] rfl rfl hl.1 rfl (Nat.le_of_ble_eq_true rfl) dX3_bestPlace_26 ⟨by omega, by omega⟩ (fun r_53 hr_53 => ?_)
      refine lv_topi (fun v_54 ev_54 => ?_)
      obtain rfl : v_54 = (nI (c1 / 2 / 12)) := ev_54.trans hr_53
      refine lv_iload hx hb dX3_bestPlace_29 (lv_at hl 0 rfl) ?_
      refine zrdS (As := [.int (nI c1)]) (rest := [.int (nI (c1 / 2 / 12)), .int (nI (c1 / 2 % 12)), .ref k0]) (wc := []) ⟨hx, hb, hml, hown, hts⟩ (c_isTurnedIn l D _ c1 hc2) (va_cwS 1 hts gX3_bestPlace_X3_isTurnedIn rfl rfl rfl (by decide +kernel) ⟨by rw [hRf]; exact Nat.le_of_ble_eq_true rfl, by rw [hRl]; exact Nat.le_of_ble_eq_true rfl⟩) hK hP hD [] rfl (by decide) [] rfl rfl hl.1 rfl (Nat.le_of_ble_eq_true rfl) dX3_bestPlace_31 ⟨by omega, by omega⟩ (fun r_55 hr_55 => ?_)
      refine lv_topi (fun v_56 ev_56 => ?_)
      obtain rfl : v_56 = (nI (c1 % 2)) := ev_56.trans hr_55
      refine zrdS (As := [.ref k0, .int (nI (c1 / 2 % 12)), .int (nI (c1 / 2 / 12)), .int (nI (c1 % 2))]) (rest := []) (wc := [(k0, .inr (1, [.int 0, .int 1, .int 1, .int 2, .int 1, .int 0, .int 1, .int 0]))]) ⟨hx, hb, hml, hown, hts⟩ (c_isInField l D _ k0 _ _ hx1 hy1 _ ht) (va_cwS 4 hts gX3_bestPlace_X3_isInField rfl rfl rfl (by decide +kernel) ⟨by rw [hRf]; exact Nat.le_of_ble_eq_true rfl, by rw [hRl]; exact Nat.le_of_ble_eq_true rfl⟩) hK hP hD [3] rfl (by decide) [] rfl rfl hl.1 rfl (Nat.le_of_ble_eq_true rfl) dX3_bestPlace_34 ⟨by omega, by omega⟩ (fun r_57 hr_57 => ?_)
      refine lv_topi (fun v_58 ev_58 => ?_)
      obtain rfl : v_58 = 1 := ev_58.trans hr_57
      refine lv_if_ne (tgt := 43) hx hb dX3_bestPlace_37 (by decide) (fun c_59 => ?_) (fun c_59 => absurd c_59 (by decide))
      refine lv_aload_n hx hb dX3_bestPlace_43 rfl (lv_at hl 5 rfl) ?_
      refine lv_aload_n hx hb dX3_bestPlace_44 rfl (lv_at hl 4 rfl) ?_
      refine lv_iload hx hb dX3_bestPlace_45 (lv_at hl 0 rfl) ?_
      refine zrdS (As := [.int (nI c1)]) (rest := [.ref k0, .ref o]) (wc := []) ⟨hx, hb, hml, hown, hts⟩ (c_xOf l D _ c1 hc2) (va_cwS 1 hts gX3_bestPlace_X3_xOf rfl rfl rfl (by decide +kernel) ⟨by rw [hRf]; exact Nat.le_of_ble_eq_true rfl, by rw [hRl]; exact Nat.le_of_ble_eq_true rfl⟩) hK hP hD [] rfl (by decide) [] rfl rfl hl.1 rfl (Nat.le_of_ble_eq_true rfl) dX3_bestPlace_47 ⟨by omega, by omega⟩ (fun r_60 hr_60 => ?_)
      refine lv_topi (fun v_61 ev_61 => ?_)
      obtain rfl : v_61 = (nI (c1 / 2 % 12)) := ev_61.trans hr_60
      refine lv_iload hx hb dX3_bestPlace_50 (lv_at hl 0 rfl) ?_
      refine zrdS (As := [.int (nI c1)]) (rest := [.int (nI (c1 / 2 % 12)), .ref k0, .ref o]) (wc := []) ⟨hx, hb, hml, hown, hts⟩ (c_yOf l D _ c1 hc2) (va_cwS 1 hts gX3_bestPlace_X3_yOf rfl rfl rfl (by decide +kernel) ⟨by rw [hRf]; exact Nat.le_of_ble_eq_true rfl, by rw [hRl]; exact Nat.le_of_ble_eq_true rfl⟩) hK hP hD [] rfl (by decide) [] rfl rfl hl.1 rfl (Nat.le_of_ble_eq_true rfl) dX3_bestPlace_52 ⟨by omega, by omega⟩ (fun r_62 hr_62 => ?_)
      refine lv_topi (fun v_63 ev_63 => ?_)
      obtain rfl : v_63 = (nI (c1 / 2 / 12)) := ev_63.trans hr_62
      refine lv_iload hx hb dX3_bestPlace_55 (lv_at hl 0 rfl) ?_
      refine zrdS (As := [.int (nI c1)]) (rest := [.int (nI (c1 / 2 / 12)), .int (nI (c1 / 2 % 12)), .ref k0, .ref o]) (wc := []) ⟨hx, hb, hml, hown, hts⟩ (c_isTurnedIn l D _ c1 hc2) (va_cwS 1 hts gX3_bestPlace_X3_isTurnedIn rfl rfl rfl (by decide +kernel) ⟨by rw [hRf]; exact Nat.le_of_ble_eq_true rfl, by rw [hRl]; exact Nat.le_of_ble_eq_true rfl⟩) hK hP hD [] rfl (by decide) [] rfl rfl hl.1 rfl (Nat.le_of_ble_eq_true rfl) dX3_bestPlace_57 ⟨by omega, by omega⟩ (fun r_64 hr_64 => ?_)
      refine lv_topi (fun v_65 ev_65 => ?_)
      obtain rfl : v_65 = (nI (c1 % 2)) := ev_65.trans hr_64
      refine zcallvV (As := [.ref k0, .int (nI (c1 / 2 % 12)), .int (nI (c1 / 2 / 12)), .int (nI (c1 % 2))]) (rest := []) (wc := [(o, .inr (3, [.ref kA, .int 1, .int 1, .int 0, .int 1, .int 0, .ref iA, .int 0, .int 0, .int 0, .ref tA, .ref tr, .ref lA, .int (nI n)])), (tA, .inl (cT, 120, .inl (fun _ => 0))), (tr, .inr (0, [.int (w 0), .int (w 1), .int (w 2), .int (w 3), .int (w 4), .int (w 5), .int (w 6), .int (w 7), .int (w 8), .int (w 9), .int (w 10), .int (w 11), .int (w 12), .int (w 13), .int (w 14), .int (w 15), .ref su, .ref sc])), (k0, .inr (1, [.int 0, .int 1, .int 1, .int 2, .int 1, .int 0, .int 1, .int 0]))]) (wr := []) ⟨hx, hb, hml, hown, hts⟩ (c_letDown l D _ o kA iA tA tr lA n k0 su sc w cT _ _ hx1 hy1 _ ht) (cwV 4 hts gX3_bestPlace_X3_letDown rfl rfl rfl (by decide +kernel) ⟨by rw [hRf]; exact Nat.le_of_ble_eq_true rfl, by rw [hRl]; exact Nat.le_of_ble_eq_true rfl⟩) hK hP hD hS hA [0, 1, 2, 3] [] rfl (by decide) rfl (by decide) (by decide) [0] rfl (ci := 3) (q0 := 0) rfl rfl rfl hl.1 rfl (Nat.le_of_ble_eq_true rfl) dX3_bestPlace_60 ⟨by omega, by omega⟩ (fun u_67 H locs hwu_67 hnu_67 hzu_67 hK hP hD hS => ?_)
      have hK : va_K D vwCl [(cT, .int)] s := hK
      have hP : va_P D vwCl ([(o, .inr (3, [.ref kA, .int 1, .int 1, .int 0, .int 1, .int 0, .ref iA, .int 0, .int 0, .int 0, .ref tA, .ref tr, .ref lA, .int (nI n)])), (tA, .inl (cT, 120, .inl (fun _ => 0))), (tr, .inr (0, [.int 0, .int 1, .int 0, .int (nI (c1 % 2)), .int 1, .int 1, .int (nI (c1 / 2 % 12)), .int (nI (c1 / 2 / 12)), .int 0, .int 2, .int 1, .int (w 11), .int (w 12), .int (w 13), .int (w 14), .int (w 15), .ref su, .ref sc])), (k0, .inr (1, [.int 0, .int 1, .int 1, .int 2, .int 1, .int 0, .int 1, .int 0]))]) H := hP
      have hD : va_D A ([(o, .inr (3, [.ref kA, .int 1, .int 1, .int 0, .int 1, .int 0, .ref iA, .int 0, .int 0, .int 0, .ref tA, .ref tr, .ref lA, .int (nI n)])), (tA, .inl (cT, 120, .inl (fun _ => 0))), (tr, .inr (0, [.int 0, .int 1, .int 0, .int (nI (c1 % 2)), .int 1, .int 1, .int (nI (c1 / 2 % 12)), .int (nI (c1 / 2 / 12)), .int 0, .int 2, .int 1, .int (w 11), .int (w 12), .int (w 13), .int (w 14), .int (w 15), .ref su, .ref sc])), (k0, .inr (1, [.int 0, .int 1, .int 1, .int 2, .int 1, .int 0, .int 1, .int 0]))]) := hD
      obtain ⟨w, hwe⟩ : ∃ w9 : Nat → Int32, w9 = (fun i => [0, 1, 0, nI (c1 % 2), 1, 1, nI (c1 / 2 % 12), nI (c1 / 2 / 12), 0, 2, 1, w 11, w 12, w 13, w 14, w 15].getD i 0) := ⟨_, rfl⟩
      have hP : va_P D vwCl ([(o, .inr (3, [.ref kA, .int 1, .int 1, .int 0, .int 1, .int 0, .ref iA, .int 0, .int 0, .int 0, .ref tA, .ref tr, .ref lA, .int (nI n)])), (tA, .inl (cT, 120, .inl (fun _ => 0))), (tr, .inr (0, [.int (w 0), .int (w 1), .int (w 2), .int (w 3), .int (w 4), .int (w 5), .int (w 6), .int (w 7), .int (w 8), .int (w 9), .int (w 10), .int (w 11), .int (w 12), .int (w 13), .int (w 14), .int (w 15), .ref su, .ref sc])), (k0, .inr (1, [.int 0, .int 1, .int 1, .int 2, .int 1, .int 0, .int 1, .int 0]))]) H := by rw [hwe]; exact hP
      have hD : va_D A ([(o, .inr (3, [.ref kA, .int 1, .int 1, .int 0, .int 1, .int 0, .ref iA, .int 0, .int 0, .int 0, .ref tA, .ref tr, .ref lA, .int (nI n)])), (tA, .inl (cT, 120, .inl (fun _ => 0))), (tr, .inr (0, [.int (w 0), .int (w 1), .int (w 2), .int (w 3), .int (w 4), .int (w 5), .int (w 6), .int (w 7), .int (w 8), .int (w 9), .int (w 10), .int (w 11), .int (w 12), .int (w 13), .int (w 14), .int (w 15), .ref su, .ref sc])), (k0, .inr (1, [.int 0, .int 1, .int 1, .int 2, .int 1, .int 0, .int 1, .int 0]))]) := by rw [hwe]; exact hD
      have h9 : w 9 = 2 := by rw [hwe]; rfl
      refine lv_iload_n hx hb dX3_bestPlace_63 rfl (lv_at hl 3 rfl) ?_
      refine lv_iconst (v := (-1)) hx hb dX3_bestPlace_64 (by decide) ?_
      refine lv_icmp_eq (tgt := 102) hx hb dX3_bestPlace_65 (by decide) (fun c_68 => ?_) (fun c_68 => absurd (rfl) c_68)
      refine lv_iconst (v := 1) hx hb dX3_bestPlace_102 (by decide) ?_
      refine lv_goto (tgt := 107) hx hb dX3_bestPlace_103 (by decide) ?_
      refine lv_istore (lv' := [(6, .int 1), (5, .int (nI c1)), (4, .int 0), (3, .int 0), (2, .int (-1)), (1, .ref k0), (0, .ref o)]) hx hb dX3_bestPlace_107 hl (by decide) rfl (fun ls hl => ?_)
      refine lv_iload hx hb dX3_bestPlace_109 (lv_at hl 0 rfl) ?_
      refine lv_if_eq (tgt := 148) hx hb dX3_bestPlace_111 (by decide) (fun c_69 => absurd c_69 (by decide)) (fun c_69 => ?_)
      refine lv_aload_n hx hb dX3_bestPlace_114 rfl (lv_at hl 6 rfl) ?_
      refine lv_aload_n hx hb dX3_bestPlace_115 rfl (lv_at hl 5 rfl) ?_
      refine zrdV (As := [.ref k0]) (rest := []) (wc := [(o, .inr (3, [.ref kA, .int 1, .int 1, .int 0, .int 1, .int 0, .ref iA, .int 0, .int 0, .int 0, .ref tA, .ref tr, .ref lA, .int (nI n)])), (tr, .inr (0, [.int (w 0), .int (w 1), .int (w 2), .int (w 3), .int (w 4), .int (w 5), .int (w 6), .int (w 7), .int (w 8), .int (w 9), .int (w 10), .int (w 11), .int (w 12), .int (w 13), .int (w 14), .int (w 15), .ref su, .ref sc]))]) ⟨hx, hb, hml, hown, hts⟩ (c_brokenRule l D _ o kA iA tA tr lA n k0 su sc w h9) (cwV 1 hts gX3_bestPlace_X3_brokenRule rfl rfl rfl (by decide +kernel) ⟨by rw [hRf]; exact Nat.le_of_ble_eq_true rfl, by rw [hRl]; exact Nat.le_of_ble_eq_true rfl⟩) hK hP hD [0, 2] rfl (by decide) [] rfl (ci := 3) (q0 := 0) rfl rfl rfl hl.1 rfl (Nat.le_of_ble_eq_true rfl) dX3_bestPlace_116 ⟨by omega, by omega⟩ (fun r_70 hr_70 => ?_)
      refine lv_topi (fun v_71 ev_71 => ?_)
      obtain rfl : v_71 = 2 := ev_71.trans hr_70
      refine lv_if_ne (tgt := 148) hx hb dX3_bestPlace_119 (by decide) (fun c_72 => ?_) (fun c_72 => absurd c_72 (by decide))
      refine lv_iinc (v := (nI (c1 + 1))) (lv' := [(5, .int (nI (c1 + 1))), (6, .int 1), (4, .int 0), (3, .int 0), (2, .int (-1)), (1, .ref k0), (0, .ref o)]) hx hb dX3_bestPlace_148 hl (k := 1) rfl (nI_1 c1) (by decide) rfl (fun ls hl => ?_)
      refine lv_goto (tgt := 10) hx hb dX3_bestPlace_151 (by decide) ?_
      have hl := lv_sub hl (l' := [(5, .int (nI (c1 + 1))), (4, .int 0), (3, .int 0), (2, .int (-1)), (1, .ref k0), (0, .ref o)]) [0, 2, 3, 4, 5, 6] rfl
      exact ih (c1 + 1) (by omega) w H locs ls hP hD hS hl
  exact loop 240 0 rfl w s.heap [] ls hP hD hS hl
set_option maxHeartbeats 4000000 in
set_option maxRecDepth 100000 in
theorem c_putAtBest (l : Launch) (D : zG) (sz : Nat) (o kA iA tA tr lA n : Nat) (k0 su sc : Nat) (w : Nat → Int32) (cT : ClassId) : Met l yX3_putAtBest wsX3_putAtBest ({ frames := 3, cells := 0, slots := 0, locals := 78 }) (zPc D [(cT, .int)] ([(o, .inr (3, [.ref kA, .int 1, .int 1, .int 0, .int 1, .int 0, .ref iA, .int 0, .int 0, .int 0, .ref tA, .ref tr, .ref lA, .int (nI n)])), (tA, .inl (cT, 120, .inl (fun _ => 0))), (tr, .inr (0, [.int (w 0), .int (w 1), .int (w 2), .int (w 3), .int (w 4), .int (w 5), .int (w 6), .int (w 7), .int (w 8), .int (w 9), .int (w 10), .int (w 11), .int (w 12), .int (w 13), .int (w 14), .int (w 15), .ref su, .ref sc])), (k0, .inr (1, [.int 0, .int 1, .int 1, .int 2, .int 1, .int 0, .int 1, .int 0]))]) sz [.ref o, .ref k0]) (va_Qi (fun (r : Int32) (u : Nat → Int32) => r = 0) (zB D (va_A ([(o, .inr (3, [.ref kA, .int 1, .int 1, .int 0, .int 1, .int 0, .ref iA, .int 0, .int 0, .int 0, .ref tA, .ref tr, .ref lA, .int (nI n)])), (tA, .inl (cT, 120, .inl (fun _ => 0))), (tr, .inr (0, [.int (w 0), .int (w 1), .int (w 2), .int (w 3), .int (w 4), .int (w 5), .int (w 6), .int (w 7), .int (w 8), .int (w 9), .int (w 10), .int (w 11), .int (w 12), .int (w 13), .int (w 14), .int (w 15), .ref su, .ref sc])), (k0, .inr (1, [.int 0, .int 1, .int 1, .int 2, .int 1, .int 0, .int 1, .int 0]))]) sz) (fun _ => []) 0 (fun u => [(o, .inr (3, [.ref kA, .int 1, .int 1, .int 0, .int 1, .int 0, .ref iA, .int 0, .int 0, .int 0, .ref tA, .ref tr, .ref lA, .int (nI n)])), (tA, .inl (cT, 120, .inl (fun _ => 0))), (tr, .inr (0, [.int (u 0), .int (u 1), .int (u 2), .int (u 3), .int (u 4), .int (u 5), .int (u 6), .int (u 7), .int (u 8), .int (u 9), .int (u 10), .int (u 11), .int (u 12), .int (u 13), .int (u 14), .int (u 15), .ref su, .ref sc])), (k0, .inr (1, [.int 0, .int 1, .int 1, .int 2, .int 1, .int 0, .int 1, .int 0]))])) (va_A ([(o, .inr (3, [.ref kA, .int 1, .int 1, .int 0, .int 1, .int 0, .ref iA, .int 0, .int 0, .int 0, .ref tA, .ref tr, .ref lA, .int (nI n)])), (tA, .inl (cT, 120, .inl (fun _ => 0))), (tr, .inr (0, [.int (w 0), .int (w 1), .int (w 2), .int (w 3), .int (w 4), .int (w 5), .int (w 6), .int (w 7), .int (w 8), .int (w 9), .int (w 10), .int (w 11), .int (w 12), .int (w 13), .int (w 14), .int (w 15), .ref su, .ref sc])), (k0, .inr (1, [.int 0, .int 1, .int 1, .int 2, .int 1, .int 0, .int 1, .int 0]))]) sz)) 0 0 (va_A ([(o, .inr (3, [.ref kA, .int 1, .int 1, .int 0, .int 1, .int 0, .ref iA, .int 0, .int 0, .int 0, .ref tA, .ref tr, .ref lA, .int (nI n)])), (tA, .inl (cT, 120, .inl (fun _ => 0))), (tr, .inr (0, [.int (w 0), .int (w 1), .int (w 2), .int (w 3), .int (w 4), .int (w 5), .int (w 6), .int (w 7), .int (w 8), .int (w 9), .int (w 10), .int (w 11), .int (w 12), .int (w 13), .int (w 14), .int (w 15), .ref su, .ref sc])), (k0, .inr (1, [.int 0, .int 1, .int 1, .int 2, .int 1, .int 0, .int 1, .int 0]))]) sz) := by
  refine Met.ofW (cc := cX3_putAtBest) (maxL := 3) (ret := (some .boolean)) (by decide) rfl ?_
  intro p e s m args below meth c s₁ B hml hv
  obtain ⟨rfl, hsz, hP, hK, hD0⟩ := hv
  have hx := B.exec
  have hb := B.bytes
  have hr := B.returns
  have hts := atoms_spec (ws := wsX3_putAtBest) B.pre
  have hown : s.vm.findClass RX3 = some m.cls := findClass_of_methodNamed B.named
  have hlocks := B.notSynchronized
  subst hsz
  have hD := hD0.self (sz := s.heap.size)
  generalize hAe : va_A ([(o, .inr (3, [.ref kA, .int 1, .int 1, .int 0, .int 1, .int 0, .ref iA, .int 0, .int 0, .int 0, .ref tA, .ref tr, .ref lA, .int (nI n)])), (tA, .inl (cT, 120, .inl (fun _ => 0))), (tr, .inr (0, [.int (w 0), .int (w 1), .int (w 2), .int (w 3), .int (w 4), .int (w 5), .int (w 6), .int (w 7), .int (w 8), .int (w 9), .int (w 10), .int (w 11), .int (w 12), .int (w 13), .int (w 14), .int (w 15), .ref su, .ref sc])), (k0, .inr (1, [.int 0, .int 1, .int 1, .int 2, .int 1, .int 0, .int 1, .int 0]))]) s.heap.size = A at hD ⊢
  have hA : ∀ q : Nat, s.heap.size ≤ q → A q := fun q h => by rw [← hAe]; exact Or.inr h
  have hS : va_S A s.heap s.heap [] := va_S.rf
  have hl := lv_entry ([.ref o, .ref k0]) (n := 3) (Nat.le_of_ble_eq_true rfl)
  rw [lg_entry_eq]
  generalize (lg_sl ([.ref o, .ref k0]) ++ List.replicate (3 - (lg_sl ([.ref o, .ref k0])).length) Slot.unset).toArray = ls at hl ⊢
  have hl : lv_has ls 3 [(0, .ref o), (1, .ref k0)] := hl
  have hP : va_P D vwCl ([(o, .inr (3, [.ref kA, .int 1, .int 1, .int 0, .int 1, .int 0, .ref iA, .int 0, .int 0, .int 0, .ref tA, .ref tr, .ref lA, .int (nI n)])), (tA, .inl (cT, 120, .inl (fun _ => 0))), (tr, .inr (0, [.int (w 0), .int (w 1), .int (w 2), .int (w 3), .int (w 4), .int (w 5), .int (w 6), .int (w 7), .int (w 8), .int (w 9), .int (w 10), .int (w 11), .int (w 12), .int (w 13), .int (w 14), .int (w 15), .ref su, .ref sc])), (k0, .inr (1, [.int 0, .int 1, .int 1, .int 2, .int 1, .int 0, .int 1, .int 0]))]) s.heap := hP
  generalize hRe : (headSpec _ _).room = R
  have hRf : R.frames = 3 := by rw [← hRe]; rfl
  have hRc : R.cells = 0 := by rw [← hRe]; rfl
  have hRs : R.slots = 0 := by rw [← hRe]; rfl
  have hRl : R.locals = 78 := by rw [← hRe]; rfl
  clear hRe
  refine lv_aload_n hx hb dX3_putAtBest_0 rfl (lv_at hl 0 rfl) ?_
  refine va_get (D := D) (ci := 3) (v := .int 0) (C := RX3) (T := TX3) (N := 14) hx hb hts (fun _ h9 => List.mem_cons_of_mem _ (List.mem_append_left _ (List.mem_append_left _ (List.mem_append_right _ h9)))) hown hK hP 0 rfl rfl 7 (by decide) (hts (.fieldLink RX3 38 "PalletStack" "cameCount" "I") (List.mem_of_getElem? (i := 1) (by rfl))) (fun _ h9 => h9) rfl dX3_putAtBest_1 ?_
  refine lv_bipush (v := 60) hx hb dX3_putAtBest_4 (by decide) ?_
  refine lv_icmp_lt (tgt := 11) hx hb dX3_putAtBest_6 (by decide) (fun c_73 => ?_) (fun c_73 => absurd (by decide) c_73)
  refine lv_aload_n hx hb dX3_putAtBest_11 rfl (lv_at hl 0 rfl) ?_
  refine lv_aload_n hx hb dX3_putAtBest_12 rfl (lv_at hl 1 rfl) ?_
  refine zcalliV (As := [.ref k0]) (rest := []) (wc := [(o, .inr (3, [.ref kA, .int 1, .int 1, .int 0, .int 1, .int 0, .ref iA, .int 0, .int 0, .int 0, .ref tA, .ref tr, .ref lA, .int (nI n)])), (tA, .inl (cT, 120, .inl (fun _ => 0))), (tr, .inr (0, [.int (w 0), .int (w 1), .int (w 2), .int (w 3), .int (w 4), .int (w 5), .int (w 6), .int (w 7), .int (w 8), .int (w 9), .int (w 10), .int (w 11), .int (w 12), .int (w 13), .int (w 14), .int (w 15), .ref su, .ref sc])), (k0, .inr (1, [.int 0, .int 1, .int 1, .int 2, .int 1, .int 0, .int 1, .int 0]))]) (wr := []) ⟨hx, hb, hml, hown, hts⟩ (c_bestPlace l D _ o kA iA tA tr lA n k0 su sc w cT) (cwV 1 hts gX3_putAtBest_X3_bestPlace rfl rfl rfl (by decide +kernel) ⟨by rw [hRf]; exact Nat.le_of_ble_eq_true rfl, by rw [hRl]; exact Nat.le_of_ble_eq_true rfl⟩) hK hP hD hS hA [0, 1, 2, 3] [] rfl (by decide) rfl (by decide) (by decide) [0] rfl (ci := 3) (q0 := 0) rfl rfl rfl hl.1 rfl (Nat.le_of_ble_eq_true rfl) dX3_putAtBest_13 ⟨by omega, by omega⟩ (fun r_74 u_75 H locs hwu_75 hnu_75 hzu_75 hK hP hD hS => ?_)
  have hK : va_K D vwCl [(cT, .int)] s := hK
  have hP : va_P D vwCl ([(o, .inr (3, [.ref kA, .int 1, .int 1, .int 0, .int 1, .int 0, .ref iA, .int 0, .int 0, .int 0, .ref tA, .ref tr, .ref lA, .int (nI n)])), (tA, .inl (cT, 120, .inl (fun _ => 0))), (tr, .inr (0, [.int (u_75 0), .int (u_75 1), .int (u_75 2), .int (u_75 3), .int (u_75 4), .int (u_75 5), .int (u_75 6), .int (u_75 7), .int (u_75 8), .int (u_75 9), .int (u_75 10), .int (u_75 11), .int (u_75 12), .int (u_75 13), .int (u_75 14), .int (u_75 15), .ref su, .ref sc])), (k0, .inr (1, [.int 0, .int 1, .int 1, .int 2, .int 1, .int 0, .int 1, .int 0]))]) H := hP
  have hD : va_D A ([(o, .inr (3, [.ref kA, .int 1, .int 1, .int 0, .int 1, .int 0, .ref iA, .int 0, .int 0, .int 0, .ref tA, .ref tr, .ref lA, .int (nI n)])), (tA, .inl (cT, 120, .inl (fun _ => 0))), (tr, .inr (0, [.int (u_75 0), .int (u_75 1), .int (u_75 2), .int (u_75 3), .int (u_75 4), .int (u_75 5), .int (u_75 6), .int (u_75 7), .int (u_75 8), .int (u_75 9), .int (u_75 10), .int (u_75 11), .int (u_75 12), .int (u_75 13), .int (u_75 14), .int (u_75 15), .ref su, .ref sc])), (k0, .inr (1, [.int 0, .int 1, .int 1, .int 2, .int 1, .int 0, .int 1, .int 0]))]) := hD
  refine lv_topi (fun v_76 ev_76 => ?_)
  obtain rfl : v_76 = (-1) := ev_76.trans hwu_75
  refine lv_istore_n (lv' := [(2, .int (-1)), (0, .ref o), (1, .ref k0)]) hx hb dX3_putAtBest_16 rfl hl (by decide) rfl (fun ls hl => ?_)
  refine lv_iload_n hx hb dX3_putAtBest_17 rfl (lv_at hl 0 rfl) ?_
  refine lv_iconst (v := (-1)) hx hb dX3_putAtBest_18 (by decide) ?_
  refine lv_icmp_ne (tgt := 24) hx hb dX3_putAtBest_19 (by decide) (fun c_77 => absurd (rfl) c_77) (fun c_77 => ?_)
  refine lv_iconst (v := 0) hx hb dX3_putAtBest_22 (by decide) ?_
  exact W.zret (ty := .boolean) (v := 0) hx hb hr rfl (fun t ht hW => ⟨⟨0, u_75, rfl, rfl, ⟨Nat.zero_le _, by rw [ht]; exact hP, va_K.moved hW.alike (hK.sub (tys' := []) [] rfl), hD⟩⟩, hS.F ht⟩) hS.2.2 dX3_putAtBest_23
set_option maxHeartbeats 4000000 in
set_option maxRecDepth 100000 in
theorem c_comesBefore (l : Launch) (D : zG) (sz : Nat) (k0 : Nat) : Met l yX1_comesBefore wsX1_comesBefore ({ frames := 0, cells := 0, slots := 0, locals := 0 }) (zPc D [] ([(k0, .inr (1, [.int 0, .int 1, .int 1, .int 2, .int 1, .int 0, .int 1, .int 0]))]) sz [.ref k0, .ref k0]) (vp_Si (fun r => r = 0)) 0 0 (fun _ => False) := by
  refine Met.ofW (cc := cX1_comesBefore) (maxL := 2) (ret := (some .boolean)) (by decide) rfl ?_
  intro p e s m args below meth c s₁ B hml hv
  obtain ⟨rfl, hsz, hP, hK, hD0⟩ := hv
  have hx := B.exec
  have hb := B.bytes
  have hr := B.returns
  have hts := atoms_spec (ws := wsX1_comesBefore) B.pre
  have hown : s.vm.findClass RX1 = some m.cls := findClass_of_methodNamed B.named
  have hlocks := B.notSynchronized
  subst hsz
  have hD := hD0
  generalize hAe : (fun _ : Nat => True) = A at hD
  have hl := lv_entry ([.ref k0, .ref k0]) (n := 2) (Nat.le_of_ble_eq_true rfl)
  rw [lg_entry_eq]
  generalize (lg_sl ([.ref k0, .ref k0]) ++ List.replicate (2 - (lg_sl ([.ref k0, .ref k0])).length) Slot.unset).toArray = ls at hl ⊢
  have hl : lv_has ls 2 [(0, .ref k0), (1, .ref k0)] := hl
  have hP : va_P D vwCl ([(k0, .inr (1, [.int 0, .int 1, .int 1, .int 2, .int 1, .int 0, .int 1, .int 0]))]) s.heap := hP
  generalize hRe : (headSpec _ _).room = R
  have hRf : R.frames = 0 := by rw [← hRe]; rfl
  have hRc : R.cells = 0 := by rw [← hRe]; rfl
  have hRs : R.slots = 0 := by rw [← hRe]; rfl
  have hRl : R.locals = 0 := by rw [← hRe]; rfl
  clear hRe
  refine lv_aload_n hx hb dX1_comesBefore_0 rfl (lv_at hl 0 rfl) ?_
  refine va_get (D := D) (ci := 1) (v := .int 0) (C := RX1) (T := TX1) (N := 8) hx hb hts (fun _ h9 => List.mem_cons_of_mem _ (List.mem_append_right _ h9)) hown hK hP 0 rfl rfl 7 (by decide) (hts (.fieldLink RX1 32 "PalletStack$Kind" "needsDeck" "Z") (List.mem_of_getElem? (i := 1) (by rfl))) (fun _ h9 => h9) rfl dX1_comesBefore_1 ?_
  refine lv_aload_n hx hb dX1_comesBefore_4 rfl (lv_at hl 1 rfl) ?_
  refine va_get (D := D) (ci := 1) (v := .int 0) (C := RX1) (T := TX1) (N := 8) hx hb hts (fun _ h9 => List.mem_cons_of_mem _ (List.mem_append_right _ h9)) hown hK hP 0 rfl rfl 7 (by decide) (hts (.fieldLink RX1 32 "PalletStack$Kind" "needsDeck" "Z") (List.mem_of_getElem? (i := 1) (by rfl))) (fun _ h9 => h9) rfl dX1_comesBefore_5 ?_
  refine lv_icmp_eq (tgt := 16) hx hb dX1_comesBefore_8 (by decide) (fun c_78 => ?_) (fun c_78 => absurd (rfl) c_78)
  refine lv_aload_n hx hb dX1_comesBefore_16 rfl (lv_at hl 0 rfl) ?_
  refine va_get (D := D) (ci := 1) (v := .int 0) (C := RX1) (T := TX1) (N := 8) hx hb hts (fun _ h9 => List.mem_cons_of_mem _ (List.mem_append_right _ h9)) hown hK hP 0 rfl rfl 5 (by decide) (hts (.fieldLink RX1 25 "PalletStack$Kind" "strength" "I") (List.mem_of_getElem? (i := 2) (by rfl))) (fun _ h9 => h9) rfl dX1_comesBefore_17 ?_
  refine lv_aload_n hx hb dX1_comesBefore_20 rfl (lv_at hl 1 rfl) ?_
  refine va_get (D := D) (ci := 1) (v := .int 0) (C := RX1) (T := TX1) (N := 8) hx hb hts (fun _ h9 => List.mem_cons_of_mem _ (List.mem_append_right _ h9)) hown hK hP 0 rfl rfl 5 (by decide) (hts (.fieldLink RX1 25 "PalletStack$Kind" "strength" "I") (List.mem_of_getElem? (i := 2) (by rfl))) (fun _ h9 => h9) rfl dX1_comesBefore_21 ?_
  refine lv_icmp_eq (tgt := 44) hx hb dX1_comesBefore_24 (by decide) (fun c_79 => ?_) (fun c_79 => absurd (rfl) c_79)
  refine lv_aload_n hx hb dX1_comesBefore_44 rfl (lv_at hl 0 rfl) ?_
  refine va_get (D := D) (ci := 1) (v := .int 1) (C := RX1) (T := TX1) (N := 8) hx hb hts (fun _ h9 => List.mem_cons_of_mem _ (List.mem_append_right _ h9)) hown hK hP 0 rfl rfl 4 (by decide) (hts (.fieldLink RX1 22 "PalletStack$Kind" "weight" "I") (List.mem_of_getElem? (i := 3) (by rfl))) (fun _ h9 => h9) rfl dX1_comesBefore_45 ?_
  refine lv_aload_n hx hb dX1_comesBefore_48 rfl (lv_at hl 1 rfl) ?_
  refine va_get (D := D) (ci := 1) (v := .int 1) (C := RX1) (T := TX1) (N := 8) hx hb hts (fun _ h9 => List.mem_cons_of_mem _ (List.mem_append_right _ h9)) hown hK hP 0 rfl rfl 4 (by decide) (hts (.fieldLink RX1 22 "PalletStack$Kind" "weight" "I") (List.mem_of_getElem? (i := 3) (by rfl))) (fun _ h9 => h9) rfl dX1_comesBefore_49 ?_
  refine lv_icmp_le (tgt := 59) hx hb dX1_comesBefore_52 (by decide) (fun c_80 => ?_) (fun c_80 => absurd (by decide) c_80)
  refine lv_iconst (v := 0) hx hb dX1_comesBefore_59 (by decide) ?_
  exact W.zret (ty := .boolean) (v := 0) hx hb hr rfl (fun t ht hW => ⟨0, rfl, rfl, ht⟩) (fun _ h => by cases h) dX1_comesBefore_60
set_option maxHeartbeats 4000000 in
set_option maxRecDepth 100000 in
theorem c_lineOf (l : Launch) (D : zG) (sz : Nat) (o kA iA tA tr lA n : Nat) (cL : ClassId) (f : Nat → Option Nat) (i q : Nat) (hi : i < n) (hn : n ≤ 20) (hf : f i = some q) : Met l yX3_lineOf wsX3_lineOf ({ frames := 1, cells := 0, slots := 0, locals := 22 }) (zPc D [(cL, .object RX2)] ([(o, .inr (3, [.ref kA, .int 1, .int 1, .int 0, .int 1, .int 0, .ref iA, .int 0, .int 0, .int 0, .ref tA, .ref tr, .ref lA, .int (nI n)])), (lA, .inl (cL, 20, .inr (.inr (.inr (.inr (f))))))]) sz [.ref o, .int (nI i)]) (va_Sq (fun r => r = some q)) 0 0 (fun _ => False) := by
  refine Met.ofW (cc := cX3_lineOf) (maxL := 2) (ret := (some (.object "PalletStack$Line"))) (by decide) rfl ?_
  intro p e s m args below meth c s₁ B hml hv
  obtain ⟨rfl, hsz, hP, hK, hD0⟩ := hv
  have hx := B.exec
  have hb := B.bytes
  have hr := B.returns
  have hts := atoms_spec (ws := wsX3_lineOf) B.pre
  have hown : s.vm.findClass RX3 = some m.cls := findClass_of_methodNamed B.named
  have hlocks := B.notSynchronized
  subst hsz
  have hD := hD0
  generalize hAe : (fun _ : Nat => True) = A at hD
  have hl := lv_entry ([.ref o, .int (nI i)]) (n := 2) (Nat.le_of_ble_eq_true rfl)
  rw [lg_entry_eq]
  generalize (lg_sl ([.ref o, .int (nI i)]) ++ List.replicate (2 - (lg_sl ([.ref o, .int (nI i)])).length) Slot.unset).toArray = ls at hl ⊢
  have hl : lv_has ls 2 [(0, .ref o), (1, .int (nI i))] := hl
  have hP : va_P D vwCl ([(o, .inr (3, [.ref kA, .int 1, .int 1, .int 0, .int 1, .int 0, .ref iA, .int 0, .int 0, .int 0, .ref tA, .ref tr, .ref lA, .int (nI n)])), (lA, .inl (cL, 20, .inr (.inr (.inr (.inr (f))))))]) s.heap := hP
  generalize hRe : (headSpec _ _).room = R
  have hRf : R.frames = 1 := by rw [← hRe]; rfl
  have hRc : R.cells = 0 := by rw [← hRe]; rfl
  have hRs : R.slots = 0 := by rw [← hRe]; rfl
  have hRl : R.locals = 22 := by rw [← hRe]; rfl
  clear hRe
  refine lv_iload_n hx hb dX3_lineOf_0 rfl (lv_at hl 1 rfl) ?_
  refine lv_iconst (v := 0) hx hb dX3_lineOf_1 (by decide) ?_
  refine lv_bipush (v := 19) hx hb dX3_lineOf_2 (by decide) ?_
  refine zrdS (As := [.int (nI i), .int 0, .int 19]) (rest := []) (wc := []) ⟨hx, hb, hml, hown, hts⟩ (c_isWithin l D _ (nI i) 0 19) (va_cwS 3 hts gX3_lineOf_X3_isWithin rfl rfl rfl (by decide +kernel) ⟨by rw [hRf]; exact Nat.le_of_ble_eq_true rfl, by rw [hRl]; exact Nat.le_of_ble_eq_true rfl⟩) hK hP hD [] rfl (by decide) [] rfl rfl hl.1 rfl (Nat.le_of_ble_eq_true rfl) dX3_lineOf_4 ⟨by omega, by omega⟩ (fun r_81 hr_81 => ?_)
  refine lv_topi (fun v_82 ev_82 => ?_)
  obtain rfl : v_82 = 1 := ev_82.trans (hr_81.trans (if_pos ⟨nI_pos' (by omega), (nI_leI (b := 19) (by omega) (by decide)).mpr (by omega)⟩))
  refine lv_if_eq (tgt := 27) hx hb dX3_lineOf_7 (by decide) (fun c_83 => absurd c_83 (by decide)) (fun c_83 => ?_)
  refine lv_iload_n hx hb dX3_lineOf_10 rfl (lv_at hl 1 rfl) ?_
  refine lv_aload_n hx hb dX3_lineOf_11 rfl (lv_at hl 0 rfl) ?_
  refine va_get (D := D) (ci := 3) (v := .int (nI n)) (C := RX3) (T := TX3) (N := 14) hx hb hts (fun _ h9 => List.mem_cons_of_mem _ (List.mem_append_right _ h9)) hown hK hP 0 rfl rfl 13 (by decide) (hts (.fieldLink RX3 62 "PalletStack" "lineCount" "I") (List.mem_of_getElem? (i := 1) (by rfl))) (fun _ h9 => h9) rfl dX3_lineOf_12 ?_
  refine lv_icmp_ge (tgt := 27) hx hb dX3_lineOf_15 (by decide) (fun c_84 => absurd c_84 (nI_ge hi (by omega))) (fun c_84 => ?_)
  refine lv_aload_n hx hb dX3_lineOf_18 rfl (lv_at hl 0 rfl) ?_
  refine va_get (D := D) (ci := 3) (v := .ref lA) (C := RX3) (T := TX3) (N := 14) hx hb hts (fun _ h9 => List.mem_cons_of_mem _ (List.mem_append_right _ h9)) hown hK hP 0 rfl rfl 12 (by decide) (hts (.fieldLink RX3 58 "PalletStack" "lines" "[LPalletStack$Line;") (List.mem_of_getElem? (i := 2) (by rfl))) (fun _ h9 => h9) rfl dX3_lineOf_19 ?_
  refine lv_iload_n hx hb dX3_lineOf_22 rfl (lv_at hl 1 rfl) ?_
  refine va_aldq hx hb hK hP 1 0 rfl rfl (vp_in_nI (N := 20) (by omega) (by decide)) dX3_lineOf_23 ?_
  refine W.eq (g2 := F0 m 24 ls [.ref q]) (by rw [nI_clamp (by omega), hf]; rfl) ?_
  refine lv_goto (tgt := 28) hx hb dX3_lineOf_24 (by decide) ?_
  exact W.aret (v := .ref q) hx hb hr (.inl ⟨_, rfl⟩) (.inr ⟨_, rfl⟩) (fun t ht hW => ⟨some q, rfl, rfl, ht⟩) (fun _ h => by cases h) dX3_lineOf_28
