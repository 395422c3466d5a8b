set_option maxHeartbeats 4000000 in
set_option maxRecDepth 100000 in
theorem c_addKind (l : Launch) (D : zG) (sz : Nat) (B : qB) (R : qR0) (N : qN0) (a1 a2 a3 a4 a5 a6 : Nat) (h1 : 0 < a1 ∧ a1 ≤ 6) (h2 : 0 < a2 ∧ a2 ≤ 6) (h3 : 0 < a3 ∧ a3 ≤ 8) (h4 : 0 < a4 ∧ a4 ≤ 500) (h5 : a5 ≤ 5000) (h6 : a6 < 4) (hO : qOK B N) (hk : qk B < 10) (hl9 : ql B = 0) : Met l yX3_addKind wsX3_addKind ({ frames := 2, cells := 1, slots := 8, locals := 60 }) (zPc D (qT B) (qG B R N) sz [.ref (qA B 5 0), .int (nI a1), .int (nI a2), .int (nI a3), .int (nI a4), .int (nI a5), .int (nI a6)]) (va_Qi (fun (r : Int32) (u : Nat) => r = nI (qk B)) (zB D (va_A (qG B R N) sz) (fun _ => []) 0 (fun u => qG (qBk B u) R (qNk N (qk B) [qk B, a1, a2, a3, a4, a5, a6 % 2, a6 / 2]))) (va_A (qG B R N) sz)) 1 8 (va_A (qG B R N) sz) := by
  refine Met.ofW (cc := cX3_addKind) (maxL := 8) (ret := (some .int)) (by decide) rfl ?_
  intro p e s m args below meth c s₁ B9 hml hv
  obtain ⟨rfl, hsz, hP, hK, hD0⟩ := hv
  have hx := B9.exec
  have hb := B9.bytes
  have hr := B9.returns
  have hts := atoms_spec (ws := wsX3_addKind) B9.pre
  have hown : s.vm.findClass RX3 = some m.cls := findClass_of_methodNamed B9.named
  have hlocks := B9.notSynchronized
  subst hsz
  have hD := hD0.self (sz := s.heap.size)
  generalize hAe : va_A (qG B R N) s.heap.size = A at hD ⊢
  have hA : ∀ q : Nat, s.heap.size ≤ q → A q := fun q h => by rw [← hAe]; exact Or.inr h
  have hS : va_S A s.heap s.heap [] := va_S.rf
  have hl := lv_entry ([.ref (qA B 5 0), .int (nI a1), .int (nI a2), .int (nI a3), .int (nI a4), .int (nI a5), .int (nI a6)]) (n := 8) (Nat.le_of_ble_eq_true rfl)
  rw [lg_entry_eq]
  generalize (lg_sl ([.ref (qA B 5 0), .int (nI a1), .int (nI a2), .int (nI a3), .int (nI a4), .int (nI a5), .int (nI a6)]) ++ List.replicate (8 - (lg_sl ([.ref (qA B 5 0), .int (nI a1), .int (nI a2), .int (nI a3), .int (nI a4), .int (nI a5), .int (nI a6)])).length) Slot.unset).toArray = ls at hl ⊢
  have hl : lv_has ls 8 [(0, .ref (qA B 5 0)), (1, .int (nI a1)), (2, .int (nI a2)), (3, .int (nI a3)), (4, .int (nI a4)), (5, .int (nI a5)), (6, .int (nI a6))] := hl
  have hP : va_P D vwCl (qG B R N) s.heap := hP
  generalize hRe : (headSpec _ _).room = R9
  have hRf : R9.frames = 2 := by rw [← hRe]; rfl
  have hRc : R9.cells = 1 := by rw [← hRe]; rfl
  have hRs : R9.slots = 8 := by rw [← hRe]; rfl
  have hRl : R9.locals = 60 := by rw [← hRe]; rfl
  clear hRe
  obtain ⟨o1, o2, o3, o4, o5, o6, o7, o8, o9⟩ := hO
  refine lv_iload_n hx hb dX3_addKind_0 rfl (lv_at hl 1 rfl) ?_
  refine lv_iconst (v := 1) hx hb dX3_addKind_1 (by decide) ?_
  refine lv_bipush (v := 6) hx hb dX3_addKind_2 (by decide) ?_
  refine zrdS (As := [.int (nI a1), .int 1, .int 6]) (rest := []) (wc := []) ⟨hx, hb, hml, hown, hts⟩ (c_isWithin l D _ (nI a1) 1 6) (va_cwS 3 hts gX3_addKind_X3_isWithin rfl rfl rfl (by decide +kernel) ⟨by rw [hRf]; exact Nat.le_of_ble_eq_true rfl, by rw [hRl]; exact Nat.le_of_ble_eq_true rfl⟩) hK hP hD [] rfl (by decide) [] rfl rfl hl.1 rfl (Nat.le_of_ble_eq_true rfl) dX3_addKind_4 ⟨by omega, by omega⟩ (fun r_1 hr_1 => ?_)
  refine lv_topi (fun v_2 ev_2 => ?_)
  obtain rfl : v_2 = 1 := ev_2.trans (hr_1.trans (if_pos ⟨nI_le (a := 1) (by omega) (by omega), nI_le (b := 6) (by omega) (by decide)⟩))
  refine lv_if_eq (tgt := 64) hx hb dX3_addKind_7 (by decide) (fun c_3 => absurd c_3 (by decide)) (fun c_3 => ?_)
  refine lv_iload_n hx hb dX3_addKind_10 rfl (lv_at hl 2 rfl) ?_
  refine lv_iconst (v := 1) hx hb dX3_addKind_11 (by decide) ?_
  refine lv_bipush (v := 6) hx hb dX3_addKind_12 (by decide) ?_
  refine zrdS (As := [.int (nI a2), .int 1, .int 6]) (rest := []) (wc := []) ⟨hx, hb, hml, hown, hts⟩ (c_isWithin l D _ (nI a2) 1 6) (va_cwS 3 hts gX3_addKind_X3_isWithin rfl rfl rfl (by decide +kernel) ⟨by rw [hRf]; exact Nat.le_of_ble_eq_true rfl, by rw [hRl]; exact Nat.le_of_ble_eq_true rfl⟩) hK hP hD [] rfl (by decide) [] rfl rfl hl.1 rfl (Nat.le_of_ble_eq_true rfl) dX3_addKind_14 ⟨by omega, by omega⟩ (fun r_4 hr_4 => ?_)
  refine lv_topi (fun v_5 ev_5 => ?_)
  obtain rfl : v_5 = 1 := ev_5.trans (hr_4.trans (if_pos ⟨nI_le (a := 1) (by omega) (by omega), nI_le (b := 6) (by omega) (by decide)⟩))
  refine lv_if_eq (tgt := 64) hx hb dX3_addKind_17 (by decide) (fun c_6 => absurd c_6 (by decide)) (fun c_6 => ?_)
  refine lv_iload_n hx hb dX3_addKind_20 rfl (lv_at hl 3 rfl) ?_
  refine lv_iconst (v := 1) hx hb dX3_addKind_21 (by decide) ?_
  refine lv_bipush (v := 8) hx hb dX3_addKind_22 (by decide) ?_
  refine zrdS (As := [.int (nI a3), .int 1, .int 8]) (rest := []) (wc := []) ⟨hx, hb, hml, hown, hts⟩ (c_isWithin l D _ (nI a3) 1 8) (va_cwS 3 hts gX3_addKind_X3_isWithin rfl rfl rfl (by decide +kernel) ⟨by rw [hRf]; exact Nat.le_of_ble_eq_true rfl, by rw [hRl]; exact Nat.le_of_ble_eq_true rfl⟩) hK hP hD [] rfl (by decide) [] rfl rfl hl.1 rfl (Nat.le_of_ble_eq_true rfl) dX3_addKind_24 ⟨by omega, by omega⟩ (fun r_7 hr_7 => ?_)
  refine lv_topi (fun v_8 ev_8 => ?_)
  obtain rfl : v_8 = 1 := ev_8.trans (hr_7.trans (if_pos ⟨nI_le (a := 1) (by omega) (by omega), nI_le (b := 8) (by omega) (by decide)⟩))
  refine lv_if_eq (tgt := 64) hx hb dX3_addKind_27 (by decide) (fun c_9 => absurd c_9 (by decide)) (fun c_9 => ?_)
  refine lv_iload hx hb dX3_addKind_30 (lv_at hl 4 rfl) ?_
  refine lv_iconst (v := 1) hx hb dX3_addKind_32 (by decide) ?_
  refine lv_sipush (v := 500) hx hb dX3_addKind_33 (by decide) ?_
  refine zrdS (As := [.int (nI a4), .int 1, .int 500]) (rest := []) (wc := []) ⟨hx, hb, hml, hown, hts⟩ (c_isWithin l D _ (nI a4) 1 500) (va_cwS 3 hts gX3_addKind_X3_isWithin rfl rfl rfl (by decide +kernel) ⟨by rw [hRf]; exact Nat.le_of_ble_eq_true rfl, by rw [hRl]; exact Nat.le_of_ble_eq_true rfl⟩) hK hP hD [] rfl (by decide) [] rfl rfl hl.1 rfl (Nat.le_of_ble_eq_true rfl) dX3_addKind_36 ⟨by omega, by omega⟩ (fun r_10 hr_10 => ?_)
  refine lv_topi (fun v_11 ev_11 => ?_)
  obtain rfl : v_11 = 1 := ev_11.trans (hr_10.trans (if_pos ⟨nI_le (a := 1) (by omega) (by omega), nI_le (b := 500) (by omega) (by decide)⟩))
  refine lv_if_eq (tgt := 64) hx hb dX3_addKind_39 (by decide) (fun c_12 => absurd c_12 (by decide)) (fun c_12 => ?_)
  refine lv_iload hx hb dX3_addKind_42 (lv_at hl 5 rfl) ?_
  refine lv_iconst (v := 0) hx hb dX3_addKind_44 (by decide) ?_
  refine lv_sipush (v := 5000) hx hb dX3_addKind_45 (by decide) ?_
  refine zrdS (As := [.int (nI a5), .int 0, .int 5000]) (rest := []) (wc := []) ⟨hx, hb, hml, hown, hts⟩ (c_isWithin l D _ (nI a5) 0 5000) (va_cwS 3 hts gX3_addKind_X3_isWithin rfl rfl rfl (by decide +kernel) ⟨by rw [hRf]; exact Nat.le_of_ble_eq_true rfl, by rw [hRl]; exact Nat.le_of_ble_eq_true rfl⟩) hK hP hD [] rfl (by decide) [] rfl rfl hl.1 rfl (Nat.le_of_ble_eq_true rfl) dX3_addKind_48 ⟨by omega, by omega⟩ (fun r_13 hr_13 => ?_)
  refine lv_topi (fun v_14 ev_14 => ?_)
  obtain rfl : v_14 = 1 := ev_14.trans (hr_13.trans (if_pos ⟨nI_pos' (by omega), nI_le (b := 5000) (by omega) (by decide)⟩))
  refine lv_if_eq (tgt := 64) hx hb dX3_addKind_51 (by decide) (fun c_15 => absurd c_15 (by decide)) (fun c_15 => ?_)
  refine lv_iload hx hb dX3_addKind_54 (lv_at hl 6 rfl) ?_
  refine lv_iconst (v := 0) hx hb dX3_addKind_56 (by decide) ?_
  refine lv_iconst (v := 3) hx hb dX3_addKind_57 (by decide) ?_
  refine zrdS (As := [.int (nI a6), .int 0, .int 3]) (rest := []) (wc := []) ⟨hx, hb, hml, hown, hts⟩ (c_isWithin l D _ (nI a6) 0 3) (va_cwS 3 hts gX3_addKind_X3_isWithin rfl rfl rfl (by decide +kernel) ⟨by rw [hRf]; exact Nat.le_of_ble_eq_true rfl, by rw [hRl]; exact Nat.le_of_ble_eq_true rfl⟩) hK hP hD [] rfl (by decide) [] rfl rfl hl.1 rfl (Nat.le_of_ble_eq_true rfl) dX3_addKind_58 ⟨by omega, by omega⟩ (fun r_16 hr_16 => ?_)
  refine lv_topi (fun v_17 ev_17 => ?_)
  obtain rfl : v_17 = 1 := ev_17.trans (hr_16.trans (if_pos ⟨nI_pos' (by omega), nI_le (b := 3) (by omega) (by decide)⟩))
  refine lv_if_ne (tgt := 72) hx hb dX3_addKind_61 (by decide) (fun c_18 => ?_) (fun c_18 => absurd c_18 (by decide))
  refine lv_aload_n hx hb dX3_addKind_72 rfl (lv_at hl 0 rfl) ?_
  refine va_get (D := D) (ci := 3) (v := .int (nI (N 4 1 0))) (C := RX3) (T := TX3) (N := 14) hx hb hts (fun _ h9 => List.mem_cons_of_mem _ (List.mem_append_left _ (List.mem_append_left _ (List.mem_append_left _ (List.mem_append_right _ h9))))) hown hK hP 0 rfl rfl 1 (by decide) (hts (.fieldLink RX3 15 "PalletStack" "kindCount" "I") (List.mem_of_getElem? (i := 5) (by rfl))) (fun _ h9 => h9) rfl dX3_addKind_73 ?_
  refine lv_topi (fun v_19 ev_19 => ?_)
  obtain rfl : v_19 = (nI (qk B)) := ev_19.trans (by rw [o4])
  refine lv_if_lt (tgt := 88) hx hb dX3_addKind_76 (by decide) (fun c_20 => absurd c_20 (nI_pos (by omega))) (fun c_20 => ?_)
  refine lv_aload_n hx hb dX3_addKind_79 rfl (lv_at hl 0 rfl) ?_
  refine va_get (D := D) (ci := 3) (v := .int (nI (N 4 1 0))) (C := RX3) (T := TX3) (N := 14) hx hb hts (fun _ h9 => List.mem_cons_of_mem _ (List.mem_append_left _ (List.mem_append_left _ (List.mem_append_left _ (List.mem_append_right _ h9))))) hown hK hP 0 rfl rfl 1 (by decide) (hts (.fieldLink RX3 15 "PalletStack" "kindCount" "I") (List.mem_of_getElem? (i := 5) (by rfl))) (fun _ h9 => h9) rfl dX3_addKind_80 ?_
  refine lv_topi (fun v_21 ev_21 => ?_)
  obtain rfl : v_21 = (nI (qk B)) := ev_21.trans (by rw [o4])
  refine lv_bipush (v := 10) hx hb dX3_addKind_83 (by decide) ?_
  refine lv_icmp_lt (tgt := 96) hx hb dX3_addKind_85 (by decide) (fun c_22 => ?_) (fun c_22 => absurd (nI_lt (b := 10) hk (by decide)) c_22)
  refine lv_aload_n hx hb dX3_addKind_96 rfl (lv_at hl 0 rfl) ?_
  refine va_get (D := D) (ci := 3) (v := .int (nI (N 4 1 0))) (C := RX3) (T := TX3) (N := 14) hx hb hts (fun _ h9 => List.mem_cons_of_mem _ (List.mem_append_left _ (List.mem_append_left _ (List.mem_append_left _ (List.mem_append_right _ h9))))) hown hK hP 0 rfl rfl 1 (by decide) (hts (.fieldLink RX3 15 "PalletStack" "kindCount" "I") (List.mem_of_getElem? (i := 5) (by rfl))) (fun _ h9 => h9) rfl dX3_addKind_97 ?_
  refine lv_topi (fun v_23 ev_23 => ?_)
  obtain rfl : v_23 = (nI (qk B)) := ev_23.trans (by rw [o4])
  refine lv_istore (lv' := [(7, .int (nI (qk B))), (0, .ref (qA B 5 0)), (1, .int (nI a1)), (2, .int (nI a2)), (3, .int (nI a3)), (4, .int (nI a4)), (5, .int (nI a5)), (6, .int (nI a6))]) hx hb dX3_addKind_100 hl (by decide) rfl (fun ls hl => ?_)
  refine lv_aload_n hx hb dX3_addKind_102 rfl (lv_at hl 1 rfl) ?_
  refine va_get (D := D) (ci := 3) (v := .ref (qA B 5 1)) (C := RX3) (T := TX3) (N := 14) hx hb hts (fun _ h9 => List.mem_cons_of_mem _ (List.mem_append_left _ (List.mem_append_left _ (List.mem_append_left _ (List.mem_append_right _ h9))))) hown hK hP 0 rfl rfl 0 (by decide) (hts (.fieldLink RX3 11 "PalletStack" "kinds" "[LPalletStack$Kind;") (List.mem_of_getElem? (i := 6) (by rfl))) (fun _ h9 => h9) rfl dX3_addKind_103 ?_
  refine lv_iload hx hb dX3_addKind_106 (lv_at hl 0 rfl) ?_
  refine va_new (D := D) (ci := 1) (fs := [.int 0, .int 0, .int 0, .int 0, .int 0, .int 0, .int 0, .int 0]) (C := RX1) (T := TX1) (N := 8) hx hb hts (fun _ h9 => List.mem_cons_of_mem _ (List.mem_append_left _ (List.mem_append_left _ (List.mem_append_right _ h9)))) tyX1 tyX1_ok hown (hts (.classLink RX3 9 RX1) (List.mem_of_getElem? (i := 7) (by rfl))) (hts (.instantiable RX1 8) (List.mem_of_getElem? (i := 8) (by rfl))) (hts (.initialized RX1) (List.mem_of_getElem? (i := 9) (by rfl))) hK hP hD hS hA rfl (fun j hj => by rcases (show j = 0 ∨ j = 1 ∨ j = 2 ∨ j = 3 ∨ j = 4 ∨ j = 5 ∨ j = 6 ∨ j = 7 by omega) with rfl | rfl | rfl | rfl | rfl | rfl | rfl | rfl <;> rfl) (by omega) (by omega) dX3_addKind_108 (fun q_24 H hP hD hS => ?_)
  refine lv_dup hx hb dX3_addKind_111 rfl ?_
  refine lv_iload hx hb dX3_addKind_112 (lv_at hl 0 rfl) ?_
  refine lv_iload_n hx hb dX3_addKind_114 rfl (lv_at hl 2 rfl) ?_
  refine lv_iload_n hx hb dX3_addKind_115 rfl (lv_at hl 3 rfl) ?_
  refine lv_iload_n hx hb dX3_addKind_116 rfl (lv_at hl 4 rfl) ?_
  refine lv_iload hx hb dX3_addKind_117 (lv_at hl 5 rfl) ?_
  refine lv_iload hx hb dX3_addKind_119 (lv_at hl 6 rfl) ?_
  refine lv_iload hx hb dX3_addKind_121 (lv_at hl 7 rfl) ?_
  refine zcallvI (As := [.int (nI (qk B)), .int (nI a1), .int (nI a2), .int (nI a3), .int (nI a4), .int (nI a5), .int (nI a6)]) (rest := [.ref q_24, .int (nI (qk B)), .ref (qA B 5 1)]) (wc := [(q_24, .inr (1, [.int 0, .int 0, .int 0, .int 0, .int 0, .int 0, .int 0, .int 0]))]) (wr := qG B R N) ⟨hx, hb, hml, hown, hts⟩ (c_Kind_init l D _ q_24 (qk B) a1 a2 a3 a4 a5 a6 h6) (⟨callB_of 7 hts gX3_addKind_X1_init rfl rfl rfl (hts (.initialized RX1) (List.mem_of_getElem? (i := 9) (by rfl))) (hts (.methodLink RX3 75 yX1_init) (List.mem_of_getElem? (i := 14) (by rfl))) (by decide +kernel) ⟨by rw [hRf]; exact Nat.le_of_ble_eq_true rfl, by rw [hRl]; exact Nat.le_of_ble_eq_true rfl⟩, rfl, (hts (.instanceMethod yX1_init) (List.mem_of_getElem? (i := 15) (by rfl)))⟩) hK hP hD hS hA (qCi (qG B R N) [(q_24, .inr (1, [.int 0, .int 0, .int 0, .int 0, .int 0, .int 0, .int 0, .int 0]))]) (qRi (qG B R N)) (qCi_C _ _) (qCi_nd _ _) (qRi_R _ _) (qRi_nd _) (qRi_dis _ _) [] rfl rfl hl.1 rfl (Nat.le_of_ble_eq_true rfl) dX3_addKind_123 ⟨by omega, by omega⟩ (fun u_25 H locs hwu_25 hnu_25 hzu_25 hK9 hP hD hS => ?_)
  refine va_astq hx hb hK hP hD hS 1 0 (qG B R N).length 1 rfl rfl qgx rfl (vp_in_nI (n := qk B) (N := 10) hk (by decide)) dX3_addKind_126 (fun H locs hP hD hS => ?_)
  rw [nI_clamp (by omega)] at hP hD
  refine lv_aload_n hx hb dX3_addKind_127 rfl (lv_at hl 1 rfl) ?_
  refine lv_iload hx hb dX3_addKind_128 (lv_at hl 0 rfl) ?_
  refine lv_iconst (v := 1) hx hb dX3_addKind_130 (by decide) ?_
  refine lv_iadd hx hb dX3_addKind_131 ?_
  refine lv_topi (fun v_26 ev_26 => ?_)
  obtain rfl : v_26 = (nI (qk B + 1)) := ev_26.trans (nI_add _ 1)
  refine va_put (D := D) (ci := 3) (v := .int (nI (qk B + 1))) (ty := .int) (C := RX3) (T := TX3) (N := 14) hx hb hts (fun _ h9 => List.mem_cons_of_mem _ (List.mem_append_left _ (List.mem_append_left _ (List.mem_append_left _ (List.mem_append_right _ h9))))) tyX3 tyX3_ok nmX3 hown hK hP hD hS 0 rfl rfl 1 (by decide) (hts (.fieldLink RX3 15 "PalletStack" "kindCount" "I") (List.mem_of_getElem? (i := 5) (by rfl))) (fun _ h9 => h9) rfl (by decide +kernel) rfl rfl (Nat.le_of_ble_eq_true rfl) dX3_addKind_132 (fun H locs hP hD hS => ?_)
  have hP : va_P D vwCl (qG (qBk B q_24) R (qNk N (qk B) [qk B, a1, a2, a3, a4, a5, a6 % 2, a6 / 2])) H := by rw [← qG_kind hl9]; exact hP
  have hD : va_D A (qG (qBk B q_24) R (qNk N (qk B) [qk B, a1, a2, a3, a4, a5, a6 % 2, a6 / 2])) := by rw [← qG_kind hl9]; exact hD
  refine W.widen (k := 1) (n := 8) (by omega) (by omega) ?_
  refine lv_iload hx hb dX3_addKind_135 (lv_at hl 0 rfl) ?_
  exact W.iret (v := (nI (qk B))) hx hb hr (fun t ht hW => ⟨⟨(nI (qk B)), q_24, rfl, rfl, ⟨Nat.zero_le _, by rw [ht]; exact hP, va_K.moved hW.alike (hK.sub (tys' := []) [] rfl), hD⟩⟩, hS.F ht⟩) hS.2.2 dX3_addKind_137
set_option maxHeartbeats 4000000 in
set_option maxRecDepth 100000 in
theorem c_addLine (l : Launch) (D : zG) (sz : Nat) (B : qB) (R : qR0) (N : qN0) (k x : Nat) (hk : k < qk B) (hx9 : 0 < x ∧ x ≤ 20) (hO : qOK B N) (hl9 : ql B < 20) : Met l yX3_addLine wsX3_addLine ({ frames := 2, cells := 1, slots := 3, locals := 45 }) (zPc D (qT B) (qG B R N) sz [.ref (qA B 5 0), .int (nI k), .int (nI x)]) (va_Qi (fun (r : Int32) (u : Nat) => r = nI (ql B)) (zB D (va_A (qG B R N) sz) (fun _ => []) 0 (fun u => qG (qBl B u) R (qNl N (ql B) k x))) (va_A (qG B R N) sz)) 1 3 (va_A (qG B R N) sz) := by
  refine Met.ofW (cc := cX3_addLine) (maxL := 5) (ret := (some .int)) (by decide) rfl ?_
  intro p e s m args below meth c s₁ B9 hml hv
  obtain ⟨rfl, hsz, hP, hK, hD0⟩ := hv
  have hx := B9.exec
  have hb := B9.bytes
  have hr := B9.returns
  have hts := atoms_spec (ws := wsX3_addLine) B9.pre
  have hown : s.vm.findClass RX3 = some m.cls := findClass_of_methodNamed B9.named
  have hlocks := B9.notSynchronized
  subst hsz
  have hD := hD0.self (sz := s.heap.size)
  generalize hAe : va_A (qG B R N) s.heap.size = A at hD ⊢
  have hA : ∀ q : Nat, s.heap.size ≤ q → A q := fun q h => by rw [← hAe]; exact Or.inr h
  have hS : va_S A s.heap s.heap [] := va_S.rf
  have hl := lv_entry ([.ref (qA B 5 0), .int (nI k), .int (nI x)]) (n := 5) (Nat.le_of_ble_eq_true rfl)
  rw [lg_entry_eq]
  generalize (lg_sl ([.ref (qA B 5 0), .int (nI k), .int (nI x)]) ++ List.replicate (5 - (lg_sl ([.ref (qA B 5 0), .int (nI k), .int (nI x)])).length) Slot.unset).toArray = ls at hl ⊢
  have hl : lv_has ls 5 [(0, .ref (qA B 5 0)), (1, .int (nI k)), (2, .int (nI x))] := hl
  have hP : va_P D vwCl (qG B R N) s.heap := hP
  generalize hRe : (headSpec _ _).room = R9
  have hRf : R9.frames = 2 := by rw [← hRe]; rfl
  have hRc : R9.cells = 1 := by rw [← hRe]; rfl
  have hRs : R9.slots = 3 := by rw [← hRe]; rfl
  have hRl : R9.locals = 45 := by rw [← hRe]; rfl
  clear hRe
  have o5 := hO.2.2.2.2.1
  refine lv_aload_n hx hb dX3_addLine_0 rfl (lv_at hl 0 rfl) ?_
  refine lv_iload_n hx hb dX3_addLine_1 rfl (lv_at hl 1 rfl) ?_
  refine zrdVq2 (As := [.int (nI k)]) (rest := []) (wc := qG B R N) ⟨hx, hb, hml, hown, hts⟩ (c_kindOf l D _ B R N k hk hO) (cwV 1 hts gX3_addLine_X3_kindOf rfl rfl rfl (by decide +kernel) ⟨by rw [hRf]; exact Nat.le_of_ble_eq_true rfl, by rw [hRl]; exact Nat.le_of_ble_eq_true rfl⟩) hK hP hD [0, 1, 2, 3] rfl (ci := 3) (q0 := 0) rfl rfl rfl hl.1 rfl (Nat.le_of_ble_eq_true rfl) dX3_addLine_2 ⟨by omega, by omega⟩ (fun r_27 hr_27 => ?_)
  refine W.eq (g2 := F0 m 5 ls [.ref (qA B 3 k)]) (by rw [hr_27]; rfl) ?_
  refine lv_astore_n (lv' := [(3, .ref (qA B 3 k)), (0, .ref (qA B 5 0)), (1, .int (nI k)), (2, .int (nI x))]) hx hb dX3_addLine_5 rfl hl (by decide) rfl (fun ls hl => ?_)
  refine lv_aload_n hx hb dX3_addLine_6 rfl (lv_at hl 0 rfl) ?_
  refine lv_ifnonnull (tgt := 18) hx hb dX3_addLine_7 (by decide) ?_
  refine lv_iload_n hx hb dX3_addLine_18 rfl (lv_at hl 3 rfl) ?_
  refine lv_iconst (v := 1) hx hb dX3_addLine_19 (by decide) ?_
  refine lv_bipush (v := 20) hx hb dX3_addLine_20 (by decide) ?_
  refine zrdS (As := [.int (nI x), .int 1, .int 20]) (rest := []) (wc := []) ⟨hx, hb, hml, hown, hts⟩ (c_isWithin l D _ (nI x) 1 20) (va_cwS 3 hts gX3_addLine_X3_isWithin rfl rfl rfl (by decide +kernel) ⟨by rw [hRf]; exact Nat.le_of_ble_eq_true rfl, by rw [hRl]; exact Nat.le_of_ble_eq_true rfl⟩) hK hP hD [] rfl (by decide) [] rfl rfl hl.1 rfl (Nat.le_of_ble_eq_true rfl) dX3_addLine_22 ⟨by omega, by omega⟩ (fun r_29 hr_29 => ?_)
  refine lv_topi (fun v_30 ev_30 => ?_)
  obtain rfl : v_30 = 1 := ev_30.trans (hr_29.trans (if_pos ⟨nI_le (a := 1) (by omega) (by omega), nI_le (b := 20) (by omega) (by decide)⟩))
  refine lv_if_ne (tgt := 36) hx hb dX3_addLine_25 (by decide) (fun c_31 => ?_) (fun c_31 => absurd c_31 (by decide))
  refine lv_aload_n hx hb dX3_addLine_36 rfl (lv_at hl 1 rfl) ?_
  refine va_get (D := D) (ci := 3) (v := .int (nI (N 4 1 8))) (C := RX3) (T := TX3) (N := 14) hx hb hts (fun _ h9 => List.mem_cons_of_mem _ (List.mem_append_left _ (List.mem_append_left _ (List.mem_append_left _ (List.mem_append_left _ (List.mem_append_right _ h9)))))) hown hK hP 0 rfl rfl 13 (by decide) (hts (.fieldLink RX3 62 "PalletStack" "lineCount" "I") (List.mem_of_getElem? (i := 7) (by rfl))) (fun _ h9 => h9) rfl dX3_addLine_37 ?_
  refine lv_topi (fun v_32 ev_32 => ?_)
  obtain rfl : v_32 = (nI (ql B)) := ev_32.trans (by rw [o5])
  refine lv_if_lt (tgt := 52) hx hb dX3_addLine_40 (by decide) (fun c_33 => absurd c_33 (nI_pos (by omega))) (fun c_33 => ?_)
  refine lv_aload_n hx hb dX3_addLine_43 rfl (lv_at hl 1 rfl) ?_
  refine va_get (D := D) (ci := 3) (v := .int (nI (N 4 1 8))) (C := RX3) (T := TX3) (N := 14) hx hb hts (fun _ h9 => List.mem_cons_of_mem _ (List.mem_append_left _ (List.mem_append_left _ (List.mem_append_left _ (List.mem_append_left _ (List.mem_append_right _ h9)))))) hown hK hP 0 rfl rfl 13 (by decide) (hts (.fieldLink RX3 62 "PalletStack" "lineCount" "I") (List.mem_of_getElem? (i := 7) (by rfl))) (fun _ h9 => h9) rfl dX3_addLine_44 ?_
  refine lv_topi (fun v_34 ev_34 => ?_)
  obtain rfl : v_34 = (nI (ql B)) := ev_34.trans (by rw [o5])
  refine lv_bipush (v := 20) hx hb dX3_addLine_47 (by decide) ?_
  refine lv_icmp_lt (tgt := 60) hx hb dX3_addLine_49 (by decide) (fun c_35 => ?_) (fun c_35 => absurd (nI_lt (b := 20) hl9 (by decide)) c_35)
  refine lv_aload_n hx hb dX3_addLine_60 rfl (lv_at hl 1 rfl) ?_
  refine va_get (D := D) (ci := 3) (v := .int (nI (N 4 1 8))) (C := RX3) (T := TX3) (N := 14) hx hb hts (fun _ h9 => List.mem_cons_of_mem _ (List.mem_append_left _ (List.mem_append_left _ (List.mem_append_left _ (List.mem_append_left _ (List.mem_append_right _ h9)))))) hown hK hP 0 rfl rfl 13 (by decide) (hts (.fieldLink RX3 62 "PalletStack" "lineCount" "I") (List.mem_of_getElem? (i := 7) (by rfl))) (fun _ h9 => h9) rfl dX3_addLine_61 ?_
  refine lv_topi (fun v_36 ev_36 => ?_)
  obtain rfl : v_36 = (nI (ql B)) := ev_36.trans (by rw [o5])
  refine lv_istore (lv' := [(4, .int (nI (ql B))), (3, .ref (qA B 3 k)), (0, .ref (qA B 5 0)), (1, .int (nI k)), (2, .int (nI x))]) hx hb dX3_addLine_64 hl (by decide) rfl (fun ls hl => ?_)
  refine lv_aload_n hx hb dX3_addLine_66 rfl (lv_at hl 2 rfl) ?_
  refine va_get (D := D) (ci := 3) (v := .ref (qA B 5 4)) (C := RX3) (T := TX3) (N := 14) hx hb hts (fun _ h9 => List.mem_cons_of_mem _ (List.mem_append_left _ (List.mem_append_left _ (List.mem_append_left _ (List.mem_append_left _ (List.mem_append_right _ h9)))))) hown hK hP 0 rfl rfl 12 (by decide) (hts (.fieldLink RX3 58 "PalletStack" "lines" "[LPalletStack$Line;") (List.mem_of_getElem? (i := 8) (by rfl))) (fun _ h9 => h9) rfl dX3_addLine_67 ?_
  refine lv_iload hx hb dX3_addLine_70 (lv_at hl 0 rfl) ?_
  refine va_new (D := D) (ci := 2) (fs := [.null, .int 0, .int 0]) (C := RX2) (T := TX2) (N := 3) hx hb hts (fun _ h9 => List.mem_cons_of_mem _ (List.mem_append_left _ (List.mem_append_left _ (List.mem_append_left _ (List.mem_append_right _ h9))))) tyX2 tyX2_ok hown (hts (.classLink RX3 56 RX2) (List.mem_of_getElem? (i := 9) (by rfl))) (hts (.instantiable RX2 3) (List.mem_of_getElem? (i := 10) (by rfl))) (hts (.initialized RX2) (List.mem_of_getElem? (i := 11) (by rfl))) hK hP hD hS hA rfl (fun j hj => by rcases (show j = 0 ∨ j = 1 ∨ j = 2 by omega) with rfl | rfl | rfl <;> rfl) (by omega) (by omega) dX3_addLine_72 (fun q_37 H hP hD hS => ?_)
  refine lv_dup hx hb dX3_addLine_75 rfl ?_
  refine lv_aload_n hx hb dX3_addLine_76 rfl (lv_at hl 1 rfl) ?_
  refine lv_iload_n hx hb dX3_addLine_77 rfl (lv_at hl 4 rfl) ?_
  refine zcallvI (As := [.ref (qA B 3 k), .int (nI x)]) (rest := [.ref q_37, .int (nI (ql B)), .ref (qA B 5 4)]) (wc := [(q_37, .inr (2, [.null, .int 0, .int 0]))]) (wr := qG B R N) ⟨hx, hb, hml, hown, hts⟩ (c_Line_init l D _ q_37 (qA B 3 k) x) (⟨callB_of 2 hts gX3_addLine_X2_init rfl rfl rfl (hts (.initialized RX2) (List.mem_of_getElem? (i := 11) (by rfl))) (hts (.methodLink RX3 149 yX2_init) (List.mem_of_getElem? (i := 22) (by rfl))) (by decide +kernel) ⟨by rw [hRf]; exact Nat.le_of_ble_eq_true rfl, by rw [hRl]; exact Nat.le_of_ble_eq_true rfl⟩, rfl, (hts (.instanceMethod yX2_init) (List.mem_of_getElem? (i := 23) (by rfl)))⟩) hK hP hD hS hA (qCi (qG B R N) [(q_37, .inr (2, [.null, .int 0, .int 0]))]) (qRi (qG B R N)) (qCi_C _ _) (qCi_nd _ _) (qRi_R _ _) (qRi_nd _) (qRi_dis _ _) [] rfl rfl hl.1 rfl (Nat.le_of_ble_eq_true rfl) dX3_addLine_78 ⟨by omega, by omega⟩ (fun u_38 H locs hwu_38 hnu_38 hzu_38 hK9 hP hD hS => ?_)
  refine va_astq hx hb hK hP hD hS 4 3 (qG B R N).length 2 rfl rfl qgx rfl (vp_in_nI (n := ql B) (N := 20) hl9 (by decide)) dX3_addLine_81 (fun H locs hP hD hS => ?_)
  rw [nI_clamp (by omega)] at hP hD
  refine lv_aload_n hx hb dX3_addLine_82 rfl (lv_at hl 2 rfl) ?_
  refine lv_iload hx hb dX3_addLine_83 (lv_at hl 0 rfl) ?_
  refine lv_iconst (v := 1) hx hb dX3_addLine_85 (by decide) ?_
  refine lv_iadd hx hb dX3_addLine_86 ?_
  refine lv_topi (fun v_39 ev_39 => ?_)
  obtain rfl : v_39 = (nI (ql B + 1)) := ev_39.trans (nI_add _ 1)
  refine va_put (D := D) (ci := 3) (v := .int (nI (ql B + 1))) (ty := .int) (C := RX3) (T := TX3) (N := 14) hx hb hts (fun _ h9 => List.mem_cons_of_mem _ (List.mem_append_left _ (List.mem_append_left _ (List.mem_append_left _ (List.mem_append_left _ (List.mem_append_right _ h9)))))) tyX3 tyX3_ok nmX3 hown hK hP hD hS 0 rfl rfl 13 (by decide) (hts (.fieldLink RX3 62 "PalletStack" "lineCount" "I") (List.mem_of_getElem? (i := 7) (by rfl))) (fun _ h9 => h9) rfl (by decide +kernel) rfl rfl (Nat.le_of_ble_eq_true rfl) dX3_addLine_87 (fun H locs hP hD hS => ?_)
  have hP : va_P D vwCl (qG (qBl B q_37) R (qNl N (ql B) k x)) H := by rw [← qG_line hk]; exact hP
  have hD : va_D A (qG (qBl B q_37) R (qNl N (ql B) k x)) := by rw [← qG_line hk]; exact hD
  refine W.widen (k := 1) (n := 3) (by omega) (by omega) ?_
  refine lv_iload hx hb dX3_addLine_90 (lv_at hl 0 rfl) ?_
  exact W.iret (v := (nI (ql B))) hx hb hr (fun t ht hW => ⟨⟨(nI (ql B)), q_37, rfl, rfl, ⟨Nat.zero_le _, by rw [ht]; exact hP, va_K.moved hW.alike (hK.sub (tys' := []) [] rfl), hD⟩⟩, hS.F ht⟩) hS.2.2 dX3_addLine_92
set_option maxHeartbeats 4000000 in
set_option maxRecDepth 100000 in
theorem c_setRules (l : Launch) (D : zG) (sz : Nat) (B : qB) (R : qR0) (N : qN0) (a1 a2 a3 t0 : Nat) (h1 : 0 < a1 ∧ a1 ≤ 40) (h2 : a2 ≤ 100) (h3 : 0 < a3 ∧ a3 ≤ 20000) (ht0 : t0 < 2) : Met l yX3_setRules wsX3_setRules ({ frames := 1, cells := 0, slots := 0, locals := 25 }) (zPc D (qT B) (qG B R N) sz [.ref (qA B 5 0), .int (nI a1), .int (nI a2), .int (nI a3), .int (nI t0)]) (va_Qi (fun (r : Int32) (u : qN0) => r = nI (N 4 1 1) ∧ u = qp (qp (qp (qp N 4 1 1 a1) 4 1 2 a2) 4 1 3 a3) 4 1 4 t0) (zB D (va_A (qG B R N) sz) (fun _ => []) 0 (fun u => qG B R u)) (va_A (qG B R N) sz)) 0 0 (va_A (qG B R N) sz) := by
  refine Met.ofW (cc := cX3_setRules) (maxL := 6) (ret := (some .int)) (by decide) rfl ?_
  intro p e s m args below meth c s₁ B9 hml hv
  obtain ⟨rfl, hsz, hP, hK, hD0⟩ := hv
  have hx := B9.exec
  have hb := B9.bytes
  have hr := B9.returns
  have hts := atoms_spec (ws := wsX3_setRules) B9.pre
  have hown : s.vm.findClass RX3 = some m.cls := findClass_of_methodNamed B9.named
  have hlocks := B9.notSynchronized
  subst hsz
  have hD := hD0.self (sz := s.heap.size)
  generalize hAe : va_A (qG B R N) s.heap.size = A at hD ⊢
  have hA : ∀ q : Nat, s.heap.size ≤ q → A q := fun q h => by rw [← hAe]; exact Or.inr h
  have hS : va_S A s.heap s.heap [] := va_S.rf
  have hl := lv_entry ([.ref (qA B 5 0), .int (nI a1), .int (nI a2), .int (nI a3), .int (nI t0)]) (n := 6) (Nat.le_of_ble_eq_true rfl)
  rw [lg_entry_eq]
  generalize (lg_sl ([.ref (qA B 5 0), .int (nI a1), .int (nI a2), .int (nI a3), .int (nI t0)]) ++ List.replicate (6 - (lg_sl ([.ref (qA B 5 0), .int (nI a1), .int (nI a2), .int (nI a3), .int (nI t0)])).length) Slot.unset).toArray = ls at hl ⊢
  have hl : lv_has ls 6 [(0, .ref (qA B 5 0)), (1, .int (nI a1)), (2, .int (nI a2)), (3, .int (nI a3)), (4, .int (nI t0))] := hl
  have hP : va_P D vwCl (qG B R N) s.heap := hP
  generalize hRe : (headSpec _ _).room = R9
  have hRf : R9.frames = 1 := by rw [← hRe]; rfl
  have hRc : R9.cells = 0 := by rw [← hRe]; rfl
  have hRs : R9.slots = 0 := by rw [← hRe]; rfl
  have hRl : R9.locals = 25 := by rw [← hRe]; rfl
  clear hRe
  refine lv_iload_n hx hb dX3_setRules_0 rfl (lv_at hl 1 rfl) ?_
  refine lv_iconst (v := 1) hx hb dX3_setRules_1 (by decide) ?_
  refine lv_bipush (v := 40) hx hb dX3_setRules_2 (by decide) ?_
  refine zrdS (As := [.int (nI a1), .int 1, .int 40]) (rest := []) (wc := []) ⟨hx, hb, hml, hown, hts⟩ (c_isWithin l D _ (nI a1) 1 40) (va_cwS 3 hts gX3_setRules_X3_isWithin rfl rfl rfl (by decide +kernel) ⟨by rw [hRf]; exact Nat.le_of_ble_eq_true rfl, by rw [hRl]; exact Nat.le_of_ble_eq_true rfl⟩) hK hP hD [] rfl (by decide) [] rfl rfl hl.1 rfl (Nat.le_of_ble_eq_true rfl) dX3_setRules_4 ⟨by omega, by omega⟩ (fun r_40 hr_40 => ?_)
  refine lv_topi (fun v_41 ev_41 => ?_)
  obtain rfl : v_41 = 1 := ev_41.trans (hr_40.trans (if_pos ⟨nI_le (a := 1) (by omega) (by omega), nI_le (b := 40) (by omega) (by decide)⟩))
  refine lv_if_eq (tgt := 31) hx hb dX3_setRules_7 (by decide) (fun c_42 => absurd c_42 (by decide)) (fun c_42 => ?_)
  refine lv_iload_n hx hb dX3_setRules_10 rfl (lv_at hl 2 rfl) ?_
  refine lv_iconst (v := 0) hx hb dX3_setRules_11 (by decide) ?_
  refine lv_bipush (v := 100) hx hb dX3_setRules_12 (by decide) ?_
  refine zrdS (As := [.int (nI a2), .int 0, .int 100]) (rest := []) (wc := []) ⟨hx, hb, hml, hown, hts⟩ (c_isWithin l D _ (nI a2) 0 100) (va_cwS 3 hts gX3_setRules_X3_isWithin rfl rfl rfl (by decide +kernel) ⟨by rw [hRf]; exact Nat.le_of_ble_eq_true rfl, by rw [hRl]; exact Nat.le_of_ble_eq_true rfl⟩) hK hP hD [] rfl (by decide) [] rfl rfl hl.1 rfl (Nat.le_of_ble_eq_true rfl) dX3_setRules_14 ⟨by omega, by omega⟩ (fun r_43 hr_43 => ?_)
  refine lv_topi (fun v_44 ev_44 => ?_)
  obtain rfl : v_44 = 1 := ev_44.trans (hr_43.trans (if_pos ⟨nI_pos' (by omega), nI_le (b := 100) (by omega) (by decide)⟩))
  refine lv_if_eq (tgt := 31) hx hb dX3_setRules_17 (by decide) (fun c_45 => absurd c_45 (by decide)) (fun c_45 => ?_)
  refine lv_iload_n hx hb dX3_setRules_20 rfl (lv_at hl 3 rfl) ?_
  refine lv_iconst (v := 1) hx hb dX3_setRules_21 (by decide) ?_
  refine lv_sipush (v := 20000) hx hb dX3_setRules_22 (by decide) ?_
  refine zrdS (As := [.int (nI a3), .int 1, .int 20000]) (rest := []) (wc := []) ⟨hx, hb, hml, hown, hts⟩ (c_isWithin l D _ (nI a3) 1 20000) (va_cwS 3 hts gX3_setRules_X3_isWithin rfl rfl rfl (by decide +kernel) ⟨by rw [hRf]; exact Nat.le_of_ble_eq_true rfl, by rw [hRl]; exact Nat.le_of_ble_eq_true rfl⟩) hK hP hD [] rfl (by decide) [] rfl rfl hl.1 rfl (Nat.le_of_ble_eq_true rfl) dX3_setRules_25 ⟨by omega, by omega⟩ (fun r_46 hr_46 => ?_)
  refine lv_topi (fun v_47 ev_47 => ?_)
  obtain rfl : v_47 = 1 := ev_47.trans (hr_46.trans (if_pos ⟨nI_le (a := 1) (by omega) (by omega), nI_le (b := 20000) (by omega) (by decide)⟩))
  refine lv_if_ne (tgt := 39) hx hb dX3_setRules_28 (by decide) (fun c_48 => ?_) (fun c_48 => absurd c_48 (by decide))
  refine lv_aload_n hx hb dX3_setRules_39 rfl (lv_at hl 0 rfl) ?_
  refine va_get (D := D) (ci := 3) (v := .int (nI (N 4 1 1))) (C := RX3) (T := TX3) (N := 14) hx hb hts (fun _ h9 => List.mem_cons_of_mem _ (List.mem_append_left _ (List.mem_append_right _ h9))) hown hK hP 0 rfl rfl 2 (by decide) (hts (.fieldLink RX3 19 "PalletStack" "greatestHeight" "I") (List.mem_of_getElem? (i := 3) (by rfl))) (fun _ h9 => h9) rfl dX3_setRules_40 ?_
  refine lv_istore (lv' := [(5, .int (nI (N 4 1 1))), (0, .ref (qA B 5 0)), (1, .int (nI a1)), (2, .int (nI a2)), (3, .int (nI a3)), (4, .int (nI t0))]) hx hb dX3_setRules_43 hl (by decide) rfl (fun ls hl => ?_)
  refine lv_aload_n hx hb dX3_setRules_45 rfl (lv_at hl 1 rfl) ?_
  refine lv_iload_n hx hb dX3_setRules_46 rfl (lv_at hl 2 rfl) ?_
  refine va_put (D := D) (ci := 3) (v := .int (nI a1)) (ty := .int) (C := RX3) (T := TX3) (N := 14) hx hb hts (fun _ h9 => List.mem_cons_of_mem _ (List.mem_append_left _ (List.mem_append_right _ h9))) tyX3 tyX3_ok nmX3 hown hK hP hD hS 0 rfl rfl 2 (by decide) (hts (.fieldLink RX3 19 "PalletStack" "greatestHeight" "I") (List.mem_of_getElem? (i := 3) (by rfl))) (fun _ h9 => h9) rfl (by decide +kernel) rfl rfl (Nat.le_of_ble_eq_true rfl) dX3_setRules_47 (fun H locs hP hD hS => ?_)
  rw [qG_po (by decide) (j := 1) (by decide)] at hP hD
  obtain ⟨N_49, hN_49⟩ : ∃ z : qN0, z = qp N 4 1 1 a1 := ⟨_, rfl⟩
  rw [← hN_49] at hP hD
  have hP : va_P D vwCl (qG B R N_49) H := hP
  have hD : va_D A (qG B R N_49) := hD
  refine lv_aload_n hx hb dX3_setRules_50 rfl (lv_at hl 1 rfl) ?_
  refine lv_iload_n hx hb dX3_setRules_51 rfl (lv_at hl 3 rfl) ?_
  refine va_put (D := D) (ci := 3) (v := .int (nI a2)) (ty := .int) (C := RX3) (T := TX3) (N := 14) hx hb hts (fun _ h9 => List.mem_cons_of_mem _ (List.mem_append_left _ (List.mem_append_right _ h9))) tyX3 tyX3_ok nmX3 hown hK hP hD hS 0 rfl rfl 3 (by decide) (hts (.fieldLink RX3 22 "PalletStack" "support" "I") (List.mem_of_getElem? (i := 4) (by rfl))) (fun _ h9 => h9) rfl (by decide +kernel) rfl rfl (Nat.le_of_ble_eq_true rfl) dX3_setRules_52 (fun H locs hP hD hS => ?_)
  rw [qG_po (by decide) (j := 2) (by decide)] at hP hD
  obtain ⟨N_50, hN_50⟩ : ∃ z : qN0, z = qp N_49 4 1 2 a2 := ⟨_, rfl⟩
  rw [← hN_50] at hP hD
  have hP : va_P D vwCl (qG B R N_50) H := hP
  have hD : va_D A (qG B R N_50) := hD
  refine lv_aload_n hx hb dX3_setRules_55 rfl (lv_at hl 1 rfl) ?_
  refine lv_iload_n hx hb dX3_setRules_56 rfl (lv_at hl 4 rfl) ?_
  refine va_put (D := D) (ci := 3) (v := .int (nI a3)) (ty := .int) (C := RX3) (T := TX3) (N := 14) hx hb hts (fun _ h9 => List.mem_cons_of_mem _ (List.mem_append_left _ (List.mem_append_right _ h9))) tyX3 tyX3_ok nmX3 hown hK hP hD hS 0 rfl rfl 4 (by decide) (hts (.fieldLink RX3 25 "PalletStack" "limit" "I") (List.mem_of_getElem? (i := 5) (by rfl))) (fun _ h9 => h9) rfl (by decide +kernel) rfl rfl (Nat.le_of_ble_eq_true rfl) dX3_setRules_57 (fun H locs hP hD hS => ?_)
  rw [qG_po (by decide) (j := 3) (by decide)] at hP hD
  obtain ⟨N_51, hN_51⟩ : ∃ z : qN0, z = qp N_50 4 1 3 a3 := ⟨_, rfl⟩
  rw [← hN_51] at hP hD
  have hP : va_P D vwCl (qG B R N_51) H := hP
  have hD : va_D A (qG B R N_51) := hD
  refine lv_aload_n hx hb dX3_setRules_60 rfl (lv_at hl 1 rfl) ?_
  refine lv_iload hx hb dX3_setRules_61 (lv_at hl 5 rfl) ?_
  refine va_put (D := D) (ci := 3) (v := .int (nI t0)) (ty := .boolean) (C := RX3) (T := TX3) (N := 14) hx hb hts (fun _ h9 => List.mem_cons_of_mem _ (List.mem_append_left _ (List.mem_append_right _ h9))) tyX3 tyX3_ok nmX3 hown hK hP hD hS 0 rfl rfl 5 (by decide) (hts (.fieldLink RX3 28 "PalletStack" "hasCornerRule" "Z") (List.mem_of_getElem? (i := 6) (by rfl))) (fun _ h9 => h9) rfl (by decide +kernel) (qnar ht0) (qfit ht0) (Nat.le_of_ble_eq_true rfl) dX3_setRules_63 (fun H locs hP hD hS => ?_)
  rw [qG_po (by decide) (j := 4) (by decide)] at hP hD
  obtain ⟨N_52, hN_52⟩ : ∃ z : qN0, z = qp N_51 4 1 4 t0 := ⟨_, rfl⟩
  rw [← hN_52] at hP hD
  have hP : va_P D vwCl (qG B R N_52) H := hP
  have hD : va_D A (qG B R N_52) := hD
  refine lv_iload hx hb dX3_setRules_66 (lv_at hl 0 rfl) ?_
  exact W.iret (v := (nI (N 4 1 1))) hx hb hr (fun t ht hW => ⟨⟨(nI (N 4 1 1)), N_52, rfl, ⟨rfl, by rw [hN_52, hN_51, hN_50, hN_49]⟩, ⟨Nat.zero_le _, by rw [ht]; exact hP, va_K.moved hW.alike (hK.sub (tys' := []) [] rfl), hD⟩⟩, hS.F ht⟩) hS.2.2 dX3_setRules_68
