set_option maxHeartbeats 4000000 in
set_option maxRecDepth 100000 in
theorem c_putTrial (l : Launch) (D : zG) (sz : Nat) (B : qB) (R : qR0) (N : qN0) (S : Nat → Nat → Nat) (k0 : Nat) (hF : qFull B R N S) (hT : qTri B N S k0) (hn9 : N 4 1 5 < 60) : Met l yX3_putTrial wsX3_putTrial ({ frames := 3, cells := 0, slots := 0, locals := 100 }) (zPc D (qT B) (qG B R N) sz [.ref (qA B 5 0)]) (va_Qv (fun (u : qB × qR0 × qN0) => u.1 = qBs B (N 4 1 5) ∧ u.2.2 3 = N 3 ∧ qNx B R N u.1 u.2.1 u.2.2 ∧ qFull u.1 u.2.1 u.2.2 (qSx (qSt S N) (N 4 1 5))) (zB D (va_A (qG B R N) sz) (fun _ => []) 0 (fun u => qG u.1 u.2.1 u.2.2)) (va_A (qG B R N) sz)) 0 0 (va_A (qG B R N) sz) := by
  refine Met.ofW (cc := cX3_putTrial) (maxL := 4) (ret := none) (by decide) rfl ?_
  intro p e s m args below meth c s₁ B9 hml hv
  obtain ⟨rfl, hsz, hP, hK, hD0⟩ := hv
  have hx := B9.exec
  have hb := B9.bytes
  have hr := B9.returns
  have hts := atoms_spec (ws := wsX3_putTrial) B9.pre
  have hown : s.vm.findClass RX3 = some m.cls := findClass_of_methodNamed B9.named
  have hlocks := B9.notSynchronized
  subst hsz
  have hD := hD0.self (sz := s.heap.size)
  generalize hAe : va_A (qG B R N) s.heap.size = A at hD ⊢
  have hA : ∀ q : Nat, s.heap.size ≤ q → A q := fun q h => by rw [← hAe]; exact Or.inr h
  have hS : va_S A s.heap s.heap [] := va_S.rf
  have hl := lv_entry ([.ref (qA B 5 0)]) (n := 4) (Nat.le_of_ble_eq_true rfl)
  rw [lg_entry_eq]
  generalize (lg_sl ([.ref (qA B 5 0)]) ++ List.replicate (4 - (lg_sl ([.ref (qA B 5 0)])).length) Slot.unset).toArray = ls at hl ⊢
  have hl : lv_has ls 4 [(0, .ref (qA B 5 0))] := hl
  have hP : va_P D vwCl (qG B R N) s.heap := hP
  generalize hRe : (headSpec _ _).room = R9
  have hRf : R9.frames = 3 := by rw [← hRe]; rfl
  have hRc : R9.cells = 0 := by rw [← hRe]; rfl
  have hRs : R9.slots = 0 := by rw [← hRe]; rfl
  have hRl : R9.locals = 100 := by rw [← hRe]; rfl
  clear hRe
  obtain ⟨n, hn⟩ : ∃ n, n = N 4 1 5 := ⟨_, rfl⟩
  obtain ⟨hO, hM, hG, hSu, hKi, hRu, hLo, hIt, hWt⟩ := id hF
  have o1 := hO.1
  have hn6 : n < 60 := by omega
  have hTr := hT.2.1
  refine lv_aload_n hx hb dX3_putTrial_0 rfl (lv_at hl 0 rfl) ?_
  refine va_get (D := D) (ci := 3) (v := .int (nI (N 4 1 5))) (C := RX3) (T := TX3) (N := 14) hx hb hts (fun _ h9 => List.mem_cons_of_mem _ (List.mem_append_left _ (List.mem_append_right _ h9))) hown hK hP 0 rfl rfl 7 (by decide) (hts (.fieldLink RX3 38 "PalletStack" "cameCount" "I") (List.mem_of_getElem? (i := 1) (by rfl))) (fun _ h9 => h9) rfl dX3_putTrial_1 ?_
  refine lv_topi (fun v_1 ev_1 => ?_)
  obtain rfl : v_1 = (nI n) := ev_1.trans (by rw [hn])
  refine lv_istore_n (lv' := [(1, .int (nI n)), (0, .ref (qA B 5 0))]) hx hb dX3_putTrial_4 rfl hl (by decide) rfl (fun ls hl => ?_)
  refine lv_iload_n hx hb dX3_putTrial_5 rfl (lv_at hl 0 rfl) ?_
  refine lv_iconst (v := 0) hx hb dX3_putTrial_6 (by decide) ?_
  refine lv_bipush (v := 59) hx hb dX3_putTrial_7 (by decide) ?_
  refine zrdS (As := [.int (nI n), .int 0, .int 59]) (rest := []) (wc := []) ⟨hx, hb, hml, hown, hts⟩ (c_isWithin l D _ (nI n) 0 59) (va_cwS 3 hts gX3_putTrial_X3_isWithin rfl rfl rfl (by decide +kernel) ⟨by rw [hRf]; exact Nat.le_of_ble_eq_true rfl, by rw [hRl]; exact Nat.le_of_ble_eq_true rfl⟩) hK hP hD [] rfl (by decide) [] rfl rfl hl.1 rfl (Nat.le_of_ble_eq_true rfl) dX3_putTrial_9 ⟨by omega, by omega⟩ (fun r_2 hr_2 => ?_)
  refine lv_topi (fun v_3 ev_3 => ?_)
  obtain rfl : v_3 = 1 := ev_3.trans (hr_2.trans (if_pos ⟨nI_pos' (by omega), (nI_leI (b := 59) (by omega) (by decide)).mpr (by omega)⟩))
  refine lv_if_eq (tgt := 24) hx hb dX3_putTrial_12 (by decide) (fun c_4 => absurd c_4 (by decide)) (fun c_4 => ?_)
  refine lv_aload_n hx hb dX3_putTrial_15 rfl (lv_at hl 1 rfl) ?_
  refine va_get (D := D) (ci := 3) (v := .ref (qA B 5 2)) (C := RX3) (T := TX3) (N := 14) hx hb hts (fun _ h9 => List.mem_cons_of_mem _ (List.mem_append_left _ (List.mem_append_right _ h9))) hown hK hP 0 rfl rfl 6 (by decide) (hts (.fieldLink RX3 34 "PalletStack" "items" "[LPalletStack$Item;") (List.mem_of_getElem? (i := 2) (by rfl))) (fun _ h9 => h9) rfl dX3_putTrial_16 ?_
  refine lv_iload_n hx hb dX3_putTrial_19 rfl (lv_at hl 0 rfl) ?_
  refine va_aldq hx hb hK hP 2 1 rfl rfl (vp_in_nI (n := n) (N := 60) (by omega) (by decide)) dX3_putTrial_20 ?_
  refine W.eq (g2 := F0 m 21 ls [.ref (qA B 0 n)]) (by rw [nI_clamp (by omega), o1 n hn6]; rfl) ?_
  refine lv_goto (tgt := 25) hx hb dX3_putTrial_21 (by decide) ?_
  refine lv_astore_n (lv' := [(2, .ref (qA B 0 n)), (1, .int (nI n)), (0, .ref (qA B 5 0))]) hx hb dX3_putTrial_25 rfl hl (by decide) rfl (fun ls hl => ?_)
  refine lv_aload_n hx hb dX3_putTrial_26 rfl (lv_at hl 0 rfl) ?_
  refine lv_ifnonnull (tgt := 31) hx hb dX3_putTrial_27 (by decide) ?_
  refine lv_aload_n hx hb dX3_putTrial_31 rfl (lv_at hl 2 rfl) ?_
  refine qcallvV (As := []) (rest := []) (ws := qG B R N) ⟨hx, hb, hml, hown, hts⟩ (c_findS l D _ B R N hO hM (qtr_len hG hTr) (fun k _ => Nat.le_trans (qcm_le hTr k) (by decide))) (cwV 0 hts gX3_putTrial_X3_findSupports rfl rfl rfl (by decide +kernel) ⟨by rw [hRf]; exact Nat.le_of_ble_eq_true rfl, by rw [hRl]; exact Nat.le_of_ble_eq_true rfl⟩) hK hP hD hS hA [0, 1, 2, 3] rfl (ci := 3) (q0 := 0) rfl rfl rfl hl.1 rfl (Nat.le_of_ble_eq_true rfl) dX3_putTrial_32 ⟨by omega, by omega⟩ (fun u_7 H locs hwu_7 hP hD hS => ?_)
  obtain ⟨R1, N1⟩ := u_7
  obtain ⟨v1, v2, v3, v4, v5⟩ := hwu_7
  dsimp only at v1 v2 v3 v4 v5 hP hD
  have hP : va_P D vwCl (qG B R1 N1) H := hP
  have hD : va_D A (qG B R1 N1) := hD
  refine lv_aload_n hx hb dX3_putTrial_35 rfl (lv_at hl 2 rfl) ?_
  refine va_get (D := D) (ci := 3) (v := .ref (qA B 0 60)) (C := RX3) (T := TX3) (N := 14) hx hb hts (fun _ h9 => List.mem_cons_of_mem _ (List.mem_append_left _ (List.mem_append_right _ h9))) hown hK hP 0 rfl rfl 11 (by decide) (hts (.fieldLink RX3 52 "PalletStack" "trial" "LPalletStack$Item;") (List.mem_of_getElem? (i := 3) (by rfl))) (fun _ h9 => h9) rfl dX3_putTrial_36 ?_
  refine lv_astore_n (lv' := [(3, .ref (qA B 0 60)), (2, .ref (qA B 0 n)), (1, .int (nI n)), (0, .ref (qA B 5 0))]) hx hb dX3_putTrial_39 rfl hl (by decide) rfl (fun ls hl => ?_)
  refine lv_aload_n hx hb dX3_putTrial_40 rfl (lv_at hl 3 rfl) ?_
  refine lv_aload_n hx hb dX3_putTrial_41 rfl (lv_at hl 1 rfl) ?_
  refine va_put (D := D) (ci := 3) (v := .ref (qA B 0 n)) (ty := .object "PalletStack$Item") (C := RX3) (T := TX3) (N := 14) hx hb hts (fun _ h9 => List.mem_cons_of_mem _ (List.mem_append_left _ (List.mem_append_right _ h9))) tyX3 tyX3_ok nmX3 hown hK hP hD hS 0 rfl rfl 11 (by decide) (hts (.fieldLink RX3 52 "PalletStack" "trial" "LPalletStack$Item;") (List.mem_of_getElem? (i := 3) (by rfl))) (fun _ h9 => h9) rfl (by decide +kernel) rfl rfl (Nat.le_of_ble_eq_true rfl) dX3_putTrial_42 (fun H locs hP hD hS => ?_)
  have eW : (qG B R1 N1).set 0 (qA B 5 0, .inr (3, (qOb (qA B) (N1 4 1)).set 11 (.ref (qA B 0 n)))) = qHx B N1 (qA B 0 n) (qF B 1) ++ qTl B R1 N1 := by rw [qG_x]; exact qHx_1 _ _ _ _ _ _ rfl
  have hP : va_P D vwCl (qHx B N1 (qA B 0 n) (qF B 1) ++ qTl B R1 N1) H := by rw [← eW]; exact hP
  have hD : va_D A (qHx B N1 (qA B 0 n) (qF B 1) ++ qTl B R1 N1) := by rw [← eW]; exact hD
  refine lv_aload_n hx hb dX3_putTrial_45 rfl (lv_at hl 3 rfl) ?_
  refine va_get (D := D) (ci := 3) (v := .ref (qA B 5 2)) (C := RX3) (T := TX3) (N := 14) hx hb hts (fun _ h9 => List.mem_cons_of_mem _ (List.mem_append_left _ (List.mem_append_right _ h9))) hown hK hP 0 rfl rfl 6 (by decide) (hts (.fieldLink RX3 34 "PalletStack" "items" "[LPalletStack$Item;") (List.mem_of_getElem? (i := 2) (by rfl))) (fun _ h9 => h9) rfl dX3_putTrial_46 ?_
  refine lv_iload_n hx hb dX3_putTrial_49 rfl (lv_at hl 2 rfl) ?_
  refine lv_aload_n hx hb dX3_putTrial_50 rfl (lv_at hl 0 rfl) ?_
  refine va_astq hx hb hK hP hD hS 2 1 (5 + 60) 0 rfl rfl (qTl_i (X := qHx B N1 (qA B 0 n) (qF B 1)) (i := 60) rfl (by decide)) rfl (vp_in_nI (n := n) (N := 60) (by omega) (by decide)) dX3_putTrial_51 (fun H locs hP hD hS => ?_)
  rw [nI_clamp (by omega), qHx_2] at hP hD
  have hP := qP_swap hn6 hP
  have hD := qD_swap hn6 hD
  obtain ⟨B2, hB2⟩ : ∃ z : qB, z = qBs B n := ⟨_, rfl⟩
  obtain ⟨R2, hR2⟩ : ∃ z : qR0, z = qRs R1 n := ⟨_, rfl⟩
  obtain ⟨N2, hN2⟩ : ∃ z : qN0, z = qNs N1 n := ⟨_, rfl⟩
  rw [← hB2, ← hR2, ← hN2] at hP hD
  have hK : va_K D vwCl (qT B2) s := by rw [hB2]; exact hK
  have eA5 : qA B 5 0 = qA B2 5 0 := by rw [hB2]; exact (qBs_A3 _ _ _ _ (by decide)).symm
  have eA6 : qA B 0 60 = qA B2 0 n := by rw [hB2, qBs_A _ _ _ _ (by decide), qsw_n]
  have eA7 : qA B 0 n = qA B2 0 60 := by rw [hB2, qBs_A _ _ _ _ (by decide), qsw_60]
  rw [eA5, eA6, eA7] at hl
  have hP : va_P D vwCl (qG B2 R2 N2) H := hP
  have hD : va_D A (qG B2 R2 N2) := hD
  have hl : lv_has ls 4 [(3, .ref (qA B2 0 n)), (2, .ref (qA B2 0 60)), (1, .int (nI n)), (0, .ref (qA B2 5 0))] := hl
  refine lv_aload_n hx hb dX3_putTrial_52 rfl (lv_at hl 0 rfl) ?_
  refine lv_iconst (v := 1) hx hb dX3_putTrial_53 (by decide) ?_
  refine va_put (D := D) (ci := 0) (v := .int (nI 1)) (ty := .boolean) (C := RX0) (T := TX0) (N := 18) hx hb hts (fun _ h9 => List.mem_cons_of_mem _ (List.mem_append_right _ h9)) tyX0 tyX0_ok nmX0 hown hK hP hD hS (5 + n) (qG_i (by omega)) rfl 13 (by decide) (hts (.fieldLink RX3 104 "PalletStack$Item" "isOnPallet" "Z") (List.mem_of_getElem? (i := 4) (by rfl))) (fun _ h9 => h9) rfl (by decide +kernel) rfl rfl (Nat.le_of_ble_eq_true rfl) dX3_putTrial_54 (fun H locs hP hD hS => ?_)
  rw [qG_pi (by omega) (by decide)] at hP hD
  obtain ⟨N_8, hN_8⟩ : ∃ z : qN0, z = qp N2 0 n 13 1 := ⟨_, rfl⟩
  rw [← hN_8] at hP hD
  have hP : va_P D vwCl (qG B2 R2 N_8) H := hP
  have hD : va_D A (qG B2 R2 N_8) := hD
  refine lv_aload_n hx hb dX3_putTrial_57 rfl (lv_at hl 3 rfl) ?_
  refine lv_iload_n hx hb dX3_putTrial_58 rfl (lv_at hl 2 rfl) ?_
  refine lv_iconst (v := 1) hx hb dX3_putTrial_59 (by decide) ?_
  refine lv_iadd hx hb dX3_putTrial_60 ?_
  refine lv_topi (fun v_9 ev_9 => ?_)
  obtain rfl : v_9 = (nI (n + 1)) := ev_9.trans (nI_add _ 1)
  refine va_put (D := D) (ci := 3) (v := .int (nI (n + 1))) (ty := .int) (C := RX3) (T := TX3) (N := 14) hx hb hts (fun _ h9 => List.mem_cons_of_mem _ (List.mem_append_left _ (List.mem_append_right _ h9))) tyX3 tyX3_ok nmX3 hown hK hP hD hS 0 rfl rfl 7 (by decide) (hts (.fieldLink RX3 38 "PalletStack" "cameCount" "I") (List.mem_of_getElem? (i := 1) (by rfl))) (fun _ h9 => h9) rfl (by decide +kernel) rfl rfl (Nat.le_of_ble_eq_true rfl) dX3_putTrial_61 (fun H locs hP hD hS => ?_)
  rw [qG_po (by decide) (j := 5) (by decide)] at hP hD
  obtain ⟨N_10, hN_10⟩ : ∃ z : qN0, z = qp N_8 4 1 5 (n + 1) := ⟨_, rfl⟩
  rw [← hN_10] at hP hD
  have hP : va_P D vwCl (qG B2 R2 N_10) H := hP
  have hD : va_D A (qG B2 R2 N_10) := hD
  refine lv_aload_n hx hb dX3_putTrial_64 rfl (lv_at hl 3 rfl) ?_
  refine lv_dup hx hb dX3_putTrial_65 rfl ?_
  refine va_get (D := D) (ci := 3) (v := .int (nI (N_10 4 1 6))) (C := RX3) (T := TX3) (N := 14) hx hb hts (fun _ h9 => List.mem_cons_of_mem _ (List.mem_append_left _ (List.mem_append_right _ h9))) hown hK hP 0 rfl rfl 8 (by decide) (hts (.fieldLink RX3 41 "PalletStack" "onPalletCount" "I") (List.mem_of_getElem? (i := 5) (by rfl))) (fun _ h9 => h9) rfl dX3_putTrial_66 ?_
  refine lv_topi (fun v_11 ev_11 => ?_)
  obtain rfl : v_11 = (nI (N2 4 1 6)) := ev_11.trans (congrArg nI (by simp [hN_8, hN_10, qp]))
  refine lv_iconst (v := 1) hx hb dX3_putTrial_69 (by decide) ?_
  refine lv_iadd hx hb dX3_putTrial_70 ?_
  refine lv_topi (fun v_12 ev_12 => ?_)
  obtain rfl : v_12 = (nI (N2 4 1 6 + 1)) := ev_12.trans (nI_add _ 1)
  refine va_put (D := D) (ci := 3) (v := .int (nI (N2 4 1 6 + 1))) (ty := .int) (C := RX3) (T := TX3) (N := 14) hx hb hts (fun _ h9 => List.mem_cons_of_mem _ (List.mem_append_left _ (List.mem_append_right _ h9))) tyX3 tyX3_ok nmX3 hown hK hP hD hS 0 rfl rfl 8 (by decide) (hts (.fieldLink RX3 41 "PalletStack" "onPalletCount" "I") (List.mem_of_getElem? (i := 5) (by rfl))) (fun _ h9 => h9) rfl (by decide +kernel) rfl rfl (Nat.le_of_ble_eq_true rfl) dX3_putTrial_71 (fun H locs hP hD hS => ?_)
  rw [qG_po (by decide) (j := 6) (by decide)] at hP hD
  obtain ⟨N_13, hN_13⟩ : ∃ z : qN0, z = qp N_10 4 1 6 (N2 4 1 6 + 1) := ⟨_, rfl⟩
  rw [← hN_13] at hP hD
  have hP : va_P D vwCl (qG B2 R2 N_13) H := hP
  have hD : va_D A (qG B2 R2 N_13) := hD
  refine lv_aload_n hx hb dX3_putTrial_74 rfl (lv_at hl 3 rfl) ?_
  refine lv_dup hx hb dX3_putTrial_75 rfl ?_
  refine va_get (D := D) (ci := 3) (v := .int (nI (N_13 4 1 7))) (C := RX3) (T := TX3) (N := 14) hx hb hts (fun _ h9 => List.mem_cons_of_mem _ (List.mem_append_left _ (List.mem_append_right _ h9))) hown hK hP 0 rfl rfl 9 (by decide) (hts (.fieldLink RX3 44 "PalletStack" "weightOnPallet" "I") (List.mem_of_getElem? (i := 6) (by rfl))) (fun _ h9 => h9) rfl dX3_putTrial_76 ?_
  refine lv_topi (fun v_14 ev_14 => ?_)
  obtain rfl : v_14 = (nI (N2 4 1 7)) := ev_14.trans (congrArg nI (by simp [hN_8, hN_10, hN_13, qp]))
  refine lv_aload_n hx hb dX3_putTrial_79 rfl (lv_at hl 0 rfl) ?_
  refine va_get (D := D) (ci := 0) (v := .int (nI (N_13 0 n 1))) (C := RX0) (T := TX0) (N := 18) hx hb hts (fun _ h9 => List.mem_cons_of_mem _ (List.mem_append_right _ h9)) hown hK hP (5 + n) (qG_i (by omega)) rfl 1 (by decide) (hts (.fieldLink RX3 107 "PalletStack$Item" "weight" "I") (List.mem_of_getElem? (i := 7) (by rfl))) (fun _ h9 => h9) rfl dX3_putTrial_80 ?_
  refine lv_topi (fun v_15 ev_15 => ?_)
  obtain rfl : v_15 = (nI (N2 0 n 1)) := ev_15.trans (congrArg nI (by simp [hN_8, hN_10, hN_13, qp]))
  refine lv_iadd hx hb dX3_putTrial_83 ?_
  refine lv_topi (fun v_16 ev_16 => ?_)
  obtain rfl : v_16 = (nI (N2 4 1 7 + N2 0 n 1)) := ev_16.trans (nI_add _ _)
  refine va_put (D := D) (ci := 3) (v := .int (nI (N2 4 1 7 + N2 0 n 1))) (ty := .int) (C := RX3) (T := TX3) (N := 14) hx hb hts (fun _ h9 => List.mem_cons_of_mem _ (List.mem_append_left _ (List.mem_append_right _ h9))) tyX3 tyX3_ok nmX3 hown hK hP hD hS 0 rfl rfl 9 (by decide) (hts (.fieldLink RX3 44 "PalletStack" "weightOnPallet" "I") (List.mem_of_getElem? (i := 6) (by rfl))) (fun _ h9 => h9) rfl (by decide +kernel) rfl rfl (Nat.le_of_ble_eq_true rfl) dX3_putTrial_84 (fun H locs hP hD hS => ?_)
  rw [qG_po (by decide) (j := 7) (by decide)] at hP hD
  obtain ⟨N_17, hN_17⟩ : ∃ z : qN0, z = qp N_13 4 1 7 (N2 4 1 7 + N2 0 n 1) := ⟨_, rfl⟩
  rw [← hN_17] at hP hD
  have hP : va_P D vwCl (qG B2 R2 N_17) H := hP
  have hD : va_D A (qG B2 R2 N_17) := hD
  obtain ⟨N3, hN3⟩ : ∃ z : qN0, z = N_17 := ⟨_, rfl⟩
  rw [← hN3] at hP hD
  have hP : va_P D vwCl (qG B2 R2 N3) H := hP
  have hD : va_D A (qG B2 R2 N3) := hD
  have g : ∀ c i j, ¬ (c = 0 ∧ i = n ∧ j = 13) → ¬ (c = 4 ∧ i = 1 ∧ (j = 5 ∨ j = 6 ∨ j = 7)) → N3 c i j = N2 c i j := fun c i j h1 h2 => by rw [hN3, hN_17, hN_13, hN_10, hN_8]; unfold qp; rw [if_neg (by omega), if_neg (by omega), if_neg (by omega), if_neg h1]
  have g13 : N3 0 n 13 = 1 := by rw [hN3, hN_17, hN_13, hN_10, hN_8, qp_c _ _ _ _ _ _ (by decide), qp_c _ _ _ _ _ _ (by decide), qp_c _ _ _ _ _ _ (by decide), qp_eq]
  have g5 : N3 4 1 5 = n + 1 := by rw [hN3, hN_17, hN_13, hN_10, hN_8, qp_j _ _ _ _ _ _ (by decide), qp_j _ _ _ _ _ _ (by decide), qp_eq]
  have c6 : N2 4 1 6 = N 4 1 6 := by rw [hN2, qNs_2 _ _ _ _ (by decide), v4 _ _ _ (by omega) (by omega)]
  have c7 : N2 4 1 7 = N 4 1 7 := by rw [hN2, qNs_2 _ _ _ _ (by decide), v4 _ _ _ (by omega) (by omega)]
  have c1 : N2 0 n 1 = N 0 60 1 := by rw [hN2, qNs_1 _ _ _ _ (by decide), qsw_n, v4 _ _ _ (by omega) (by omega)]
  have g6 : N3 4 1 6 = N 4 1 6 + 1 := by rw [hN3, hN_17, hN_13, hN_10, hN_8, qp_j _ _ _ _ _ _ (by decide), qp_eq, c6]
  have g7 : N3 4 1 7 = N 4 1 7 + N 0 60 1 := by rw [hN3, hN_17, hN_13, hN_10, hN_8, qp_eq, c7, c1]
  have w3 := hT.2.2.2.2.2.2.2.2.2.2.2.2.2.2
  have w6 := hWt.1
  have b3 := hRu.2.2.1
  have hM2 : qM N2 := fun c i j => by
    rw [hN2]; unfold qNs
    have hM1 : qM N1 := fun c i j => by
      by_cases h1 : c = 0 ∧ i = 60 ∧ j = 15
      · obtain ⟨rfl, rfl, rfl⟩ := h1; rw [v1]; exact Nat.le_trans (qtr_len hG hTr) (by decide)
      · by_cases h2 : c = 1 ∧ i = 60
        · obtain ⟨rfl, rfl⟩ := h2; exact v5 j
        · rw [v4 _ _ _ h1 h2]; exact hM c i j
    split
    · exact hM1 _ _ _
    · exact hM1 _ _ _
  have hM3 : qM N3 := fun c i j => by
    by_cases h1 : c = 0 ∧ i = n ∧ j = 13
    · obtain ⟨rfl, rfl, rfl⟩ := h1; rw [g13]; decide
    · by_cases h2 : c = 4 ∧ i = 1 ∧ (j = 5 ∨ j = 6 ∨ j = 7)
      · obtain ⟨rfl, rfl, rfl | rfl | rfl⟩ := h2
        · omega
        · omega
        · omega
      · rw [g _ _ _ h1 h2]; exact hM2 c i j
  have i6 : ∀ j, j ≠ 13 → j ≠ 15 → N3 0 n j = N 0 60 j := fun j h1 h2 => by rw [g _ _ _ (by omega) (by omega), hN2, qNs_1 _ _ _ _ (by decide), qsw_n, v4 _ _ _ (by omega) (by omega)]
  refine lv_aload_n hx hb dX3_putTrial_87 rfl (lv_at hl 3 rfl) ?_
  refine lv_aload_n hx hb dX3_putTrial_88 rfl (lv_at hl 0 rfl) ?_
  refine qcallvV (As := [.ref (qA B2 0 n)]) (rest := []) (ws := qG B2 R2 N3) ⟨hx, hb, hml, hown, hts⟩ (c_layTop l D _ B2 R2 N3 hM3 n (by omega) (by rw [i6 6 (by decide) (by decide), i6 4 (by decide) (by decide)]; exact hTr.2.2.1) (by rw [i6 7 (by decide) (by decide), i6 5 (by decide) (by decide)]; exact hTr.2.2.2.1)) (cwV 1 hts gX3_putTrial_X3_layTop rfl rfl rfl (by decide +kernel) ⟨by rw [hRf]; exact Nat.le_of_ble_eq_true rfl, by rw [hRl]; exact Nat.le_of_ble_eq_true rfl⟩) hK hP hD hS hA [0, 1, 2, 3] rfl (ci := 3) (q0 := 0) rfl rfl rfl hl.1 rfl (Nat.le_of_ble_eq_true rfl) dX3_putTrial_89 ⟨by omega, by omega⟩ (fun u_19 H locs hwu_19 hP hD hS => ?_)
  obtain ⟨N4, hN4⟩ : ∃ z, z = u_19 := ⟨_, rfl⟩
  rw [← hN4] at hP hD hwu_19
  have hP : va_P D vwCl (qG B2 R2 N4) H := hP
  have hD : va_D A (qG B2 R2 N4) := hD
  obtain ⟨x1, x2⟩ := qNx_of (B := B) hn hn6 v1 v2 v3 v4 (fun c i j h1 h2 => by rw [g _ _ _ h1 h2, hN2]) g13 g5 g6 g7 hwu_19
  have hM4 : qM N4 := fun c i j => by
    rw [hwu_19]; unfold qlP
    split
    · exact Nat.max_le.mpr ⟨hM3 _ _ _, hM3 _ _ _⟩
    · exact hM3 _ _ _
  have h13 : ∀ i, i < N 4 1 5 + 1 → N4 0 i 13 = 1 := fun i hi => by
    by_cases h9 : i = N 4 1 5
    · subst h9; exact x1.2.2.1
    · rw [x1.1 i (by omega) 13 (by decide) (by decide)]; exact hO.2.2.2.2.2.2.2.2 i (by omega)
  subst hn
  subst hB2
  subst hR2
  obtain ⟨p1, p2, p3⟩ := qNx_pre hn9 hF hT x1 h13
  have hP : va_P D vwCl (qG (qBs B (N 4 1 5)) (qRs R1 (N 4 1 5)) N4) H := hP
  have hD : va_D A (qG (qBs B (N 4 1 5)) (qRs R1 (N 4 1 5)) N4) := hD
  have hl : lv_has ls 4 [(3, .ref (qA (qBs B (N 4 1 5)) 0 (N 4 1 5))), (2, .ref (qA (qBs B (N 4 1 5)) 0 60)), (1, .int (nI (N 4 1 5))), (0, .ref (qA (qBs B (N 4 1 5)) 5 0))] := hl
  refine lv_aload_n hx hb dX3_putTrial_92 rfl (lv_at hl 3 rfl) ?_
  refine qcallvV (As := []) (rest := []) (ws := qG (qBs B (N 4 1 5)) (qRs R1 (N 4 1 5)) N4) ⟨hx, hb, hml, hown, hts⟩ (c_settle l D _ (qBs B (N 4 1 5)) (qRs R1 (N 4 1 5)) N4 p1 hM4 (qSx (qSt S N) (N 4 1 5)) p2 p3) (cwV 0 hts gX3_putTrial_X3_settleLoads rfl rfl rfl (by decide +kernel) ⟨by rw [hRf]; exact Nat.le_of_ble_eq_true rfl, by rw [hRl]; exact Nat.le_of_ble_eq_true rfl⟩) hK hP hD hS hA [0, 1, 2, 3] rfl (ci := 3) (q0 := 0) rfl rfl rfl hl.1 rfl (Nat.le_of_ble_eq_true rfl) dX3_putTrial_93 ⟨by omega, by omega⟩ (fun u_21 H locs hwu_21 hP hD hS => ?_)
  have hP : va_P D vwCl (qG (qBs B (N 4 1 5)) (qRs R1 (N 4 1 5)) u_21) H := hP
  have hD : va_D A (qG (qBs B (N 4 1 5)) (qRs R1 (N 4 1 5)) u_21) := hD
  exact W.vret hx hb hr (fun t ht hW => ⟨⟨((qBs B (N 4 1 5)), (qRs R1 (N 4 1 5)), u_21), rfl, (by obtain ⟨y1, y2, y3⟩ := qNx_end hn9 hF hT x1 x2 h13 hM4 hwu_21.1 hwu_21.2; exact ⟨rfl, y1, y2, y3⟩), ⟨Nat.zero_le _, by rw [ht]; exact hP, va_K.moved hW.alike (hK.sub (tys' := []) [] rfl), hD⟩⟩, hS.F ht⟩) hS.2.2 dX3_putTrial_96
