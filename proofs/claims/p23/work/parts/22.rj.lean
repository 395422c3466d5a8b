set_option maxHeartbeats 4000000 in
set_option maxRecDepth 100000 in
theorem c_putBest (l : Launch) (D : zG) (sz : Nat) (B : qB) (R : qR0) (N : qN0) (S : Nat → Nat → Nat) (hF : qFull B R N S) (k : Nat) (hk : k < qk B) : Met l yX3_putAtBest wsX3_putAtBest ({ frames := 5, cells := 0, slots := 0, locals := 170 }) (zPc D (qT B) (qG B R N) sz [.ref (qA B 5 0), .ref (qA B 3 k)]) (va_Qi (fun (r : Int32) (u : qB × qR0 × qN0) => qSam B N u.1 u.2.2 ∧ u.2.2 3 = N 3 ∧ (∃ S', qFull u.1 u.2.1 u.2.2 S') ∧ ((r = 0 ∧ u.2.2 4 1 5 = N 4 1 5) ∨ (r = 1 ∧ u.2.2 4 1 5 = N 4 1 5 + 1))) (zB D (va_A (qG B R N) sz) (fun _ => []) 0 (fun u => qG u.1 u.2.1 u.2.2)) (va_A (qG B R N) sz)) 0 0 (va_A (qG B R N) sz) := by
  refine Met.ofW (cc := cX3_putAtBest) (maxL := 3) (ret := (some .boolean)) (by decide) rfl ?_
  intro p e s m args below meth c s₁ B9 hml hv
  obtain ⟨rfl, hsz, hP, hK, hD0⟩ := hv
  have hx := B9.exec
  have hb := B9.bytes
  have hr := B9.returns
  have hts := atoms_spec (ws := wsX3_putAtBest) B9.pre
  have hown : s.vm.findClass RX3 = some m.cls := findClass_of_methodNamed B9.named
  have hlocks := B9.notSynchronized
  subst hsz
  have hD := hD0.self (sz := s.heap.size)
  generalize hAe : va_A (qG B R N) s.heap.size = A at hD ⊢
  have hA : ∀ q : Nat, s.heap.size ≤ q → A q := fun q h => by rw [← hAe]; exact Or.inr h
  have hS : va_S A s.heap s.heap [] := va_S.rf
  have hl := lv_entry ([.ref (qA B 5 0), .ref (qA B 3 k)]) (n := 3) (Nat.le_of_ble_eq_true rfl)
  rw [lg_entry_eq]
  generalize (lg_sl ([.ref (qA B 5 0), .ref (qA B 3 k)]) ++ List.replicate (3 - (lg_sl ([.ref (qA B 5 0), .ref (qA B 3 k)])).length) Slot.unset).toArray = ls at hl ⊢
  have hl : lv_has ls 3 [(0, .ref (qA B 5 0)), (1, .ref (qA B 3 k))] := hl
  have hP : va_P D vwCl (qG B R N) s.heap := hP
  generalize hRe : (headSpec _ _).room = R9
  have hRf : R9.frames = 5 := by rw [← hRe]; rfl
  have hRc : R9.cells = 0 := by rw [← hRe]; rfl
  have hRs : R9.slots = 0 := by rw [← hRe]; rfl
  have hRl : R9.locals = 170 := by rw [← hRe]; rfl
  clear hRe
  obtain ⟨hO, hM, hG, hSu, hKi, hRu, hLo, hIt, hWt⟩ := id hF
  have o8 := hO.2.2.2.2.2.2.2.1
  refine lv_aload_n hx hb dX3_putAtBest_0 rfl (lv_at hl 0 rfl) ?_
  refine va_get (D := D) (ci := 3) (v := .int (nI (N 4 1 5))) (C := RX3) (T := TX3) (N := 14) hx hb hts (fun _ h9 => List.mem_cons_of_mem _ (List.mem_append_left _ (List.mem_append_left _ (List.mem_append_right _ h9)))) hown hK hP 0 rfl rfl 7 (by decide) (hts (.fieldLink RX3 38 "PalletStack" "cameCount" "I") (List.mem_of_getElem? (i := 1) (by rfl))) (fun _ h9 => h9) rfl dX3_putAtBest_1 ?_
  refine lv_bipush (v := 60) hx hb dX3_putAtBest_4 (by decide) ?_
  refine lv_icmp_lt (tgt := 11) hx hb dX3_putAtBest_6 (by decide) (fun c_1 => ?_) (fun c_1 => ?_)
  · have h_b := True.intro
    have k_2 : (N 4 1 5) < 60 := (nI_ltI (a := (N 4 1 5)) (b := 60) (by omega) (by omega)).mp c_1
    refine lv_aload_n hx hb dX3_putAtBest_11 rfl (lv_at hl 0 rfl) ?_
    refine lv_aload_n hx hb dX3_putAtBest_12 rfl (lv_at hl 1 rfl) ?_
    refine qcalliV (As := [.ref (qA B 3 k)]) (rest := []) (ws := qG B R N) ⟨hx, hb, hml, hown, hts⟩ (c_best l D _ B R N hO hM S hG hSu hKi hRu k hk) (cwV 1 hts gX3_putAtBest_X3_bestPlace rfl rfl rfl (by decide +kernel) ⟨by rw [hRf]; exact Nat.le_of_ble_eq_true rfl, by rw [hRl]; exact Nat.le_of_ble_eq_true rfl⟩) hK hP hD hS hA [0, 1, 2, 3] rfl (ci := 3) (q0 := 0) rfl rfl rfl hl.1 rfl (Nat.le_of_ble_eq_true rfl) dX3_putAtBest_13 ⟨by omega, by omega⟩ (fun r_3 u_4 H locs hwu_4 hP hD hS => ?_)
    obtain ⟨R1, N1⟩ := u_4
    obtain ⟨v0, v1, v2, v3⟩ := hwu_4
    dsimp only at v0 v1 v2 v3 hP hD
    have hP : va_P D vwCl (qG B R1 N1) H := hP
    have hD : va_D A (qG B R1 N1) := hD
    have hF1 := qFull_fr v2 v1 v3 hF
    refine lv_istore_n (lv' := [(2, .int r_3), (0, .ref (qA B 5 0)), (1, .ref (qA B 3 k))]) hx hb dX3_putAtBest_16 rfl hl (by decide) rfl (fun ls hl => ?_)
    rcases v0 with h0 | ⟨q, h0, hPl⟩
    · have h_b := True.intro
      subst h0
      refine lv_iload_n hx hb dX3_putAtBest_17 rfl (lv_at hl 0 rfl) ?_
      refine lv_iconst (v := (-1)) hx hb dX3_putAtBest_18 (by decide) ?_
      refine lv_icmp_ne (tgt := 24) hx hb dX3_putAtBest_19 (by decide) (fun c_5 => absurd (rfl) c_5) (fun c_5 => ?_)
      refine lv_iconst (v := 0) hx hb dX3_putAtBest_22 (by decide) ?_
      exact W.zret (ty := .boolean) (v := 0) hx hb hr rfl (fun t ht hW => ⟨⟨0, (B, R1, N1), rfl, ⟨qSam_fr v2, (by funext l9 j9; exact v2 _ _ _ (by omega) (by omega) (by omega)), ⟨S, hF1⟩, Or.inl ⟨rfl, v2 _ _ _ (by omega) (by omega) (by omega)⟩⟩, ⟨Nat.zero_le _, by rw [ht]; exact hP, va_K.moved hW.alike (hK.sub (tys' := []) [] rfl), hD⟩⟩, hS.F ht⟩) hS.2.2 dX3_putAtBest_23
    · have h_b := True.intro
      subst h0
      have hq := hPl.1
      refine lv_iload_n hx hb dX3_putAtBest_17 rfl (lv_at hl 0 rfl) ?_
      refine lv_iconst (v := (-1)) hx hb dX3_putAtBest_18 (by decide) ?_
      refine lv_icmp_ne (tgt := 24) hx hb dX3_putAtBest_19 (by decide) (fun c_6 => ?_) (fun c_6 => absurd c_6 (fun h9 => absurd (show nI q < 0 by rw [h9]; decide) (nI_pos (by omega))))
      refine lv_aload_n hx hb dX3_putAtBest_24 rfl (lv_at hl 1 rfl) ?_
      refine lv_aload_n hx hb dX3_putAtBest_25 rfl (lv_at hl 2 rfl) ?_
      refine lv_iload_n hx hb dX3_putAtBest_26 rfl (lv_at hl 0 rfl) ?_
      refine zrdS (As := [.int (nI q)]) (rest := [.ref (qA B 3 k), .ref (qA B 5 0)]) (wc := []) ⟨hx, hb, hml, hown, hts⟩ (c_xOf l D _ q hq) (va_cwS 1 hts gX3_putAtBest_X3_xOf rfl rfl rfl (by decide +kernel) ⟨by rw [hRf]; exact Nat.le_of_ble_eq_true rfl, by rw [hRl]; exact Nat.le_of_ble_eq_true rfl⟩) hK hP hD [] rfl (by decide) [] rfl rfl hl.1 rfl (Nat.le_of_ble_eq_true rfl) dX3_putAtBest_27 ⟨by omega, by omega⟩ (fun r_7 hr_7 => ?_)
      refine lv_topi (fun v_8 ev_8 => ?_)
      obtain rfl : v_8 = (nI (q / 2 % 12)) := ev_8.trans hr_7
      refine lv_iload_n hx hb dX3_putAtBest_30 rfl (lv_at hl 0 rfl) ?_
      refine zrdS (As := [.int (nI q)]) (rest := [.int (nI (q / 2 % 12)), .ref (qA B 3 k), .ref (qA B 5 0)]) (wc := []) ⟨hx, hb, hml, hown, hts⟩ (c_yOf l D _ q hq) (va_cwS 1 hts gX3_putAtBest_X3_yOf rfl rfl rfl (by decide +kernel) ⟨by rw [hRf]; exact Nat.le_of_ble_eq_true rfl, by rw [hRl]; exact Nat.le_of_ble_eq_true rfl⟩) hK hP hD [] rfl (by decide) [] rfl rfl hl.1 rfl (Nat.le_of_ble_eq_true rfl) dX3_putAtBest_31 ⟨by omega, by omega⟩ (fun r_9 hr_9 => ?_)
      refine lv_topi (fun v_10 ev_10 => ?_)
      obtain rfl : v_10 = (nI (q / 2 / 12)) := ev_10.trans hr_9
      refine lv_iload_n hx hb dX3_putAtBest_34 rfl (lv_at hl 0 rfl) ?_
      refine zrdS (As := [.int (nI q)]) (rest := [.int (nI (q / 2 / 12)), .int (nI (q / 2 % 12)), .ref (qA B 3 k), .ref (qA B 5 0)]) (wc := []) ⟨hx, hb, hml, hown, hts⟩ (c_isTurnedIn l D _ q hq) (va_cwS 1 hts gX3_putAtBest_X3_isTurnedIn rfl rfl rfl (by decide +kernel) ⟨by rw [hRf]; exact Nat.le_of_ble_eq_true rfl, by rw [hRl]; exact Nat.le_of_ble_eq_true rfl⟩) hK hP hD [] rfl (by decide) [] rfl rfl hl.1 rfl (Nat.le_of_ble_eq_true rfl) dX3_putAtBest_35 ⟨by omega, by omega⟩ (fun r_11 hr_11 => ?_)
      refine lv_topi (fun v_12 ev_12 => ?_)
      obtain rfl : v_12 = (nI (q % 2)) := ev_12.trans hr_11
      have hT := qTri_ld v2 o8 hKi hk hPl
      have hKi1 := qKin_fr v2 hKi
      have hRu1 := qRul_fr v2 hRu
      have hwd := qwd_bd hKi1 hk (q % 2)
      have ewd := qwd_fr v2 k (q % 2)
      have t1 : q % 2 < 2 := Nat.mod_lt _ (by decide)
      have x1 : q / 2 % 12 < 12 := Nat.mod_lt _ (by decide)
      have y1 : q / 2 / 12 < 10 := by omega
      refine qcallvV (As := [.ref (qA B 3 k), .int (nI (q / 2 % 12)), .int (nI (q / 2 / 12)), .int (nI (q % 2))]) (rest := []) (ws := qG B R1 N1) ⟨hx, hb, hml, hown, hts⟩ (c_letDown l D _ B R1 N1 k (q / 2 % 12) (q / 2 / 12) (q % 2) hk t1 v3 hwd.1.1 hwd.2.1 (by rw [ewd.1]; exact hPl.2.2.1) (by rw [ewd.2]; exact hPl.2.2.2.1)) (cwV 4 hts gX3_putAtBest_X3_letDown rfl rfl rfl (by decide +kernel) ⟨by rw [hRf]; exact Nat.le_of_ble_eq_true rfl, by rw [hRl]; exact Nat.le_of_ble_eq_true rfl⟩) hK hP hD hS hA [0, 1, 2, 3] rfl (ci := 3) (q0 := 0) rfl rfl rfl hl.1 rfl (Nat.le_of_ble_eq_true rfl) dX3_putAtBest_38 ⟨by omega, by omega⟩ (fun u_14 H locs hwu_14 hP hD hS => ?_)
      obtain ⟨N2, hN2⟩ : ∃ z, z = u_14 := ⟨_, rfl⟩
      rw [← hN2] at hP hD hwu_14
      have hP : va_P D vwCl (qG B R1 N2) H := hP
      have hD : va_D A (qG B R1 N2) := hD
      have hF2 : qFull B R1 N2 S := by rw [hwu_14]; exact qFull_fr (qFR_ld N1 k _ _ _) (fun _ _ => rfl) (qld_M v3 hk hKi1 hRu1 x1 y1 t1) hF1
      rw [← hwu_14] at hT
      have hf2 : qFR N N2 := by rw [hwu_14]; exact v2.tr (qFR_ld N1 k _ _ _)
      have e5 : N2 4 1 5 = N 4 1 5 := hf2 _ _ _ (by omega) (by omega) (by omega)
      refine lv_aload_n hx hb dX3_putAtBest_41 rfl (lv_at hl 1 rfl) ?_
      refine qcallvV (As := []) (rest := []) (ws := qG B R1 N2) ⟨hx, hb, hml, hown, hts⟩ (c_putTrial l D _ B R1 N2 S k hF2 hT (by omega)) (cwV 0 hts gX3_putAtBest_X3_putTrial rfl rfl rfl (by decide +kernel) ⟨by rw [hRf]; exact Nat.le_of_ble_eq_true rfl, by rw [hRl]; exact Nat.le_of_ble_eq_true rfl⟩) hK hP hD hS hA [0, 1, 2, 3] rfl (ci := 3) (q0 := 0) rfl rfl rfl hl.1 rfl (Nat.le_of_ble_eq_true rfl) dX3_putAtBest_42 ⟨by omega, by omega⟩ (fun u_16 H locs hwu_16 hP hD hS => ?_)
      obtain ⟨B3, R3, N3⟩ := u_16
      obtain ⟨y1, y2, y3, y4⟩ := hwu_16
      dsimp only at y1 y2 y3 y4 hP hD
      subst y1
      have hP : va_P D vwCl (qG (qBs B (N2 4 1 5)) R3 N3) H := hP
      have hD : va_D A (qG (qBs B (N2 4 1 5)) R3 N3) := hD
      refine lv_iconst (v := 1) hx hb dX3_putAtBest_45 (by decide) ?_
      exact W.zret (ty := .boolean) (v := 1) hx hb hr rfl (fun t ht hW => ⟨⟨1, (qBs B (N2 4 1 5), R3, N3), rfl, ⟨(qSam_fr hf2).tr (qSam_nx y3 y2), y2.trans (by funext l9 j9; exact hf2 _ _ _ (by omega) (by omega) (by omega)), ⟨_, y4⟩, Or.inr ⟨rfl, by rw [← e5]; exact y3.2.2.2.2.2.2.2.2.1⟩⟩, ⟨Nat.zero_le _, by rw [ht]; exact hP, va_K.moved hW.alike (hK.sub (tys' := []) [] rfl), hD⟩⟩, hS.F ht⟩) hS.2.2 dX3_putAtBest_46
  · have h_b := True.intro
    have k_17 : ¬ ((N 4 1 5) < 60) := fun h9 => c_1 ((nI_ltI (a := (N 4 1 5)) (b := 60) (by omega) (by omega)).mpr h9)
    refine lv_iconst (v := 0) hx hb dX3_putAtBest_9 (by decide) ?_
    exact W.zret (ty := .boolean) (v := 0) hx hb hr rfl (fun t ht hW => ⟨⟨0, (B, R, N), rfl, ⟨qSam_rf B N, rfl, ⟨S, hF⟩, Or.inl ⟨rfl, rfl⟩⟩, ⟨Nat.zero_le _, by rw [ht]; exact hP, va_K.moved hW.alike (hK.sub (tys' := []) [] rfl), hD⟩⟩, hS.F ht⟩) hS.2.2 dX3_putAtBest_10
set_option maxHeartbeats 4000000 in
set_option maxRecDepth 100000 in
theorem c_before (l : Launch) (D : zG) (sz : Nat) (B : qB) (R : qR0) (N : qN0) (k k2 : Nat) (hk : k < qk B) (hk2 : k2 < qk B) (h7 : N 2 k 7 < 2) : Met l yX1_comesBefore wsX1_comesBefore ({ frames := 0, cells := 0, slots := 0, locals := 0 }) (zPc D (qT B) (qG B R N) sz [.ref (qA B 3 k), .ref (qA B 3 k2)]) (vp_Si (fun r => True)) 0 0 (fun _ => False) := by
  refine Met.ofW (cc := cX1_comesBefore) (maxL := 2) (ret := (some .boolean)) (by decide) rfl ?_
  intro p e s m args below meth c s₁ B9 hml hv
  obtain ⟨rfl, hsz, hP, hK, hD0⟩ := hv
  have hx := B9.exec
  have hb := B9.bytes
  have hr := B9.returns
  have hts := atoms_spec (ws := wsX1_comesBefore) B9.pre
  have hown : s.vm.findClass RX1 = some m.cls := findClass_of_methodNamed B9.named
  have hlocks := B9.notSynchronized
  subst hsz
  have hD := hD0
  generalize hAe : (fun _ : Nat => True) = A at hD
  have hl := lv_entry ([.ref (qA B 3 k), .ref (qA B 3 k2)]) (n := 2) (Nat.le_of_ble_eq_true rfl)
  rw [lg_entry_eq]
  generalize (lg_sl ([.ref (qA B 3 k), .ref (qA B 3 k2)]) ++ List.replicate (2 - (lg_sl ([.ref (qA B 3 k), .ref (qA B 3 k2)])).length) Slot.unset).toArray = ls at hl ⊢
  have hl : lv_has ls 2 [(0, .ref (qA B 3 k)), (1, .ref (qA B 3 k2))] := hl
  have hP : va_P D vwCl (qG B R N) s.heap := hP
  generalize hRe : (headSpec _ _).room = R9
  have hRf : R9.frames = 0 := by rw [← hRe]; rfl
  have hRc : R9.cells = 0 := by rw [← hRe]; rfl
  have hRs : R9.slots = 0 := by rw [← hRe]; rfl
  have hRl : R9.locals = 0 := by rw [← hRe]; rfl
  clear hRe
  refine lv_aload_n hx hb dX1_comesBefore_0 rfl (lv_at hl 0 rfl) ?_
  refine va_get (D := D) (ci := 1) (v := .int (nI (N 2 k 7))) (C := RX1) (T := TX1) (N := 8) hx hb hts (fun _ h9 => List.mem_cons_of_mem _ (List.mem_append_right _ h9)) hown hK hP (188 + k) (qG_d hk) rfl 7 (by decide) (hts (.fieldLink RX1 32 "PalletStack$Kind" "needsDeck" "Z") (List.mem_of_getElem? (i := 1) (by rfl))) (fun _ h9 => h9) rfl dX1_comesBefore_1 ?_
  refine lv_aload_n hx hb dX1_comesBefore_4 rfl (lv_at hl 1 rfl) ?_
  refine va_get (D := D) (ci := 1) (v := .int (nI (N 2 k2 7))) (C := RX1) (T := TX1) (N := 8) hx hb hts (fun _ h9 => List.mem_cons_of_mem _ (List.mem_append_right _ h9)) hown hK hP (188 + k2) (qG_d hk2) rfl 7 (by decide) (hts (.fieldLink RX1 32 "PalletStack$Kind" "needsDeck" "Z") (List.mem_of_getElem? (i := 1) (by rfl))) (fun _ h9 => h9) rfl dX1_comesBefore_5 ?_
  refine lv_icmp_eq (tgt := 16) hx hb dX1_comesBefore_8 (by decide) (fun c_18 => ?_) (fun c_18 => ?_)
  · have h_b := True.intro
    refine lv_aload_n hx hb dX1_comesBefore_16 rfl (lv_at hl 0 rfl) ?_
    refine va_get (D := D) (ci := 1) (v := .int (nI (N 2 k 5))) (C := RX1) (T := TX1) (N := 8) hx hb hts (fun _ h9 => List.mem_cons_of_mem _ (List.mem_append_right _ h9)) hown hK hP (188 + k) (qG_d hk) rfl 5 (by decide) (hts (.fieldLink RX1 25 "PalletStack$Kind" "strength" "I") (List.mem_of_getElem? (i := 2) (by rfl))) (fun _ h9 => h9) rfl dX1_comesBefore_17 ?_
    refine lv_aload_n hx hb dX1_comesBefore_20 rfl (lv_at hl 1 rfl) ?_
    refine va_get (D := D) (ci := 1) (v := .int (nI (N 2 k2 5))) (C := RX1) (T := TX1) (N := 8) hx hb hts (fun _ h9 => List.mem_cons_of_mem _ (List.mem_append_right _ h9)) hown hK hP (188 + k2) (qG_d hk2) rfl 5 (by decide) (hts (.fieldLink RX1 25 "PalletStack$Kind" "strength" "I") (List.mem_of_getElem? (i := 2) (by rfl))) (fun _ h9 => h9) rfl dX1_comesBefore_21 ?_
    refine lv_icmp_eq (tgt := 44) hx hb dX1_comesBefore_24 (by decide) (fun c_19 => ?_) (fun c_19 => ?_)
    · have h_b := True.intro
      refine lv_aload_n hx hb dX1_comesBefore_44 rfl (lv_at hl 0 rfl) ?_
      refine va_get (D := D) (ci := 1) (v := .int (nI (N 2 k 4))) (C := RX1) (T := TX1) (N := 8) hx hb hts (fun _ h9 => List.mem_cons_of_mem _ (List.mem_append_right _ h9)) hown hK hP (188 + k) (qG_d hk) rfl 4 (by decide) (hts (.fieldLink RX1 22 "PalletStack$Kind" "weight" "I") (List.mem_of_getElem? (i := 3) (by rfl))) (fun _ h9 => h9) rfl dX1_comesBefore_45 ?_
      refine lv_aload_n hx hb dX1_comesBefore_48 rfl (lv_at hl 1 rfl) ?_
      refine va_get (D := D) (ci := 1) (v := .int (nI (N 2 k2 4))) (C := RX1) (T := TX1) (N := 8) hx hb hts (fun _ h9 => List.mem_cons_of_mem _ (List.mem_append_right _ h9)) hown hK hP (188 + k2) (qG_d hk2) rfl 4 (by decide) (hts (.fieldLink RX1 22 "PalletStack$Kind" "weight" "I") (List.mem_of_getElem? (i := 3) (by rfl))) (fun _ h9 => h9) rfl dX1_comesBefore_49 ?_
      refine lv_icmp_le (tgt := 59) hx hb dX1_comesBefore_52 (by decide) (fun c_20 => ?_) (fun c_20 => ?_)
      · have h_b := True.intro
        refine lv_iconst (v := 0) hx hb dX1_comesBefore_59 (by decide) ?_
        exact W.zret (ty := .boolean) (v := 0) hx hb hr rfl (fun t ht hW => ⟨0, rfl, trivial, ht⟩) (fun _ h => by cases h) dX1_comesBefore_60
      · have h_b := True.intro
        refine lv_iconst (v := 1) hx hb dX1_comesBefore_55 (by decide) ?_
        refine lv_goto (tgt := 60) hx hb dX1_comesBefore_56 (by decide) ?_
        exact W.zret (ty := .boolean) (v := 1) hx hb hr rfl (fun t ht hW => ⟨1, rfl, trivial, ht⟩) (fun _ h => by cases h) dX1_comesBefore_60
    · have h_b := True.intro
      refine lv_aload_n hx hb dX1_comesBefore_27 rfl (lv_at hl 0 rfl) ?_
      refine va_get (D := D) (ci := 1) (v := .int (nI (N 2 k 5))) (C := RX1) (T := TX1) (N := 8) hx hb hts (fun _ h9 => List.mem_cons_of_mem _ (List.mem_append_right _ h9)) hown hK hP (188 + k) (qG_d hk) rfl 5 (by decide) (hts (.fieldLink RX1 25 "PalletStack$Kind" "strength" "I") (List.mem_of_getElem? (i := 2) (by rfl))) (fun _ h9 => h9) rfl dX1_comesBefore_28 ?_
      refine lv_aload_n hx hb dX1_comesBefore_31 rfl (lv_at hl 1 rfl) ?_
      refine va_get (D := D) (ci := 1) (v := .int (nI (N 2 k2 5))) (C := RX1) (T := TX1) (N := 8) hx hb hts (fun _ h9 => List.mem_cons_of_mem _ (List.mem_append_right _ h9)) hown hK hP (188 + k2) (qG_d hk2) rfl 5 (by decide) (hts (.fieldLink RX1 25 "PalletStack$Kind" "strength" "I") (List.mem_of_getElem? (i := 2) (by rfl))) (fun _ h9 => h9) rfl dX1_comesBefore_32 ?_
      refine lv_icmp_le (tgt := 42) hx hb dX1_comesBefore_35 (by decide) (fun c_21 => ?_) (fun c_21 => ?_)
      · have h_b := True.intro
        refine lv_iconst (v := 0) hx hb dX1_comesBefore_42 (by decide) ?_
        exact W.zret (ty := .boolean) (v := 0) hx hb hr rfl (fun t ht hW => ⟨0, rfl, trivial, ht⟩) (fun _ h => by cases h) dX1_comesBefore_43
      · have h_b := True.intro
        refine lv_iconst (v := 1) hx hb dX1_comesBefore_38 (by decide) ?_
        refine lv_goto (tgt := 43) hx hb dX1_comesBefore_39 (by decide) ?_
        exact W.zret (ty := .boolean) (v := 1) hx hb hr rfl (fun t ht hW => ⟨1, rfl, trivial, ht⟩) (fun _ h => by cases h) dX1_comesBefore_43
  · have h_b := True.intro
    refine lv_aload_n hx hb dX1_comesBefore_11 rfl (lv_at hl 0 rfl) ?_
    refine va_get (D := D) (ci := 1) (v := .int (nI (N 2 k 7))) (C := RX1) (T := TX1) (N := 8) hx hb hts (fun _ h9 => List.mem_cons_of_mem _ (List.mem_append_right _ h9)) hown hK hP (188 + k) (qG_d hk) rfl 7 (by decide) (hts (.fieldLink RX1 32 "PalletStack$Kind" "needsDeck" "Z") (List.mem_of_getElem? (i := 1) (by rfl))) (fun _ h9 => h9) rfl dX1_comesBefore_12 ?_
    exact W.zret (ty := .boolean) (v := (nI (N 2 k 7))) hx hb hr (qnar h7) (fun t ht hW => ⟨(nI (N 2 k 7)), rfl, trivial, ht⟩) (fun _ h => by cases h) dX1_comesBefore_15
set_option maxHeartbeats 4000000 in
set_option maxRecDepth 100000 in
theorem c_next (l : Launch) (D : zG) (sz : Nat) (B : qB) (R : qR0) (N : qN0) (hO : qOK B N) (hM : qM N) (hLs : qLs B N) (hKi : qKin B N) : Met l yX3_nextLine wsX3_nextLine ({ frames := 2, cells := 0, slots := 0, locals := 60 }) (zPc D (qT B) (qG B R N) sz [.ref (qA B 5 0)]) (va_Sq (fun r => (r = none ∨ ∃ l9, l9 < ql B ∧ r = some (qA B 4 l9) ∧ 0 < N 3 l9 1))) 0 0 (fun _ => False) := by
  refine Met.ofW (cc := cX3_nextLine) (maxL := 4) (ret := (some (.object "PalletStack$Line"))) (by decide) rfl ?_
  intro p e s m args below meth c s₁ B9 hml hv
  obtain ⟨rfl, hsz, hP, hK, hD0⟩ := hv
  have hx := B9.exec
  have hb := B9.bytes
  have hr := B9.returns
  have hts := atoms_spec (ws := wsX3_nextLine) B9.pre
  have hown : s.vm.findClass RX3 = some m.cls := findClass_of_methodNamed B9.named
  have hlocks := B9.notSynchronized
  subst hsz
  have hD := hD0
  generalize hAe : (fun _ : Nat => True) = A at hD
  have hl := lv_entry ([.ref (qA B 5 0)]) (n := 4) (Nat.le_of_ble_eq_true rfl)
  rw [lg_entry_eq]
  generalize (lg_sl ([.ref (qA B 5 0)]) ++ List.replicate (4 - (lg_sl ([.ref (qA B 5 0)])).length) Slot.unset).toArray = ls at hl ⊢
  have hl : lv_has ls 4 [(0, .ref (qA B 5 0))] := hl
  have hP : va_P D vwCl (qG B R N) s.heap := hP
  generalize hRe : (headSpec _ _).room = R9
  have hRf : R9.frames = 2 := by rw [← hRe]; rfl
  have hRc : R9.cells = 0 := by rw [← hRe]; rfl
  have hRs : R9.slots = 0 := by rw [← hRe]; rfl
  have hRl : R9.locals = 60 := by rw [← hRe]; rfl
  clear hRe
  have o5 := hO.2.2.2.2.1
  have o7 := hO.2.2.2.2.2.2.1
  refine lv_null hx hb dX3_nextLine_0 ?_
  refine lv_astore_nN (lv' := [(1, .null), (0, .ref (qA B 5 0))]) hx hb dX3_nextLine_1 rfl hl (by decide) rfl (fun ls hl => ?_)
  refine lv_iconst (v := 0) hx hb dX3_nextLine_2 (by decide) ?_
  refine lv_istore_n (lv' := [(2, .int 0), (1, .null), (0, .ref (qA B 5 0))]) hx hb dX3_nextLine_3 rfl hl (by decide) rfl (fun ls hl => ?_)
  generalize hQe : MQ _ _ _ _ _ _ _ = Q
  have loop : ∀ (k9 i : Nat), i + k9 = ql B → ∀ (o : Option Nat) (ho : o = none ∨ ∃ l9, l9 < ql B ∧ o = some (qA B 4 l9) ∧ 0 < N 3 l9 1) (ls : Array Slot), lv_has ls 4 [(2, .int (nI i)), (1, va_rf o), (0, .ref (qA B 5 0))] → W p l e R9 s m ([.ref (qA B 5 0)] : List Value).toArray below meth c s.heap [] 0 0 Q (F0 m 4 ls []) := by
    intro k9
    induction k9 with
    | zero =>
      intro i hi o ho ls hl
      obtain rfl : ql B = i := by omega
      rcases ho with rfl | ⟨l0, hl0, rfl, hc0⟩
      · have h_b := True.intro
        have hl : lv_has ls 4 [(2, .int (nI (ql B))), (1, .null), (0, .ref (qA B 5 0))] := hl
        refine lv_iload_n hx hb dX3_nextLine_4 rfl (lv_at hl 0 rfl) ?_
        refine lv_aload_n hx hb dX3_nextLine_5 rfl (lv_at hl 2 rfl) ?_
        refine va_get (D := D) (ci := 3) (v := .int (nI (N 4 1 8))) (C := RX3) (T := TX3) (N := 14) hx hb hts (fun _ h9 => List.mem_cons_of_mem _ (List.mem_append_left _ (List.mem_append_left _ (List.mem_append_right _ h9)))) hown hK hP 0 rfl rfl 13 (by decide) (hts (.fieldLink RX3 62 "PalletStack" "lineCount" "I") (List.mem_of_getElem? (i := 1) (by rfl))) (fun _ h9 => h9) rfl dX3_nextLine_6 ?_
        refine lv_topi (fun v_22 ev_22 => ?_)
        obtain rfl : v_22 = (nI (ql B)) := ev_22.trans (by rw [o5])
        refine lv_icmp_ge (tgt := 62) hx hb dX3_nextLine_9 (by decide) (fun c_23 => ?_) (fun c_23 => absurd (Int32.le_refl _) c_23)
        refine lv_aload_nN hx hb dX3_nextLine_62 rfl (lv_at hl 1 rfl) ?_
        rw [← hQe]
        exact W.aret (v := .null) hx hb hr (.inl ⟨_, rfl⟩) (.inl rfl) (fun t ht hW => ⟨(none), rfl, Or.inl rfl, ht⟩) (fun _ h => by cases h) dX3_nextLine_63
      · have h_b := True.intro
        have hl : lv_has ls 4 [(2, .int (nI (ql B))), (1, .ref (qA B 4 l0)), (0, .ref (qA B 5 0))] := hl
        refine lv_iload_n hx hb dX3_nextLine_4 rfl (lv_at hl 0 rfl) ?_
        refine lv_aload_n hx hb dX3_nextLine_5 rfl (lv_at hl 2 rfl) ?_
        refine va_get (D := D) (ci := 3) (v := .int (nI (N 4 1 8))) (C := RX3) (T := TX3) (N := 14) hx hb hts (fun _ h9 => List.mem_cons_of_mem _ (List.mem_append_left _ (List.mem_append_left _ (List.mem_append_right _ h9)))) hown hK hP 0 rfl rfl 13 (by decide) (hts (.fieldLink RX3 62 "PalletStack" "lineCount" "I") (List.mem_of_getElem? (i := 1) (by rfl))) (fun _ h9 => h9) rfl dX3_nextLine_6 ?_
        refine lv_topi (fun v_24 ev_24 => ?_)
        obtain rfl : v_24 = (nI (ql B)) := ev_24.trans (by rw [o5])
        refine lv_icmp_ge (tgt := 62) hx hb dX3_nextLine_9 (by decide) (fun c_25 => ?_) (fun c_25 => absurd (Int32.le_refl _) c_25)
        refine lv_aload_n hx hb dX3_nextLine_62 rfl (lv_at hl 1 rfl) ?_
        rw [← hQe]
        exact W.aret (v := .ref (qA B 4 l0)) hx hb hr (.inl ⟨_, rfl⟩) (.inr ⟨_, rfl⟩) (fun t ht hW => ⟨(some (qA B 4 l0)), rfl, Or.inr ⟨l0, hl0, rfl, hc0⟩, ht⟩) (fun _ h => by cases h) dX3_nextLine_63
    | succ k9 ih =>
      intro i hi o ho ls hl
      have hil : i < ql B := by omega
      have hki := hLs i hil
      have b1 := hM 3 i 1
      rcases ho with rfl | ⟨l0, hl0, rfl, hc0⟩
      · have h_b := True.intro
        have hl : lv_has ls 4 [(2, .int (nI i)), (1, .null), (0, .ref (qA B 5 0))] := hl
        refine lv_iload_n hx hb dX3_nextLine_4 rfl (lv_at hl 0 rfl) ?_
        refine lv_aload_n hx hb dX3_nextLine_5 rfl (lv_at hl 2 rfl) ?_
        refine va_get (D := D) (ci := 3) (v := .int (nI (N 4 1 8))) (C := RX3) (T := TX3) (N := 14) hx hb hts (fun _ h9 => List.mem_cons_of_mem _ (List.mem_append_left _ (List.mem_append_left _ (List.mem_append_right _ h9)))) hown hK hP 0 rfl rfl 13 (by decide) (hts (.fieldLink RX3 62 "PalletStack" "lineCount" "I") (List.mem_of_getElem? (i := 1) (by rfl))) (fun _ h9 => h9) rfl dX3_nextLine_6 ?_
        refine lv_topi (fun v_26 ev_26 => ?_)
        obtain rfl : v_26 = (nI (ql B)) := ev_26.trans (by rw [o5])
        refine lv_icmp_ge (tgt := 62) hx hb dX3_nextLine_9 (by decide) (fun c_27 => absurd c_27 (nI_ge (by omega) (by omega))) (fun c_27 => ?_)
        refine lv_aload_n hx hb dX3_nextLine_12 rfl (lv_at hl 2 rfl) ?_
        refine lv_iload_n hx hb dX3_nextLine_13 rfl (lv_at hl 0 rfl) ?_
        refine zrdVq2 (As := [.int (nI i)]) (rest := []) (wc := qG B R N) ⟨hx, hb, hml, hown, hts⟩ (c_lineOf l D _ B R N i hil hO) (cwV 1 hts gX3_nextLine_X3_lineOf rfl rfl rfl (by decide +kernel) ⟨by rw [hRf]; exact Nat.le_of_ble_eq_true rfl, by rw [hRl]; exact Nat.le_of_ble_eq_true rfl⟩) hK hP hD [0, 1, 2, 3] rfl (ci := 3) (q0 := 0) rfl rfl rfl hl.1 rfl (Nat.le_of_ble_eq_true rfl) dX3_nextLine_14 ⟨by omega, by omega⟩ (fun r_28 hr_28 => ?_)
        refine W.eq (g2 := F0 m 17 ls [.ref (qA B 4 i)]) (by rw [hr_28]; rfl) ?_
        refine lv_astore_n (lv' := [(3, .ref (qA B 4 i)), (2, .int (nI i)), (1, .null), (0, .ref (qA B 5 0))]) hx hb dX3_nextLine_17 rfl hl (by decide) rfl (fun ls hl => ?_)
        refine lv_aload_n hx hb dX3_nextLine_18 rfl (lv_at hl 0 rfl) ?_
        refine lv_ifnull hx hb dX3_nextLine_19 ?_
        refine lv_aload_n hx hb dX3_nextLine_22 rfl (lv_at hl 0 rfl) ?_
        refine va_get (D := D) (ci := 2) (v := .int (nI (N 3 i 1))) (C := RX2) (T := TX2) (N := 3) hx hb hts (fun _ h9 => List.mem_cons_of_mem _ (List.mem_append_left _ (List.mem_append_right _ h9))) hown hK hP (188 + qk B + i) (qG_n hil) rfl 1 (by decide) (hts (.fieldLink RX3 167 "PalletStack$Line" "count" "I") (List.mem_of_getElem? (i := 2) (by rfl))) (fun _ h9 => h9) rfl dX3_nextLine_23 ?_
        refine lv_if_le (tgt := 56) hx hb dX3_nextLine_26 (by decide) (fun c_30 => ?_) (fun c_30 => ?_)
        · have h_b := True.intro
          refine lv_iinc (v := (nI (i + 1))) (lv' := [(2, .int (nI (i + 1))), (3, .ref (qA B 4 i)), (1, .null), (0, .ref (qA B 5 0))]) hx hb dX3_nextLine_56 hl (k := 1) rfl (nI_1 i) (by decide) rfl (fun ls hl => ?_)
          refine lv_goto (tgt := 4) hx hb dX3_nextLine_59 (by decide) ?_
          have hl := lv_sub hl (l' := [(2, .int (nI (i + 1))), (1, .null), (0, .ref (qA B 5 0))]) [0, 2, 3] rfl
          exact ih (i + 1) (by omega) none (Or.inl rfl) ls hl
        · have h_b := True.intro
          have hc : 0 < N 3 i 1 := Nat.pos_of_ne_zero (fun h9 => c_30 (by rw [h9]; exact Int32.le_refl _))
          refine lv_aload_n hx hb dX3_nextLine_29 rfl (lv_at hl 0 rfl) ?_
          refine va_get (D := D) (ci := 2) (v := .int (nI (N 3 i 2))) (C := RX2) (T := TX2) (N := 3) hx hb hts (fun _ h9 => List.mem_cons_of_mem _ (List.mem_append_left _ (List.mem_append_right _ h9))) hown hK hP (188 + qk B + i) (qG_n hil) rfl 2 (by decide) (hts (.fieldLink RX3 156 "PalletStack$Line" "isAside" "Z") (List.mem_of_getElem? (i := 3) (by rfl))) (fun _ h9 => h9) rfl dX3_nextLine_30 ?_
          refine lv_if_ne (tgt := 56) hx hb dX3_nextLine_33 (by decide) (fun c_31 => ?_) (fun c_31 => ?_)
          · have h_b := True.intro
            refine lv_iinc (v := (nI (i + 1))) (lv' := [(2, .int (nI (i + 1))), (3, .ref (qA B 4 i)), (1, .null), (0, .ref (qA B 5 0))]) hx hb dX3_nextLine_56 hl (k := 1) rfl (nI_1 i) (by decide) rfl (fun ls hl => ?_)
            refine lv_goto (tgt := 4) hx hb dX3_nextLine_59 (by decide) ?_
            have hl := lv_sub hl (l' := [(2, .int (nI (i + 1))), (1, .null), (0, .ref (qA B 5 0))]) [0, 2, 3] rfl
            exact ih (i + 1) (by omega) none (Or.inl rfl) ls hl
          · have h_b := True.intro
            refine lv_aload_nN hx hb dX3_nextLine_36 rfl (lv_at hl 2 rfl) ?_
            refine lv_ifnullN (tgt := 54) hx hb dX3_nextLine_37 (by decide) ?_
            refine lv_aload_n hx hb dX3_nextLine_54 rfl (lv_at hl 0 rfl) ?_
            refine lv_astore_n (lv' := [(1, .ref (qA B 4 i)), (3, .ref (qA B 4 i)), (2, .int (nI i)), (0, .ref (qA B 5 0))]) hx hb dX3_nextLine_55 rfl hl (by decide) rfl (fun ls hl => ?_)
            refine lv_iinc (v := (nI (i + 1))) (lv' := [(2, .int (nI (i + 1))), (1, .ref (qA B 4 i)), (3, .ref (qA B 4 i)), (0, .ref (qA B 5 0))]) hx hb dX3_nextLine_56 hl (k := 2) rfl (nI_1 i) (by decide) rfl (fun ls hl => ?_)
            refine lv_goto (tgt := 4) hx hb dX3_nextLine_59 (by decide) ?_
            have hl := lv_sub hl (l' := [(2, .int (nI (i + 1))), (1, .ref (qA B 4 i)), (0, .ref (qA B 5 0))]) [0, 1, 3] rfl
            exact ih (i + 1) (by omega) (some (qA B 4 i)) (Or.inr ⟨i, hil, rfl, hc⟩) ls hl
      · have h_b := True.intro
        have hkl := hLs l0 hl0
        have hl : lv_has ls 4 [(2, .int (nI i)), (1, .ref (qA B 4 l0)), (0, .ref (qA B 5 0))] := hl
        refine lv_iload_n hx hb dX3_nextLine_4 rfl (lv_at hl 0 rfl) ?_
        refine lv_aload_n hx hb dX3_nextLine_5 rfl (lv_at hl 2 rfl) ?_
        refine va_get (D := D) (ci := 3) (v := .int (nI (N 4 1 8))) (C := RX3) (T := TX3) (N := 14) hx hb hts (fun _ h9 => List.mem_cons_of_mem _ (List.mem_append_left _ (List.mem_append_left _ (List.mem_append_right _ h9)))) hown hK hP 0 rfl rfl 13 (by decide) (hts (.fieldLink RX3 62 "PalletStack" "lineCount" "I") (List.mem_of_getElem? (i := 1) (by rfl))) (fun _ h9 => h9) rfl dX3_nextLine_6 ?_
        refine lv_topi (fun v_33 ev_33 => ?_)
        obtain rfl : v_33 = (nI (ql B)) := ev_33.trans (by rw [o5])
        refine lv_icmp_ge (tgt := 62) hx hb dX3_nextLine_9 (by decide) (fun c_34 => absurd c_34 (nI_ge (by omega) (by omega))) (fun c_34 => ?_)
        refine lv_aload_n hx hb dX3_nextLine_12 rfl (lv_at hl 2 rfl) ?_
        refine lv_iload_n hx hb dX3_nextLine_13 rfl (lv_at hl 0 rfl) ?_
        refine zrdVq2 (As := [.int (nI i)]) (rest := []) (wc := qG B R N) ⟨hx, hb, hml, hown, hts⟩ (c_lineOf l D _ B R N i hil hO) (cwV 1 hts gX3_nextLine_X3_lineOf rfl rfl rfl (by decide +kernel) ⟨by rw [hRf]; exact Nat.le_of_ble_eq_true rfl, by rw [hRl]; exact Nat.le_of_ble_eq_true rfl⟩) hK hP hD [0, 1, 2, 3] rfl (ci := 3) (q0 := 0) rfl rfl rfl hl.1 rfl (Nat.le_of_ble_eq_true rfl) dX3_nextLine_14 ⟨by omega, by omega⟩ (fun r_35 hr_35 => ?_)
        refine W.eq (g2 := F0 m 17 ls [.ref (qA B 4 i)]) (by rw [hr_35]; rfl) ?_
        refine lv_astore_n (lv' := [(3, .ref (qA B 4 i)), (2, .int (nI i)), (1, .ref (qA B 4 l0)), (0, .ref (qA B 5 0))]) hx hb dX3_nextLine_17 rfl hl (by decide) rfl (fun ls hl => ?_)
        refine lv_aload_n hx hb dX3_nextLine_18 rfl (lv_at hl 0 rfl) ?_
        refine lv_ifnull hx hb dX3_nextLine_19 ?_
        refine lv_aload_n hx hb dX3_nextLine_22 rfl (lv_at hl 0 rfl) ?_
        refine va_get (D := D) (ci := 2) (v := .int (nI (N 3 i 1))) (C := RX2) (T := TX2) (N := 3) hx hb hts (fun _ h9 => List.mem_cons_of_mem _ (List.mem_append_left _ (List.mem_append_right _ h9))) hown hK hP (188 + qk B + i) (qG_n hil) rfl 1 (by decide) (hts (.fieldLink RX3 167 "PalletStack$Line" "count" "I") (List.mem_of_getElem? (i := 2) (by rfl))) (fun _ h9 => h9) rfl dX3_nextLine_23 ?_
        refine lv_if_le (tgt := 56) hx hb dX3_nextLine_26 (by decide) (fun c_37 => ?_) (fun c_37 => ?_)
        · have h_b := True.intro
          refine lv_iinc (v := (nI (i + 1))) (lv' := [(2, .int (nI (i + 1))), (3, .ref (qA B 4 i)), (1, .ref (qA B 4 l0)), (0, .ref (qA B 5 0))]) hx hb dX3_nextLine_56 hl (k := 1) rfl (nI_1 i) (by decide) rfl (fun ls hl => ?_)
          refine lv_goto (tgt := 4) hx hb dX3_nextLine_59 (by decide) ?_
          have hl := lv_sub hl (l' := [(2, .int (nI (i + 1))), (1, .ref (qA B 4 l0)), (0, .ref (qA B 5 0))]) [0, 2, 3] rfl
          exact ih (i + 1) (by omega) (some (qA B 4 l0)) (Or.inr ⟨l0, hl0, rfl, hc0⟩) ls hl
        · have h_b := True.intro
          have hc : 0 < N 3 i 1 := Nat.pos_of_ne_zero (fun h9 => c_37 (by rw [h9]; exact Int32.le_refl _))
          refine lv_aload_n hx hb dX3_nextLine_29 rfl (lv_at hl 0 rfl) ?_
          refine va_get (D := D) (ci := 2) (v := .int (nI (N 3 i 2))) (C := RX2) (T := TX2) (N := 3) hx hb hts (fun _ h9 => List.mem_cons_of_mem _ (List.mem_append_left _ (List.mem_append_right _ h9))) hown hK hP (188 + qk B + i) (qG_n hil) rfl 2 (by decide) (hts (.fieldLink RX3 156 "PalletStack$Line" "isAside" "Z") (List.mem_of_getElem? (i := 3) (by rfl))) (fun _ h9 => h9) rfl dX3_nextLine_30 ?_
          refine lv_if_ne (tgt := 56) hx hb dX3_nextLine_33 (by decide) (fun c_38 => ?_) (fun c_38 => ?_)
          · have h_b := True.intro
            refine lv_iinc (v := (nI (i + 1))) (lv' := [(2, .int (nI (i + 1))), (3, .ref (qA B 4 i)), (1, .ref (qA B 4 l0)), (0, .ref (qA B 5 0))]) hx hb dX3_nextLine_56 hl (k := 1) rfl (nI_1 i) (by decide) rfl (fun ls hl => ?_)
            refine lv_goto (tgt := 4) hx hb dX3_nextLine_59 (by decide) ?_
            have hl := lv_sub hl (l' := [(2, .int (nI (i + 1))), (1, .ref (qA B 4 l0)), (0, .ref (qA B 5 0))]) [0, 2, 3] rfl
            exact ih (i + 1) (by omega) (some (qA B 4 l0)) (Or.inr ⟨l0, hl0, rfl, hc0⟩) ls hl
          · have h_b := True.intro
            refine lv_aload_n hx hb dX3_nextLine_36 rfl (lv_at hl 2 rfl) ?_
            refine lv_ifnull hx hb dX3_nextLine_37 ?_
            refine lv_aload_n hx hb dX3_nextLine_40 rfl (lv_at hl 0 rfl) ?_
            refine va_get (D := D) (ci := 2) (v := .ref (qA B 3 (N 3 i 0))) (C := RX2) (T := TX2) (N := 3) hx hb hts (fun _ h9 => List.mem_cons_of_mem _ (List.mem_append_left _ (List.mem_append_right _ h9))) hown hK hP (188 + qk B + i) (qG_n hil) rfl 0 (by decide) (hts (.fieldLink RX3 163 "PalletStack$Line" "kind" "LPalletStack$Kind;") (List.mem_of_getElem? (i := 4) (by rfl))) (fun _ h9 => h9) rfl dX3_nextLine_41 ?_
            refine lv_aload_n hx hb dX3_nextLine_44 rfl (lv_at hl 2 rfl) ?_
            refine va_get (D := D) (ci := 2) (v := .ref (qA B 3 (N 3 l0 0))) (C := RX2) (T := TX2) (N := 3) hx hb hts (fun _ h9 => List.mem_cons_of_mem _ (List.mem_append_left _ (List.mem_append_right _ h9))) hown hK hP (188 + qk B + l0) (qG_n hl0) rfl 0 (by decide) (hts (.fieldLink RX3 163 "PalletStack$Line" "kind" "LPalletStack$Kind;") (List.mem_of_getElem? (i := 4) (by rfl))) (fun _ h9 => h9) rfl dX3_nextLine_45 ?_
            refine zrdV2 (As := [.ref (qA B 3 (N 3 l0 0))]) (rest := []) (wc := qG B R N) ⟨hx, hb, hml, hown, hts⟩ (c_before l D _ B R N (N 3 i 0) (N 3 l0 0) hki hkl (hKi _ hki).2.2.2.2.2.2.2) (cwV 1 hts gX3_nextLine_X1_comesBefore rfl rfl rfl (by decide +kernel) ⟨by rw [hRf]; exact Nat.le_of_ble_eq_true rfl, by rw [hRl]; exact Nat.le_of_ble_eq_true rfl⟩) hK hP hD [0, 1, 2, 3] rfl (ci := 1) (q0 := (188 + (N 3 i 0))) rfl (qG_d hki) rfl hl.1 rfl (Nat.le_of_ble_eq_true rfl) dX3_nextLine_48 ⟨by omega, by omega⟩ (fun r_40 hr_40 => ?_)
            refine lv_if_eq (tgt := 56) hx hb dX3_nextLine_51 (by decide) (fun c_41 => ?_) (fun c_41 => ?_)
            · have h_b := True.intro
              refine lv_iinc (v := (nI (i + 1))) (lv' := [(2, .int (nI (i + 1))), (3, .ref (qA B 4 i)), (1, .ref (qA B 4 l0)), (0, .ref (qA B 5 0))]) hx hb dX3_nextLine_56 hl (k := 1) rfl (nI_1 i) (by decide) rfl (fun ls hl => ?_)
              refine lv_goto (tgt := 4) hx hb dX3_nextLine_59 (by decide) ?_
              have hl := lv_sub hl (l' := [(2, .int (nI (i + 1))), (1, .ref (qA B 4 l0)), (0, .ref (qA B 5 0))]) [0, 2, 3] rfl
              exact ih (i + 1) (by omega) (some (qA B 4 l0)) (Or.inr ⟨l0, hl0, rfl, hc0⟩) ls hl
            · have h_b := True.intro
              refine lv_aload_n hx hb dX3_nextLine_54 rfl (lv_at hl 0 rfl) ?_
              refine lv_astore_n (lv' := [(1, .ref (qA B 4 i)), (3, .ref (qA B 4 i)), (2, .int (nI i)), (0, .ref (qA B 5 0))]) hx hb dX3_nextLine_55 rfl hl (by decide) rfl (fun ls hl => ?_)
              refine lv_iinc (v := (nI (i + 1))) (lv' := [(2, .int (nI (i + 1))), (1, .ref (qA B 4 i)), (3, .ref (qA B 4 i)), (0, .ref (qA B 5 0))]) hx hb dX3_nextLine_56 hl (k := 2) rfl (nI_1 i) (by decide) rfl (fun ls hl => ?_)
              refine lv_goto (tgt := 4) hx hb dX3_nextLine_59 (by decide) ?_
              have hl := lv_sub hl (l' := [(2, .int (nI (i + 1))), (1, .ref (qA B 4 i)), (0, .ref (qA B 5 0))]) [0, 1, 3] rfl
              exact ih (i + 1) (by omega) (some (qA B 4 i)) (Or.inr ⟨i, hil, rfl, hc⟩) ls hl
  exact loop (ql B) 0 (by omega) none (Or.inl rfl) ls hl
set_option maxHeartbeats 4000000 in
set_option maxRecDepth 100000 in
theorem c_line1 (l : Launch) (D : zG) (sz : Nat) (B : qB) (R : qR0) (N : qN0) (i : Nat) (hi : i < ql B) (hO : qOK B N) : Met l yX3_line wsX3_line ({ frames := 2, cells := 0, slots := 0, locals := 45 }) (zPc D (qT B) (qG B R N) sz [.ref (qA B 5 0), .int (nI i), .int 1]) (vp_Si (fun r => r = nI (N 3 i 1))) 0 0 (fun _ => False) := by
  refine Met.ofW (cc := cX3_line) (maxL := 4) (ret := (some .int)) (by decide) rfl ?_
  intro p e s m args below meth c s₁ B9 hml hv
  obtain ⟨rfl, hsz, hP, hK, hD0⟩ := hv
  have hx := B9.exec
  have hb := B9.bytes
  have hr := B9.returns
  have hts := atoms_spec (ws := wsX3_line) B9.pre
  have hown : s.vm.findClass RX3 = some m.cls := findClass_of_methodNamed B9.named
  have hlocks := B9.notSynchronized
  subst hsz
  have hD := hD0
  generalize hAe : (fun _ : Nat => True) = A at hD
  have hl := lv_entry ([.ref (qA B 5 0), .int (nI i), .int 1]) (n := 4) (Nat.le_of_ble_eq_true rfl)
  rw [lg_entry_eq]
  generalize (lg_sl ([.ref (qA B 5 0), .int (nI i), .int 1]) ++ List.replicate (4 - (lg_sl ([.ref (qA B 5 0), .int (nI i), .int 1])).length) Slot.unset).toArray = ls at hl ⊢
  have hl : lv_has ls 4 [(0, .ref (qA B 5 0)), (1, .int (nI i)), (2, .int 1)] := hl
  have hP : va_P D vwCl (qG B R N) s.heap := hP
  generalize hRe : (headSpec _ _).room = R9
  have hRf : R9.frames = 2 := by rw [← hRe]; rfl
  have hRc : R9.cells = 0 := by rw [← hRe]; rfl
  have hRs : R9.slots = 0 := by rw [← hRe]; rfl
  have hRl : R9.locals = 45 := by rw [← hRe]; rfl
  clear hRe
  refine lv_aload_n hx hb dX3_line_0 rfl (lv_at hl 0 rfl) ?_
  refine lv_iload_n hx hb dX3_line_1 rfl (lv_at hl 1 rfl) ?_
  refine zrdVq2 (As := [.int (nI i)]) (rest := []) (wc := qG B R N) ⟨hx, hb, hml, hown, hts⟩ (c_lineOf l D _ B R N i hi hO) (cwV 1 hts gX3_line_X3_lineOf rfl rfl rfl (by decide +kernel) ⟨by rw [hRf]; exact Nat.le_of_ble_eq_true rfl, by rw [hRl]; exact Nat.le_of_ble_eq_true rfl⟩) hK hP hD [0, 1, 2, 3] rfl (ci := 3) (q0 := 0) rfl rfl rfl hl.1 rfl (Nat.le_of_ble_eq_true rfl) dX3_line_2 ⟨by omega, by omega⟩ (fun r_42 hr_42 => ?_)
  refine W.eq (g2 := F0 m 5 ls [.ref (qA B 4 i)]) (by rw [hr_42]; rfl) ?_
  refine lv_astore_n (lv' := [(3, .ref (qA B 4 i)), (0, .ref (qA B 5 0)), (1, .int (nI i)), (2, .int 1)]) hx hb dX3_line_5 rfl hl (by decide) rfl (fun ls hl => ?_)
  refine lv_aload_n hx hb dX3_line_6 rfl (lv_at hl 0 rfl) ?_
  refine lv_ifnonnull (tgt := 18) hx hb dX3_line_7 (by decide) ?_
  refine lv_iload_n hx hb dX3_line_18 rfl (lv_at hl 3 rfl) ?_
  refine lv_if_eq (tgt := 29) hx hb dX3_line_19 (by decide) (fun c_44 => absurd c_44 (by decide)) (fun c_44 => ?_)
  refine lv_aload_n hx hb dX3_line_22 rfl (lv_at hl 0 rfl) ?_
  refine va_get (D := D) (ci := 2) (v := .int (nI (N 3 i 1))) (C := RX2) (T := TX2) (N := 3) hx hb hts (fun _ h9 => List.mem_cons_of_mem _ (List.mem_append_left _ (List.mem_append_left _ (List.mem_append_left _ (List.mem_append_right _ h9))))) hown hK hP (188 + qk B + i) (qG_n hi) rfl 1 (by decide) (hts (.fieldLink RX3 167 "PalletStack$Line" "count" "I") (List.mem_of_getElem? (i := 3) (by rfl))) (fun _ h9 => h9) rfl dX3_line_23 ?_
  refine lv_goto (tgt := 36) hx hb dX3_line_26 (by decide) ?_
  exact W.iret (v := (nI (N 3 i 1))) hx hb hr (fun t ht hW => ⟨(nI (N 3 i 1)), rfl, rfl, ht⟩) (fun _ h => by cases h) dX3_line_36
