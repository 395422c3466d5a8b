set_option maxHeartbeats 4000000 in
set_option maxRecDepth 100000 in
theorem c_layTop (l : Launch) (D : zG) (sz : Nat) (B : qB) (R : qR0) (N : qN0) (hM : qM N) (i : Nat) (hi : i < 61) (hx9 : N 0 i 6 + N 0 i 4 ≤ 12) (hy9 : N 0 i 7 + N 0 i 5 ≤ 10) : Met l yX3_layTop wsX3_layTop ({ frames := 2, cells := 0, slots := 0, locals := 45 }) (zPc D (qT B) (qG B R N) sz [.ref (qA B 5 0), .ref (qA B 0 i)]) (va_Qv (fun (u : qN0) => u = qlP N i (qci N i)) (zB D (va_A (qG B R N) sz) (fun _ => []) 0 (fun u => qG B R u)) (va_A (qG B R N) sz)) 0 0 (va_A (qG B R N) sz) := by
  refine Met.ofW (cc := cX3_layTop) (maxL := 4) (ret := none) (by decide) rfl ?_
  intro p e s m args below meth c s₁ B9 hml hv
  obtain ⟨rfl, hsz, hP, hK, hD0⟩ := hv
  have hx0 := B9.exec
  have hb := B9.bytes
  have hr := B9.returns
  have hts := atoms_spec (ws := wsX3_layTop) B9.pre
  have hown : s.vm.findClass RX3 = some m.cls := findClass_of_methodNamed B9.named
  have hlocks := B9.notSynchronized
  subst hsz
  have hD := hD0.self (sz := s.heap.size)
  generalize hAe : va_A (qG B R N) s.heap.size = A at hD ⊢
  have hA : ∀ q : Nat, s.heap.size ≤ q → A q := fun q h => by rw [← hAe]; exact Or.inr h
  have hS : va_S A s.heap s.heap [] := va_S.rf
  have hl := lv_entry ([.ref (qA B 5 0), .ref (qA B 0 i)]) (n := 4) (Nat.le_of_ble_eq_true rfl)
  rw [lg_entry_eq]
  generalize (lg_sl ([.ref (qA B 5 0), .ref (qA B 0 i)]) ++ List.replicate (4 - (lg_sl ([.ref (qA B 5 0), .ref (qA B 0 i)])).length) Slot.unset).toArray = ls at hl ⊢
  have hl : lv_has ls 4 [(0, .ref (qA B 5 0)), (1, .ref (qA B 0 i))] := hl
  have hP : va_P D vwCl (qG B R N) s.heap := hP
  generalize hRe : (headSpec _ _).room = R9
  have hRf : R9.frames = 2 := by rw [← hRe]; rfl
  have hRc : R9.cells = 0 := by rw [← hRe]; rfl
  have hRs : R9.slots = 0 := by rw [← hRe]; rfl
  have hRl : R9.locals = 45 := by rw [← hRe]; rfl
  clear hRe
  obtain ⟨x, hx⟩ : ∃ x, x = N 0 i 6 := ⟨_, rfl⟩
  obtain ⟨y, hy⟩ : ∃ y, y = N 0 i 7 := ⟨_, rfl⟩
  obtain ⟨wd, hwd⟩ : ∃ y, y = N 0 i 4 := ⟨_, rfl⟩
  obtain ⟨d, hd⟩ : ∃ y, y = N 0 i 5 := ⟨_, rfl⟩
  rw [← hx, ← hwd] at hx9
  rw [← hy, ← hd] at hy9
  have b9 := hM 0 i 9
  refine lv_aload_n hx0 hb dX3_layTop_0 rfl (lv_at hl 1 rfl) ?_
  refine va_get (D := D) (ci := 0) (v := .int (nI (N 0 i 7))) (C := RX0) (T := TX0) (N := 18) hx0 hb hts (fun _ h9 => List.mem_cons_of_mem _ (List.mem_append_left _ (List.mem_append_right _ h9))) hown hK hP (5 + i) (qG_i (by omega)) rfl 7 (by decide) (hts (.fieldLink RX3 176 "PalletStack$Item" "y" "I") (List.mem_of_getElem? (i := 1) (by rfl))) (fun _ h9 => h9) rfl dX3_layTop_1 ?_
  refine lv_topi (fun v_1 ev_1 => ?_)
  obtain rfl : v_1 = (nI (y + 0)) := ev_1.trans (by rw [← hy]; rfl)
  refine lv_istore_n (lv' := [(2, .int (nI (y + 0))), (0, .ref (qA B 5 0)), (1, .ref (qA B 0 i))]) hx0 hb dX3_layTop_4 rfl hl (by decide) rfl (fun ls hl => ?_)
  have hl := lv_sub hl (l' := [(2, .int (nI (y + 0))), (1, .ref (qA B 0 i)), (0, .ref (qA B 5 0))]) [0, 2, 1] rfl
  generalize hQe : MQ _ _ _ _ _ _ _ = Q
  have inner : ∀ (jj : Nat), jj < d → (∀ (N1 : qN0) (hN : N1 = qlP N i (qsn x wd y (jj + 1) 0)) (H : Heap) (locs : List Loc) (ls : Array Slot), va_P D vwCl (qG B R N1) H → va_D A (qG B R N1) → va_S A s.heap H locs → lv_has ls 4 [(2, .int (nI (y + jj))), (1, .ref (qA B 0 i)), (0, .ref (qA B 5 0))] → W p l e R9 s m ([.ref (qA B 5 0), .ref (qA B 0 i)] : List Value).toArray below meth c H locs 0 0 Q (F0 m 83 ls [])) → ∀ (k9 ii : Nat), ii + k9 = wd → ∀ (N1 : qN0) (hN : N1 = qlP N i (qsn x wd y jj ii)) (H : Heap) (locs : List Loc) (ls : Array Slot), va_P D vwCl (qG B R N1) H → va_D A (qG B R N1) → va_S A s.heap H locs → lv_has ls 4 [(3, .int (nI (x + ii))), (2, .int (nI (y + jj))), (1, .ref (qA B 0 i)), (0, .ref (qA B 5 0))] → W p l e R9 s m ([.ref (qA B 5 0), .ref (qA B 0 i)] : List Value).toArray below meth c H locs 0 0 Q (F0 m 23 ls []) := by
    intro jj hjj out k9
    induction k9 with
    | zero =>
      intro ii hi9 N1 hN H locs ls hP hD hS hl
      obtain rfl : wd = ii := by omega
      have ne : ∀ c i9 j, c ≠ 4 ∨ i9 ≠ 0 → N1 c i9 j = N c i9 j := fun c i9 j h => by rw [hN]; exact qlP_ne _ _ _ h
      have hP : va_P D vwCl (qG B R N1) H := hP
      have hD : va_D A (qG B R N1) := hD
      refine lv_iload_n hx0 hb dX3_layTop_23 rfl (lv_at hl 0 rfl) ?_
      refine lv_aload_n hx0 hb dX3_layTop_24 rfl (lv_at hl 2 rfl) ?_
      refine va_get (D := D) (ci := 0) (v := .int (nI (N1 0 i 6))) (C := RX0) (T := TX0) (N := 18) hx0 hb hts (fun _ h9 => List.mem_cons_of_mem _ (List.mem_append_left _ (List.mem_append_right _ h9))) hown hK hP (5 + i) (qG_i (by omega)) rfl 6 (by decide) (hts (.fieldLink RX3 182 "PalletStack$Item" "x" "I") (List.mem_of_getElem? (i := 3) (by rfl))) (fun _ h9 => h9) rfl dX3_layTop_25 ?_
      refine lv_topi (fun v_2 ev_2 => ?_)
      obtain rfl : v_2 = (nI x) := ev_2.trans (by rw [ne 0 i 6 (by omega), ← hx])
      refine lv_aload_n hx0 hb dX3_layTop_28 rfl (lv_at hl 2 rfl) ?_
      refine va_get (D := D) (ci := 0) (v := .int (nI (N1 0 i 4))) (C := RX0) (T := TX0) (N := 18) hx0 hb hts (fun _ h9 => List.mem_cons_of_mem _ (List.mem_append_left _ (List.mem_append_right _ h9))) hown hK hP (5 + i) (qG_i (by omega)) rfl 4 (by decide) (hts (.fieldLink RX3 185 "PalletStack$Item" "width" "I") (List.mem_of_getElem? (i := 4) (by rfl))) (fun _ h9 => h9) rfl dX3_layTop_29 ?_
      refine lv_topi (fun v_3 ev_3 => ?_)
      obtain rfl : v_3 = (nI wd) := ev_3.trans (by rw [ne 0 i 4 (by omega), ← hwd])
      refine lv_iadd hx0 hb dX3_layTop_32 ?_
      refine lv_topi (fun v_4 ev_4 => ?_)
      obtain rfl : v_4 = (nI (x + wd)) := ev_4.trans (nI_add _ _)
      refine lv_icmp_ge (tgt := 83) hx0 hb dX3_layTop_33 (by decide) (fun c_5 => ?_) (fun c_5 => absurd (Int32.le_refl _) c_5)
      have hl := lv_sub hl (l' := [(2, .int (nI (y + jj))), (1, .ref (qA B 0 i)), (0, .ref (qA B 5 0))]) [1, 2, 3] rfl
      exact out N1 (by rw [hN]; exact qlP_congr _ _ (fun cx cy _ => qsn_r _ _ _ _ _ _)) H locs ls hP hD hS hl
    | succ k9 ih =>
      intro ii hi9 N1 hN H locs ls hP hD hS hl
      have ne : ∀ c i9 j, c ≠ 4 ∨ i9 ≠ 0 → N1 c i9 j = N c i9 j := fun c i9 j h => by rw [hN]; exact qlP_ne _ _ _ h
      have hT : N1 4 0 ((y + jj) * 12 + (x + ii)) = N 4 0 ((y + jj) * 12 + (x + ii)) := by rw [hN, qlP_at _ _ _ (by omega), qsn_n]; rfl
      have bT := hM 4 0 ((y + jj) * 12 + (x + ii))
      have hP : va_P D vwCl (qG B R N1) H := hP
      have hD : va_D A (qG B R N1) := hD
      refine lv_iload_n hx0 hb dX3_layTop_23 rfl (lv_at hl 0 rfl) ?_
      refine lv_aload_n hx0 hb dX3_layTop_24 rfl (lv_at hl 2 rfl) ?_
      refine va_get (D := D) (ci := 0) (v := .int (nI (N1 0 i 6))) (C := RX0) (T := TX0) (N := 18) hx0 hb hts (fun _ h9 => List.mem_cons_of_mem _ (List.mem_append_left _ (List.mem_append_right _ h9))) hown hK hP (5 + i) (qG_i (by omega)) rfl 6 (by decide) (hts (.fieldLink RX3 182 "PalletStack$Item" "x" "I") (List.mem_of_getElem? (i := 3) (by rfl))) (fun _ h9 => h9) rfl dX3_layTop_25 ?_
      refine lv_topi (fun v_6 ev_6 => ?_)
      obtain rfl : v_6 = (nI x) := ev_6.trans (by rw [ne 0 i 6 (by omega), ← hx])
      refine lv_aload_n hx0 hb dX3_layTop_28 rfl (lv_at hl 2 rfl) ?_
      refine va_get (D := D) (ci := 0) (v := .int (nI (N1 0 i 4))) (C := RX0) (T := TX0) (N := 18) hx0 hb hts (fun _ h9 => List.mem_cons_of_mem _ (List.mem_append_left _ (List.mem_append_right _ h9))) hown hK hP (5 + i) (qG_i (by omega)) rfl 4 (by decide) (hts (.fieldLink RX3 185 "PalletStack$Item" "width" "I") (List.mem_of_getElem? (i := 4) (by rfl))) (fun _ h9 => h9) rfl dX3_layTop_29 ?_
      refine lv_topi (fun v_7 ev_7 => ?_)
      obtain rfl : v_7 = (nI wd) := ev_7.trans (by rw [ne 0 i 4 (by omega), ← hwd])
      refine lv_iadd hx0 hb dX3_layTop_32 ?_
      refine lv_topi (fun v_8 ev_8 => ?_)
      obtain rfl : v_8 = (nI (x + wd)) := ev_8.trans (nI_add _ _)
      refine lv_icmp_ge (tgt := 83) hx0 hb dX3_layTop_33 (by decide) (fun c_9 => absurd c_9 (nI_ge (by omega) (by omega))) (fun c_9 => ?_)
      refine lv_iload_n hx0 hb dX3_layTop_36 rfl (lv_at hl 0 rfl) ?_
      refine lv_iload_n hx0 hb dX3_layTop_37 rfl (lv_at hl 1 rfl) ?_
      refine zrdS (As := [.int (nI (x + ii)), .int (nI (y + jj))]) (rest := []) (wc := []) ⟨hx0, hb, hml, hown, hts⟩ (c_isCell l D _ (nI (x + ii)) (nI (y + jj))) (va_cwS 2 hts gX3_layTop_X3_isCell rfl rfl rfl (by decide +kernel) ⟨by rw [hRf]; exact Nat.le_of_ble_eq_true rfl, by rw [hRl]; exact Nat.le_of_ble_eq_true rfl⟩) hK hP hD [] rfl (by decide) [] rfl rfl hl.1 rfl (Nat.le_of_ble_eq_true rfl) dX3_layTop_38 ⟨by omega, by omega⟩ (fun r_10 hr_10 => ?_)
      refine lv_topi (fun v_11 ev_11 => ?_)
      obtain rfl : v_11 = 1 := ev_11.trans (hr_10.trans (if_pos ⟨⟨nI_pos' (by omega), (nI_leI (b := 11) (by omega) (by decide)).mpr (by omega)⟩, nI_pos' (by omega), (nI_leI (b := 9) (by omega) (by decide)).mpr (by omega)⟩))
      refine lv_if_eq (tgt := 77) hx0 hb dX3_layTop_41 (by decide) (fun c_12 => absurd c_12 (by decide)) (fun c_12 => ?_)
      refine lv_aload_n hx0 hb dX3_layTop_44 rfl (lv_at hl 3 rfl) ?_
      refine va_get (D := D) (ci := 3) (v := .ref (qA B 5 3)) (C := RX3) (T := TX3) (N := 14) hx0 hb hts (fun _ h9 => List.mem_cons_of_mem _ (List.mem_append_right _ h9)) hown hK hP 0 rfl rfl 10 (by decide) (hts (.fieldLink RX3 47 "PalletStack" "tops" "[I") (List.mem_of_getElem? (i := 5) (by rfl))) (fun _ h9 => h9) rfl dX3_layTop_45 ?_
      refine lv_iload_n hx0 hb dX3_layTop_48 rfl (lv_at hl 1 rfl) ?_
      refine lv_bipush (v := 12) hx0 hb dX3_layTop_49 (by decide) ?_
      refine lv_imul hx0 hb dX3_layTop_51 ?_
      refine lv_topi (fun v_13 ev_13 => ?_)
      obtain rfl : v_13 = (nI ((y + jj) * 12)) := ev_13.trans (pk_mul _ 12)
      refine lv_iload_n hx0 hb dX3_layTop_52 rfl (lv_at hl 0 rfl) ?_
      refine lv_iadd hx0 hb dX3_layTop_53 ?_
      refine lv_topi (fun v_14 ev_14 => ?_)
      obtain rfl : v_14 = (nI ((y + jj) * 12 + (x + ii))) := ev_14.trans (nI_add _ _)
      refine va_iald hx0 hb hK hP 3 2 rfl rfl (vp_in_nI (n := ((y + jj) * 12 + (x + ii))) (N := 120) (by omega) (by decide)) dX3_layTop_54 ?_
      refine lv_topi (fun v_15 ev_15 => ?_)
      obtain rfl : v_15 = (nI (N1 4 0 ((y + jj) * 12 + (x + ii)))) := ev_15.trans (by rw [nI_clamp (by omega)])
      refine lv_topi (fun v_16 ev_16 => ?_)
      obtain rfl : v_16 = (nI (N 4 0 ((y + jj) * 12 + (x + ii)))) := ev_16.trans (by rw [hT])
      refine lv_aload_n hx0 hb dX3_layTop_55 rfl (lv_at hl 2 rfl) ?_
      refine va_get (D := D) (ci := 0) (v := .int (nI (N1 0 i 9))) (C := RX0) (T := TX0) (N := 18) hx0 hb hts (fun _ h9 => List.mem_cons_of_mem _ (List.mem_append_left _ (List.mem_append_right _ h9))) hown hK hP (5 + i) (qG_i (by omega)) rfl 9 (by decide) (hts (.fieldLink RX3 134 "PalletStack$Item" "top" "I") (List.mem_of_getElem? (i := 6) (by rfl))) (fun _ h9 => h9) rfl dX3_layTop_56 ?_
      refine lv_topi (fun v_17 ev_17 => ?_)
      obtain rfl : v_17 = (nI (N 0 i 9)) := ev_17.trans (by rw [ne 0 i 9 (by omega)])
      refine lv_icmp_ge (tgt := 77) hx0 hb dX3_layTop_59 (by decide) (fun c_18 => ?_) (fun c_18 => ?_)
      · have h_b := True.intro
        have k_19 : (N 0 i 9) ≤ (N 4 0 ((y + jj) * 12 + (x + ii))) := (nI_leI (a := (N 0 i 9)) (b := (N 4 0 ((y + jj) * 12 + (x + ii)))) (by omega) (by omega)).mp c_18
        refine lv_iinc (v := (nI (x + (ii + 1)))) (lv' := [(3, .int (nI (x + (ii + 1)))), (2, .int (nI (y + jj))), (1, .ref (qA B 0 i)), (0, .ref (qA B 5 0))]) hx0 hb dX3_layTop_77 hl (k := 0) rfl ((nI_add _ 1)) (by decide) rfl (fun ls hl => ?_)
        refine lv_goto (tgt := 23) hx0 hb dX3_layTop_80 (by decide) ?_
        have hl := lv_sub hl (l' := [(3, .int (nI (x + (ii + 1)))), (2, .int (nI (y + jj))), (1, .ref (qA B 0 i)), (0, .ref (qA B 5 0))]) [0, 1, 2, 3] rfl
        exact ih (ii + 1) (by omega) N1 (by rw [hN, qlP_dn (cx := x + ii) (cy := y + jj) k_19]; exact qlP_congr _ _ (fun cx cy _ => qsn_1 _ _ _ _ _ (by omega) _ _)) H locs ls hP hD hS hl
      · have h_b := True.intro
        have k_20 : ¬ ((N 0 i 9) ≤ (N 4 0 ((y + jj) * 12 + (x + ii)))) := fun h9 => c_18 ((nI_leI (a := (N 0 i 9)) (b := (N 4 0 ((y + jj) * 12 + (x + ii)))) (by omega) (by omega)).mpr h9)
        refine lv_aload_n hx0 hb dX3_layTop_62 rfl (lv_at hl 3 rfl) ?_
        refine va_get (D := D) (ci := 3) (v := .ref (qA B 5 3)) (C := RX3) (T := TX3) (N := 14) hx0 hb hts (fun _ h9 => List.mem_cons_of_mem _ (List.mem_append_right _ h9)) hown hK hP 0 rfl rfl 10 (by decide) (hts (.fieldLink RX3 47 "PalletStack" "tops" "[I") (List.mem_of_getElem? (i := 5) (by rfl))) (fun _ h9 => h9) rfl dX3_layTop_63 ?_
        refine lv_iload_n hx0 hb dX3_layTop_66 rfl (lv_at hl 1 rfl) ?_
        refine lv_bipush (v := 12) hx0 hb dX3_layTop_67 (by decide) ?_
        refine lv_imul hx0 hb dX3_layTop_69 ?_
        refine lv_topi (fun v_21 ev_21 => ?_)
        obtain rfl : v_21 = (nI ((y + jj) * 12)) := ev_21.trans (pk_mul _ 12)
        refine lv_iload_n hx0 hb dX3_layTop_70 rfl (lv_at hl 0 rfl) ?_
        refine lv_iadd hx0 hb dX3_layTop_71 ?_
        refine lv_topi (fun v_22 ev_22 => ?_)
        obtain rfl : v_22 = (nI ((y + jj) * 12 + (x + ii))) := ev_22.trans (nI_add _ _)
        refine lv_aload_n hx0 hb dX3_layTop_72 rfl (lv_at hl 2 rfl) ?_
        refine va_get (D := D) (ci := 0) (v := .int (nI (N1 0 i 9))) (C := RX0) (T := TX0) (N := 18) hx0 hb hts (fun _ h9 => List.mem_cons_of_mem _ (List.mem_append_left _ (List.mem_append_right _ h9))) hown hK hP (5 + i) (qG_i (by omega)) rfl 9 (by decide) (hts (.fieldLink RX3 134 "PalletStack$Item" "top" "I") (List.mem_of_getElem? (i := 6) (by rfl))) (fun _ h9 => h9) rfl dX3_layTop_73 ?_
        refine lv_topi (fun v_23 ev_23 => ?_)
        obtain rfl : v_23 = (nI (N 0 i 9)) := ev_23.trans (by rw [ne 0 i 9 (by omega)])
        refine va_iast hx0 hb hK hP hD hS 3 2 rfl rfl (vp_in_nI (n := ((y + jj) * 12 + (x + ii))) (N := 120) (by omega) (by decide)) dX3_layTop_76 (fun H locs hP hD hS => ?_)
        rw [nI_clamp (by omega)] at hP hD
        rw [qG_pt] at hP hD
        obtain ⟨N_24, hN_24⟩ : ∃ z : qN0, z = qp N1 4 0 ((y + jj) * 12 + (x + ii)) (N 0 i 9) := ⟨_, rfl⟩
        rw [← hN_24] at hP hD
        have hP : va_P D vwCl (qG B R N_24) H := hP
        have hD : va_D A (qG B R N_24) := hD
        refine lv_iinc (v := (nI (x + (ii + 1)))) (lv' := [(3, .int (nI (x + (ii + 1)))), (2, .int (nI (y + jj))), (1, .ref (qA B 0 i)), (0, .ref (qA B 5 0))]) hx0 hb dX3_layTop_77 hl (k := 0) rfl ((nI_add _ 1)) (by decide) rfl (fun ls hl => ?_)
        refine lv_goto (tgt := 23) hx0 hb dX3_layTop_80 (by decide) ?_
        have hl := lv_sub hl (l' := [(3, .int (nI (x + (ii + 1)))), (2, .int (nI (y + jj))), (1, .ref (qA B 0 i)), (0, .ref (qA B 5 0))]) [0, 1, 2, 3] rfl
        exact ih (ii + 1) (by omega) N_24 (by rw [hN_24, hN, qlP_up (by omega) (qsn_n _ _ _ _ _) (by omega)]; exact qlP_congr _ _ (fun cx cy _ => qsn_1 _ _ _ _ _ (by omega) _ _)) H locs ls hP hD hS hl
  have outer : ∀ (k9 jj : Nat), jj + k9 = d → ∀ (N1 : qN0) (hN : N1 = qlP N i (qsn x wd y jj 0)) (H : Heap) (locs : List Loc) (ls : Array Slot), va_P D vwCl (qG B R N1) H → va_D A (qG B R N1) → va_S A s.heap H locs → lv_has ls 4 [(2, .int (nI (y + jj))), (1, .ref (qA B 0 i)), (0, .ref (qA B 5 0))] → W p l e R9 s m ([.ref (qA B 5 0), .ref (qA B 0 i)] : List Value).toArray below meth c H locs 0 0 Q (F0 m 5 ls []) := by
    intro k9
    induction k9 with
    | zero =>
      intro jj hj N1 hN H locs ls hP hD hS hl
      obtain rfl : d = jj := by omega
      have ne : ∀ c i9 j, c ≠ 4 ∨ i9 ≠ 0 → N1 c i9 j = N c i9 j := fun c i9 j h => by rw [hN]; exact qlP_ne _ _ _ h
      have hP : va_P D vwCl (qG B R N1) H := hP
      have hD : va_D A (qG B R N1) := hD
      refine lv_iload_n hx0 hb dX3_layTop_5 rfl (lv_at hl 0 rfl) ?_
      refine lv_aload_n hx0 hb dX3_layTop_6 rfl (lv_at hl 1 rfl) ?_
      refine va_get (D := D) (ci := 0) (v := .int (nI (N1 0 i 7))) (C := RX0) (T := TX0) (N := 18) hx0 hb hts (fun _ h9 => List.mem_cons_of_mem _ (List.mem_append_left _ (List.mem_append_right _ h9))) hown hK hP (5 + i) (qG_i (by omega)) rfl 7 (by decide) (hts (.fieldLink RX3 176 "PalletStack$Item" "y" "I") (List.mem_of_getElem? (i := 1) (by rfl))) (fun _ h9 => h9) rfl dX3_layTop_7 ?_
      refine lv_topi (fun v_25 ev_25 => ?_)
      obtain rfl : v_25 = (nI y) := ev_25.trans (by rw [ne 0 i 7 (by omega), ← hy])
      refine lv_aload_n hx0 hb dX3_layTop_10 rfl (lv_at hl 1 rfl) ?_
      refine va_get (D := D) (ci := 0) (v := .int (nI (N1 0 i 5))) (C := RX0) (T := TX0) (N := 18) hx0 hb hts (fun _ h9 => List.mem_cons_of_mem _ (List.mem_append_left _ (List.mem_append_right _ h9))) hown hK hP (5 + i) (qG_i (by omega)) rfl 5 (by decide) (hts (.fieldLink RX3 179 "PalletStack$Item" "depth" "I") (List.mem_of_getElem? (i := 2) (by rfl))) (fun _ h9 => h9) rfl dX3_layTop_11 ?_
      refine lv_topi (fun v_26 ev_26 => ?_)
      obtain rfl : v_26 = (nI d) := ev_26.trans (by rw [ne 0 i 5 (by omega), ← hd])
      refine lv_iadd hx0 hb dX3_layTop_14 ?_
      refine lv_topi (fun v_27 ev_27 => ?_)
      obtain rfl : v_27 = (nI (y + d)) := ev_27.trans (nI_add _ _)
      refine lv_icmp_ge (tgt := 89) hx0 hb dX3_layTop_15 (by decide) (fun c_28 => ?_) (fun c_28 => absurd (Int32.le_refl _) c_28)
      rw [← hQe]
      exact W.vret hx0 hb hr (fun t ht hW => ⟨⟨N1, rfl, (by rw [hN]; unfold qci; rw [← hx, ← hy, ← hwd, ← hd]; exact qlP_congr _ _ (fun cx cy _ => qsn_e _ _ _ _ _ _)), ⟨Nat.zero_le _, by rw [ht]; exact hP, va_K.moved hW.alike (hK.sub (tys' := []) [] rfl), hD⟩⟩, hS.F ht⟩) hS.2.2 dX3_layTop_89
    | succ k9 ih =>
      intro jj hj N1 hN H locs ls hP hD hS hl
      have ne : ∀ c i9 j, c ≠ 4 ∨ i9 ≠ 0 → N1 c i9 j = N c i9 j := fun c i9 j h => by rw [hN]; exact qlP_ne _ _ _ h
      have hP : va_P D vwCl (qG B R N1) H := hP
      have hD : va_D A (qG B R N1) := hD
      refine lv_iload_n hx0 hb dX3_layTop_5 rfl (lv_at hl 0 rfl) ?_
      refine lv_aload_n hx0 hb dX3_layTop_6 rfl (lv_at hl 1 rfl) ?_
      refine va_get (D := D) (ci := 0) (v := .int (nI (N1 0 i 7))) (C := RX0) (T := TX0) (N := 18) hx0 hb hts (fun _ h9 => List.mem_cons_of_mem _ (List.mem_append_left _ (List.mem_append_right _ h9))) hown hK hP (5 + i) (qG_i (by omega)) rfl 7 (by decide) (hts (.fieldLink RX3 176 "PalletStack$Item" "y" "I") (List.mem_of_getElem? (i := 1) (by rfl))) (fun _ h9 => h9) rfl dX3_layTop_7 ?_
      refine lv_topi (fun v_29 ev_29 => ?_)
      obtain rfl : v_29 = (nI y) := ev_29.trans (by rw [ne 0 i 7 (by omega), ← hy])
      refine lv_aload_n hx0 hb dX3_layTop_10 rfl (lv_at hl 1 rfl) ?_
      refine va_get (D := D) (ci := 0) (v := .int (nI (N1 0 i 5))) (C := RX0) (T := TX0) (N := 18) hx0 hb hts (fun _ h9 => List.mem_cons_of_mem _ (List.mem_append_left _ (List.mem_append_right _ h9))) hown hK hP (5 + i) (qG_i (by omega)) rfl 5 (by decide) (hts (.fieldLink RX3 179 "PalletStack$Item" "depth" "I") (List.mem_of_getElem? (i := 2) (by rfl))) (fun _ h9 => h9) rfl dX3_layTop_11 ?_
      refine lv_topi (fun v_30 ev_30 => ?_)
      obtain rfl : v_30 = (nI d) := ev_30.trans (by rw [ne 0 i 5 (by omega), ← hd])
      refine lv_iadd hx0 hb dX3_layTop_14 ?_
      refine lv_topi (fun v_31 ev_31 => ?_)
      obtain rfl : v_31 = (nI (y + d)) := ev_31.trans (nI_add _ _)
      refine lv_icmp_ge (tgt := 89) hx0 hb dX3_layTop_15 (by decide) (fun c_32 => absurd c_32 (nI_ge (by omega) (by omega))) (fun c_32 => ?_)
      refine lv_aload_n hx0 hb dX3_layTop_18 rfl (lv_at hl 1 rfl) ?_
      refine va_get (D := D) (ci := 0) (v := .int (nI (N1 0 i 6))) (C := RX0) (T := TX0) (N := 18) hx0 hb hts (fun _ h9 => List.mem_cons_of_mem _ (List.mem_append_left _ (List.mem_append_right _ h9))) hown hK hP (5 + i) (qG_i (by omega)) rfl 6 (by decide) (hts (.fieldLink RX3 182 "PalletStack$Item" "x" "I") (List.mem_of_getElem? (i := 3) (by rfl))) (fun _ h9 => h9) rfl dX3_layTop_19 ?_
      refine lv_topi (fun v_33 ev_33 => ?_)
      obtain rfl : v_33 = (nI (x + 0)) := ev_33.trans (by rw [ne 0 i 6 (by omega), ← hx]; rfl)
      refine lv_istore_n (lv' := [(3, .int (nI (x + 0))), (2, .int (nI (y + jj))), (1, .ref (qA B 0 i)), (0, .ref (qA B 5 0))]) hx0 hb dX3_layTop_22 rfl hl (by decide) rfl (fun ls hl => ?_)
      have hl := lv_sub hl (l' := [(3, .int (nI (x + 0))), (2, .int (nI (y + jj))), (1, .ref (qA B 0 i)), (0, .ref (qA B 5 0))]) [0, 1, 2, 3] rfl
      refine inner jj (by omega) (fun N1 hN H locs ls hP hD hS hl => ?_) wd 0 (by omega) N1 hN H locs ls hP hD hS hl
      have hP : va_P D vwCl (qG B R N1) H := hP
      have hD : va_D A (qG B R N1) := hD
      refine lv_iinc (v := (nI (y + (jj + 1)))) (lv' := [(2, .int (nI (y + (jj + 1)))), (1, .ref (qA B 0 i)), (0, .ref (qA B 5 0))]) hx0 hb dX3_layTop_83 hl (k := 0) rfl ((nI_add _ 1)) (by decide) rfl (fun ls hl => ?_)
      refine lv_goto (tgt := 5) hx0 hb dX3_layTop_86 (by decide) ?_
      have hl := lv_sub hl (l' := [(2, .int (nI (y + (jj + 1)))), (1, .ref (qA B 0 i)), (0, .ref (qA B 5 0))]) [0, 1, 2] rfl
      exact ih (jj + 1) (by omega) N1 hN H locs ls hP hD hS hl
  refine outer d 0 (by omega) N ?_ s.heap [] ls hP hD hS hl
  funext c9 i9 j9
  unfold qlP
  rw [if_neg (fun h9 => by rw [qsn_0] at h9; exact absurd h9.2.2 (by decide))]
