set_option maxHeartbeats 4000000 in
set_option maxRecDepth 100000 in
theorem c_addS0 (l : Launch) (D : zG) (sz : Nat) (B : qB) (R : qR0) (N : qN0) (i k : Nat) (hi : i < 61) : Met l yX0_addSupport wsX0_addSupport ({ frames := 0, cells := 0, slots := 0, locals := 0 }) (zPc D (qT B) (qG B R N) sz [.ref (qA B 0 i), .ref (qA B 0 k), .int (nI 0)]) (va_Qv (fun (u : qR0 × qN0) => u = (R, N)) (zB D (va_A (qG B R N) sz) (fun _ => []) 0 (fun u => qG B u.1 u.2)) (va_A (qG B R N) sz)) 0 0 (va_A (qG B R N) sz) := by
  refine Met.ofW (cc := cX0_addSupport) (maxL := 3) (ret := none) (by decide) rfl ?_
  intro p e s m args below meth c s₁ B9 hml hv
  obtain ⟨rfl, hsz, hP, hK, hD0⟩ := hv
  have hx := B9.exec
  have hb := B9.bytes
  have hr := B9.returns
  have hts := atoms_spec (ws := wsX0_addSupport) B9.pre
  have hown : s.vm.findClass RX0 = some m.cls := findClass_of_methodNamed B9.named
  have hlocks := B9.notSynchronized
  subst hsz
  have hD := hD0.self (sz := s.heap.size)
  generalize hAe : va_A (qG B R N) s.heap.size = A at hD ⊢
  have hA : ∀ q : Nat, s.heap.size ≤ q → A q := fun q h => by rw [← hAe]; exact Or.inr h
  have hS : va_S A s.heap s.heap [] := va_S.rf
  have hl := lv_entry ([.ref (qA B 0 i), .ref (qA B 0 k), .int (nI 0)]) (n := 3) (Nat.le_of_ble_eq_true rfl)
  rw [lg_entry_eq]
  generalize (lg_sl ([.ref (qA B 0 i), .ref (qA B 0 k), .int (nI 0)]) ++ List.replicate (3 - (lg_sl ([.ref (qA B 0 i), .ref (qA B 0 k), .int (nI 0)])).length) Slot.unset).toArray = ls at hl ⊢
  have hl : lv_has ls 3 [(0, .ref (qA B 0 i)), (1, .ref (qA B 0 k)), (2, .int (nI 0))] := hl
  have hP : va_P D vwCl (qG B R N) s.heap := hP
  generalize hRe : (headSpec _ _).room = R9
  have hRf : R9.frames = 0 := by rw [← hRe]; rfl
  have hRc : R9.cells = 0 := by rw [← hRe]; rfl
  have hRs : R9.slots = 0 := by rw [← hRe]; rfl
  have hRl : R9.locals = 0 := by rw [← hRe]; rfl
  clear hRe
  refine lv_iload_n hx hb dX0_addSupport_0 rfl (lv_at hl 2 rfl) ?_
  refine lv_if_le (tgt := 50) hx hb dX0_addSupport_1 (by decide) (fun c_1 => ?_) (fun c_1 => absurd (Int32.le_refl _) c_1)
  exact W.vret hx hb hr (fun t ht hW => ⟨⟨(R, N), rfl, rfl, ⟨Nat.zero_le _, by rw [ht]; exact hP, va_K.moved hW.alike (hK.sub (tys' := []) [] rfl), hD⟩⟩, hS.F ht⟩) hS.2.2 dX0_addSupport_50
set_option maxHeartbeats 4000000 in
set_option maxRecDepth 100000 in
theorem c_addS1 (l : Launch) (D : zG) (sz : Nat) (B : qB) (R : qR0) (N : qN0) (i k x : Nat) (hi : i < 61) (hk : k < 61) (hx0 : 0 < x) (hx1 : x ≤ 1000000) (hm : N 0 i 15 < 36) : Met l yX0_addSupport wsX0_addSupport ({ frames := 0, cells := 0, slots := 0, locals := 0 }) (zPc D (qT B) (qG B R N) sz [.ref (qA B 0 i), .ref (qA B 0 k), .int (nI x)]) (va_Qv (fun (u : qR0 × qN0) => u = (qr R i (N 0 i 15) (some (qA B 0 k)), qp (qp N 1 i (N 0 i 15) x) 0 i 15 (N 0 i 15 + 1))) (zB D (va_A (qG B R N) sz) (fun _ => []) 0 (fun u => qG B u.1 u.2)) (va_A (qG B R N) sz)) 0 0 (va_A (qG B R N) sz) := by
  refine Met.ofW (cc := cX0_addSupport) (maxL := 3) (ret := none) (by decide) rfl ?_
  intro p e s m args below meth c s₁ B9 hml hv
  obtain ⟨rfl, hsz, hP, hK, hD0⟩ := hv
  have hx := B9.exec
  have hb := B9.bytes
  have hr := B9.returns
  have hts := atoms_spec (ws := wsX0_addSupport) B9.pre
  have hown : s.vm.findClass RX0 = some m.cls := findClass_of_methodNamed B9.named
  have hlocks := B9.notSynchronized
  subst hsz
  have hD := hD0.self (sz := s.heap.size)
  generalize hAe : va_A (qG B R N) s.heap.size = A at hD ⊢
  have hA : ∀ q : Nat, s.heap.size ≤ q → A q := fun q h => by rw [← hAe]; exact Or.inr h
  have hS : va_S A s.heap s.heap [] := va_S.rf
  have hl := lv_entry ([.ref (qA B 0 i), .ref (qA B 0 k), .int (nI x)]) (n := 3) (Nat.le_of_ble_eq_true rfl)
  rw [lg_entry_eq]
  generalize (lg_sl ([.ref (qA B 0 i), .ref (qA B 0 k), .int (nI x)]) ++ List.replicate (3 - (lg_sl ([.ref (qA B 0 i), .ref (qA B 0 k), .int (nI x)])).length) Slot.unset).toArray = ls at hl ⊢
  have hl : lv_has ls 3 [(0, .ref (qA B 0 i)), (1, .ref (qA B 0 k)), (2, .int (nI x))] := hl
  have hP : va_P D vwCl (qG B R N) s.heap := hP
  generalize hRe : (headSpec _ _).room = R9
  have hRf : R9.frames = 0 := by rw [← hRe]; rfl
  have hRc : R9.cells = 0 := by rw [← hRe]; rfl
  have hRs : R9.slots = 0 := by rw [← hRe]; rfl
  have hRl : R9.locals = 0 := by rw [← hRe]; rfl
  clear hRe
  refine lv_iload_n hx hb dX0_addSupport_0 rfl (lv_at hl 2 rfl) ?_
  refine lv_if_le (tgt := 50) hx hb dX0_addSupport_1 (by decide) (fun c_2 => absurd c_2 (fun h => absurd ((nI_leI (b := 0) (by omega) (by decide)).mp h) (by omega))) (fun c_2 => ?_)
  refine lv_aload_n hx hb dX0_addSupport_4 rfl (lv_at hl 0 rfl) ?_
  refine va_get (D := D) (ci := 0) (v := .int (nI (N 0 i 15))) (C := RX0) (T := TX0) (N := 18) hx hb hts (fun _ h9 => List.mem_cons_of_mem _ (List.mem_append_right _ h9)) hown hK hP (5 + i) (qG_i (by omega)) rfl 15 (by decide) (hts (.fieldLink RX0 58 "PalletStack$Item" "supportCount" "I") (List.mem_of_getElem? (i := 1) (by rfl))) (fun _ h9 => h9) rfl dX0_addSupport_5 ?_
  refine lv_if_lt (tgt := 50) hx hb dX0_addSupport_8 (by decide) (fun c_3 => absurd c_3 (nI_pos (by omega))) (fun c_3 => ?_)
  refine lv_aload_n hx hb dX0_addSupport_11 rfl (lv_at hl 0 rfl) ?_
  refine va_get (D := D) (ci := 0) (v := .int (nI (N 0 i 15))) (C := RX0) (T := TX0) (N := 18) hx hb hts (fun _ h9 => List.mem_cons_of_mem _ (List.mem_append_right _ h9)) hown hK hP (5 + i) (qG_i (by omega)) rfl 15 (by decide) (hts (.fieldLink RX0 58 "PalletStack$Item" "supportCount" "I") (List.mem_of_getElem? (i := 1) (by rfl))) (fun _ h9 => h9) rfl dX0_addSupport_12 ?_
  refine lv_bipush (v := 36) hx hb dX0_addSupport_15 (by decide) ?_
  refine lv_icmp_ge (tgt := 50) hx hb dX0_addSupport_17 (by decide) (fun c_4 => absurd c_4 (nI_ge (b := 36) (by omega) (by decide))) (fun c_4 => ?_)
  refine lv_aload_n hx hb dX0_addSupport_20 rfl (lv_at hl 0 rfl) ?_
  refine va_get (D := D) (ci := 0) (v := .ref (qA B 1 i)) (C := RX0) (T := TX0) (N := 18) hx hb hts (fun _ h9 => List.mem_cons_of_mem _ (List.mem_append_right _ h9)) hown hK hP (5 + i) (qG_i (by omega)) rfl 16 (by decide) (hts (.fieldLink RX0 61 "PalletStack$Item" "supports" "[LPalletStack$Item;") (List.mem_of_getElem? (i := 2) (by rfl))) (fun _ h9 => h9) rfl dX0_addSupport_21 ?_
  refine lv_aload_n hx hb dX0_addSupport_24 rfl (lv_at hl 0 rfl) ?_
  refine va_get (D := D) (ci := 0) (v := .int (nI (N 0 i 15))) (C := RX0) (T := TX0) (N := 18) hx hb hts (fun _ h9 => List.mem_cons_of_mem _ (List.mem_append_right _ h9)) hown hK hP (5 + i) (qG_i (by omega)) rfl 15 (by decide) (hts (.fieldLink RX0 58 "PalletStack$Item" "supportCount" "I") (List.mem_of_getElem? (i := 1) (by rfl))) (fun _ h9 => h9) rfl dX0_addSupport_25 ?_
  refine lv_aload_n hx hb dX0_addSupport_28 rfl (lv_at hl 1 rfl) ?_
  refine va_astq hx hb hK hP hD hS (66 + i) 1 (5 + k) 0 (qG_s (by omega)) rfl (qG_i (by omega)) rfl (vp_in_nI (n := (N 0 i 15)) (N := 36) (by omega) (by decide)) dX0_addSupport_29 (fun H locs hP hD hS => ?_)
  rw [nI_clamp (by omega), qG_ps (by omega)] at hP hD
  obtain ⟨R_5, hR_5⟩ : ∃ z : qR0, z = qr R i (N 0 i 15) (some (qA B 0 k)) := ⟨_, rfl⟩
  rw [← hR_5] at hP hD
  have hP : va_P D vwCl (qG B R_5 N) H := hP
  have hD : va_D A (qG B R_5 N) := hD
  refine lv_aload_n hx hb dX0_addSupport_30 rfl (lv_at hl 0 rfl) ?_
  refine va_get (D := D) (ci := 0) (v := .ref (qA B 2 i)) (C := RX0) (T := TX0) (N := 18) hx hb hts (fun _ h9 => List.mem_cons_of_mem _ (List.mem_append_right _ h9)) hown hK hP (5 + i) (qG_i (by omega)) rfl 17 (by decide) (hts (.fieldLink RX0 65 "PalletStack$Item" "supportCells" "[I") (List.mem_of_getElem? (i := 3) (by rfl))) (fun _ h9 => h9) rfl dX0_addSupport_31 ?_
  refine lv_aload_n hx hb dX0_addSupport_34 rfl (lv_at hl 0 rfl) ?_
  refine va_get (D := D) (ci := 0) (v := .int (nI (N 0 i 15))) (C := RX0) (T := TX0) (N := 18) hx hb hts (fun _ h9 => List.mem_cons_of_mem _ (List.mem_append_right _ h9)) hown hK hP (5 + i) (qG_i (by omega)) rfl 15 (by decide) (hts (.fieldLink RX0 58 "PalletStack$Item" "supportCount" "I") (List.mem_of_getElem? (i := 1) (by rfl))) (fun _ h9 => h9) rfl dX0_addSupport_35 ?_
  refine lv_iload_n hx hb dX0_addSupport_38 rfl (lv_at hl 2 rfl) ?_
  refine va_iast hx hb hK hP hD hS (127 + i) 2 (qG_c (by omega)) rfl (vp_in_nI (n := (N 0 i 15)) (N := 36) (by omega) (by decide)) dX0_addSupport_39 (fun H locs hP hD hS => ?_)
  rw [nI_clamp (by omega)] at hP hD
  rw [qG_pc (by omega)] at hP hD
  obtain ⟨N_6, hN_6⟩ : ∃ z : qN0, z = qp N 1 i (N 0 i 15) x := ⟨_, rfl⟩
  rw [← hN_6] at hP hD
  have hP : va_P D vwCl (qG B R_5 N_6) H := hP
  have hD : va_D A (qG B R_5 N_6) := hD
  refine lv_aload_n hx hb dX0_addSupport_40 rfl (lv_at hl 0 rfl) ?_
  refine lv_dup hx hb dX0_addSupport_41 rfl ?_
  refine va_get (D := D) (ci := 0) (v := .int (nI (N_6 0 i 15))) (C := RX0) (T := TX0) (N := 18) hx hb hts (fun _ h9 => List.mem_cons_of_mem _ (List.mem_append_right _ h9)) hown hK hP (5 + i) (qG_i (by omega)) rfl 15 (by decide) (hts (.fieldLink RX0 58 "PalletStack$Item" "supportCount" "I") (List.mem_of_getElem? (i := 1) (by rfl))) (fun _ h9 => h9) rfl dX0_addSupport_42 ?_
  refine lv_topi (fun v_7 ev_7 => ?_)
  obtain rfl : v_7 = (nI (N 0 i 15)) := ev_7.trans (congrArg nI (by simp [hN_6, qp]))
  refine lv_iconst (v := 1) hx hb dX0_addSupport_45 (by decide) ?_
  refine lv_iadd hx hb dX0_addSupport_46 ?_
  refine lv_topi (fun v_8 ev_8 => ?_)
  obtain rfl : v_8 = (nI (N 0 i 15 + 1)) := ev_8.trans (nI_add _ 1)
  refine va_put (D := D) (ci := 0) (v := .int (nI (N 0 i 15 + 1))) (ty := .int) (C := RX0) (T := TX0) (N := 18) hx hb hts (fun _ h9 => List.mem_cons_of_mem _ (List.mem_append_right _ h9)) tyX0 tyX0_ok nmX0 hown hK hP hD hS (5 + i) (qG_i (by omega)) rfl 15 (by decide) (hts (.fieldLink RX0 58 "PalletStack$Item" "supportCount" "I") (List.mem_of_getElem? (i := 1) (by rfl))) (fun _ h9 => h9) rfl (by decide +kernel) rfl rfl (Nat.le_of_ble_eq_true rfl) dX0_addSupport_47 (fun H locs hP hD hS => ?_)
  rw [qG_pi (by omega) (by decide)] at hP hD
  obtain ⟨N_9, hN_9⟩ : ∃ z : qN0, z = qp N_6 0 i 15 (N 0 i 15 + 1) := ⟨_, rfl⟩
  rw [← hN_9] at hP hD
  have hP : va_P D vwCl (qG B R_5 N_9) H := hP
  have hD : va_D A (qG B R_5 N_9) := hD
  exact W.vret hx hb hr (fun t ht hW => ⟨⟨(R_5, N_9), rfl, (by rw [hR_5, hN_9, hN_6]), ⟨Nat.zero_le _, by rw [ht]; exact hP, va_K.moved hW.alike (hK.sub (tys' := []) [] rfl), hD⟩⟩, hS.F ht⟩) hS.2.2 dX0_addSupport_50
set_option maxHeartbeats 4000000 in
set_option maxRecDepth 100000 in
theorem c_findS (l : Launch) (D : zG) (sz : Nat) (B : qB) (R : qR0) (N : qN0) (hO : qOK B N) (hM : qM N) (hlen : (qsp N 60 (N 4 1 5)).length ≤ 36) (hcm : ∀ k, k < N 4 1 5 → qcm N 60 k ≤ 1000000) : Met l yX3_findSupports wsX3_findSupports ({ frames := 2, cells := 0, slots := 0, locals := 45 }) (zPc D (qT B) (qG B R N) sz [.ref (qA B 5 0)]) (va_Qv (fun (u : qR0 × qN0) => u.2 0 60 15 = (qsp N 60 (N 4 1 5)).length ∧ (∀ j, j < (qsp N 60 (N 4 1 5)).length → u.1 60 j = some (qA B 0 ((qsp N 60 (N 4 1 5)).getD j 0)) ∧ u.2 1 60 j = qcm N 60 ((qsp N 60 (N 4 1 5)).getD j 0)) ∧ (∀ i, i ≠ 60 → u.1 i = R i) ∧ (∀ c i j, ¬ (c = 0 ∧ i = 60 ∧ j = 15) → ¬ (c = 1 ∧ i = 60) → u.2 c i j = N c i j) ∧ ∀ j, u.2 1 60 j ≤ 1000000) (zB D (va_A (qG B R N) sz) (fun _ => []) 0 (fun u => qG B u.1 u.2)) (va_A (qG B R N) sz)) 0 0 (va_A (qG B R N) sz) := by
  refine Met.ofW (cc := cX3_findSupports) (maxL := 3) (ret := none) (by decide) rfl ?_
  intro p e s m args below meth c s₁ B9 hml hv
  obtain ⟨rfl, hsz, hP, hK, hD0⟩ := hv
  have hx := B9.exec
  have hb := B9.bytes
  have hr := B9.returns
  have hts := atoms_spec (ws := wsX3_findSupports) B9.pre
  have hown : s.vm.findClass RX3 = some m.cls := findClass_of_methodNamed B9.named
  have hlocks := B9.notSynchronized
  subst hsz
  have hD := hD0.self (sz := s.heap.size)
  generalize hAe : va_A (qG B R N) s.heap.size = A at hD ⊢
  have hA : ∀ q : Nat, s.heap.size ≤ q → A q := fun q h => by rw [← hAe]; exact Or.inr h
  have hS : va_S A s.heap s.heap [] := va_S.rf
  have hl := lv_entry ([.ref (qA B 5 0)]) (n := 3) (Nat.le_of_ble_eq_true rfl)
  rw [lg_entry_eq]
  generalize (lg_sl ([.ref (qA B 5 0)]) ++ List.replicate (3 - (lg_sl ([.ref (qA B 5 0)])).length) Slot.unset).toArray = ls at hl ⊢
  have hl : lv_has ls 3 [(0, .ref (qA B 5 0))] := hl
  have hP : va_P D vwCl (qG B R N) s.heap := hP
  generalize hRe : (headSpec _ _).room = R9
  have hRf : R9.frames = 2 := by rw [← hRe]; rfl
  have hRc : R9.cells = 0 := by rw [← hRe]; rfl
  have hRs : R9.slots = 0 := by rw [← hRe]; rfl
  have hRl : R9.locals = 45 := by rw [← hRe]; rfl
  clear hRe
  have o8 := hO.2.2.2.2.2.2.2.1
  obtain ⟨n, hn⟩ : ∃ n, n = N 4 1 5 := ⟨_, rfl⟩
  rw [← hn] at hlen hcm o8 ⊢
  refine lv_aload_n hx hb dX3_findSupports_0 rfl (lv_at hl 0 rfl) ?_
  refine va_get (D := D) (ci := 3) (v := .ref (qA B 0 60)) (C := RX3) (T := TX3) (N := 14) hx hb hts (fun _ h9 => List.mem_cons_of_mem _ (List.mem_append_left _ (List.mem_append_right _ h9))) hown hK hP 0 rfl rfl 11 (by decide) (hts (.fieldLink RX3 52 "PalletStack" "trial" "LPalletStack$Item;") (List.mem_of_getElem? (i := 1) (by rfl))) (fun _ h9 => h9) rfl dX3_findSupports_1 ?_
  refine lv_iconst (v := 0) hx hb dX3_findSupports_4 (by decide) ?_
  refine va_put (D := D) (ci := 0) (v := .int (nI 0)) (ty := .int) (C := RX0) (T := TX0) (N := 18) hx hb hts (fun _ h9 => List.mem_cons_of_mem _ (List.mem_append_right _ h9)) tyX0 tyX0_ok nmX0 hown hK hP hD hS (5 + 60) (qG_i (by omega)) rfl 15 (by decide) (hts (.fieldLink RX3 211 "PalletStack$Item" "supportCount" "I") (List.mem_of_getElem? (i := 2) (by rfl))) (fun _ h9 => h9) rfl (by decide +kernel) rfl rfl (Nat.le_of_ble_eq_true rfl) dX3_findSupports_5 (fun H locs hP hD hS => ?_)
  rw [qG_pi (by omega) (by decide)] at hP hD
  obtain ⟨N_10, hN_10⟩ : ∃ z : qN0, z = qp N 0 60 15 0 := ⟨_, rfl⟩
  rw [← hN_10] at hP hD
  have hP : va_P D vwCl (qG B R N_10) H := hP
  have hD : va_D A (qG B R N_10) := hD
  refine lv_iconst (v := 0) hx hb dX3_findSupports_8 (by decide) ?_
  refine lv_istore_n (lv' := [(1, .int 0), (0, .ref (qA B 5 0))]) hx hb dX3_findSupports_9 rfl hl (by decide) rfl (fun ls hl => ?_)
  generalize hQe : MQ _ _ _ _ _ _ _ = Q
  have loop : ∀ (k i : Nat), i + k = n → ∀ (R1 : qR0) (N1 : qN0) (hN : N1 0 60 15 = (qsp N 60 i).length ∧ (∀ j, j < (qsp N 60 i).length → R1 60 j = some (qA B 0 ((qsp N 60 i).getD j 0)) ∧ N1 1 60 j = qcm N 60 ((qsp N 60 i).getD j 0)) ∧ (∀ i, i ≠ 60 → R1 i = R i) ∧ ∀ c i j, ¬ (c = 0 ∧ i = 60 ∧ j = 15) → ¬ (c = 1 ∧ i = 60) → N1 c i j = N c i j) (hMj : ∀ j, N1 1 60 j ≤ 1000000) (H : Heap) (locs : List Loc) (ls : Array Slot), va_P D vwCl (qG B R1 N1) H → va_D A (qG B R1 N1) → va_S A s.heap H locs → lv_has ls 3 [(1, .int (nI i)), (0, .ref (qA B 5 0))] → W p l e R9 s m ([.ref (qA B 5 0)] : List Value).toArray below meth c H locs 0 0 Q (F0 m 10 ls []) := by
    intro k
    induction k with
    | zero =>
      intro i hi R1 N1 hN hMj H locs ls hP hD hS hl
      obtain ⟨n1, n2, n3, n4⟩ := hN
      have f5 : N1 4 1 5 = n := by rw [n4 _ _ _ (by omega) (by omega), hn]
      have hO1 : qOK B N1 := qOKs hO (fun j _ _ => n4 _ _ _ (by omega) (by omega)) (fun j _ => n4 _ _ _ (by omega) (by omega))
      obtain rfl : n = i := by omega
      have hP : va_P D vwCl (qG B R1 N1) H := hP
      have hD : va_D A (qG B R1 N1) := hD
      refine lv_iload_n hx hb dX3_findSupports_10 rfl (lv_at hl 0 rfl) ?_
      refine lv_aload_n hx hb dX3_findSupports_11 rfl (lv_at hl 1 rfl) ?_
      refine va_get (D := D) (ci := 3) (v := .int (nI (N1 4 1 5))) (C := RX3) (T := TX3) (N := 14) hx hb hts (fun _ h9 => List.mem_cons_of_mem _ (List.mem_append_left _ (List.mem_append_right _ h9))) hown hK hP 0 rfl rfl 7 (by decide) (hts (.fieldLink RX3 38 "PalletStack" "cameCount" "I") (List.mem_of_getElem? (i := 3) (by rfl))) (fun _ h9 => h9) rfl dX3_findSupports_12 ?_
      refine lv_topi (fun v_11 ev_11 => ?_)
      obtain rfl : v_11 = (nI n) := ev_11.trans (by rw [f5])
      refine lv_icmp_ge (tgt := 64) hx hb dX3_findSupports_15 (by decide) (fun c_12 => ?_) (fun c_12 => absurd (Int32.le_refl _) c_12)
      rw [← hQe]
      exact W.vret hx hb hr (fun t ht hW => ⟨⟨(R1, N1), rfl, ⟨n1, n2, n3, n4, hMj⟩, ⟨Nat.zero_le _, by rw [ht]; exact hP, va_K.moved hW.alike (hK.sub (tys' := []) [] rfl), hD⟩⟩, hS.F ht⟩) hS.2.2 dX3_findSupports_64
    | succ k ih =>
      intro i hi R1 N1 hN hMj H locs ls hP hD hS hl
      obtain ⟨n1, n2, n3, n4⟩ := hN
      have f5 : N1 4 1 5 = n := by rw [n4 _ _ _ (by omega) (by omega), hn]
      have hO1 : qOK B N1 := qOKs hO (fun j _ _ => n4 _ _ _ (by omega) (by omega)) (fun j _ => n4 _ _ _ (by omega) (by omega))
      have b9 := hM 0 i 9
      have b8 := hM 0 60 8
      have hP : va_P D vwCl (qG B R1 N1) H := hP
      have hD : va_D A (qG B R1 N1) := hD
      refine lv_iload_n hx hb dX3_findSupports_10 rfl (lv_at hl 0 rfl) ?_
      refine lv_aload_n hx hb dX3_findSupports_11 rfl (lv_at hl 1 rfl) ?_
      refine va_get (D := D) (ci := 3) (v := .int (nI (N1 4 1 5))) (C := RX3) (T := TX3) (N := 14) hx hb hts (fun _ h9 => List.mem_cons_of_mem _ (List.mem_append_left _ (List.mem_append_right _ h9))) hown hK hP 0 rfl rfl 7 (by decide) (hts (.fieldLink RX3 38 "PalletStack" "cameCount" "I") (List.mem_of_getElem? (i := 3) (by rfl))) (fun _ h9 => h9) rfl dX3_findSupports_12 ?_
      refine lv_topi (fun v_13 ev_13 => ?_)
      obtain rfl : v_13 = (nI n) := ev_13.trans (by rw [f5])
      refine lv_icmp_ge (tgt := 64) hx hb dX3_findSupports_15 (by decide) (fun c_14 => absurd c_14 (nI_ge (by omega) (by omega))) (fun c_14 => ?_)
      refine lv_aload_n hx hb dX3_findSupports_18 rfl (lv_at hl 1 rfl) ?_
      refine lv_iload_n hx hb dX3_findSupports_19 rfl (lv_at hl 0 rfl) ?_
      refine zrdVq2 (As := [.int (nI i)]) (rest := []) (wc := qG B R1 N1) ⟨hx, hb, hml, hown, hts⟩ (c_itemOf l D _ B R1 N1 i (by omega) hO1) (cwV 1 hts gX3_findSupports_X3_itemOf rfl rfl rfl (by decide +kernel) ⟨by rw [hRf]; exact Nat.le_of_ble_eq_true rfl, by rw [hRl]; exact Nat.le_of_ble_eq_true rfl⟩) hK hP hD [0, 1, 2, 3] rfl (ci := 3) (q0 := 0) rfl rfl rfl hl.1 rfl (Nat.le_of_ble_eq_true rfl) dX3_findSupports_20 ⟨by omega, by omega⟩ (fun r_15 hr_15 => ?_)
      refine W.eq (g2 := F0 m 23 ls [.ref (qA B 0 i)]) (by rw [hr_15]; rfl) ?_
      refine lv_astore_n (lv' := [(2, .ref (qA B 0 i)), (1, .int (nI i)), (0, .ref (qA B 5 0))]) hx hb dX3_findSupports_23 rfl hl (by decide) rfl (fun ls hl => ?_)
      refine lv_aload_n hx hb dX3_findSupports_24 rfl (lv_at hl 0 rfl) ?_
      refine lv_ifnull hx hb dX3_findSupports_25 ?_
      refine lv_aload_n hx hb dX3_findSupports_28 rfl (lv_at hl 0 rfl) ?_
      refine va_get (D := D) (ci := 0) (v := .int (nI (N1 0 i 9))) (C := RX0) (T := TX0) (N := 18) hx hb hts (fun _ h9 => List.mem_cons_of_mem _ (List.mem_append_right _ h9)) hown hK hP (5 + i) (qG_i (by omega)) rfl 9 (by decide) (hts (.fieldLink RX3 134 "PalletStack$Item" "top" "I") (List.mem_of_getElem? (i := 4) (by rfl))) (fun _ h9 => h9) rfl dX3_findSupports_29 ?_
      refine lv_topi (fun v_17 ev_17 => ?_)
      obtain rfl : v_17 = (nI (N 0 i 9)) := ev_17.trans (by rw [n4 _ _ _ (by omega) (by omega)])
      refine lv_aload_n hx hb dX3_findSupports_32 rfl (lv_at hl 2 rfl) ?_
      refine va_get (D := D) (ci := 3) (v := .ref (qA B 0 60)) (C := RX3) (T := TX3) (N := 14) hx hb hts (fun _ h9 => List.mem_cons_of_mem _ (List.mem_append_left _ (List.mem_append_right _ h9))) hown hK hP 0 rfl rfl 11 (by decide) (hts (.fieldLink RX3 52 "PalletStack" "trial" "LPalletStack$Item;") (List.mem_of_getElem? (i := 1) (by rfl))) (fun _ h9 => h9) rfl dX3_findSupports_33 ?_
      refine va_get (D := D) (ci := 0) (v := .int (nI (N1 0 60 8))) (C := RX0) (T := TX0) (N := 18) hx hb hts (fun _ h9 => List.mem_cons_of_mem _ (List.mem_append_right _ h9)) hown hK hP (5 + 60) (qG_i (by omega)) rfl 8 (by decide) (hts (.fieldLink RX3 131 "PalletStack$Item" "bottom" "I") (List.mem_of_getElem? (i := 5) (by rfl))) (fun _ h9 => h9) rfl dX3_findSupports_36 ?_
      refine lv_topi (fun v_18 ev_18 => ?_)
      obtain rfl : v_18 = (nI (N 0 60 8)) := ev_18.trans (by rw [n4 _ _ _ (by omega) (by omega)])
      have hM1 : qM N1 := fun c i j => by
        by_cases h1 : c = 0 ∧ i = 60 ∧ j = 15
        · obtain ⟨rfl, rfl, rfl⟩ := h1; rw [n1]; exact Nat.le_trans (Nat.le_trans (qfs_len (by omega)) hlen) (by decide)
        · by_cases h2 : c = 1 ∧ i = 60
          · obtain ⟨rfl, rfl⟩ := h2; exact hMj j
          · rw [n4 _ _ _ h1 h2]; exact hM c i j
      refine lv_icmp_ne (tgt := 58) hx hb dX3_findSupports_39 (by decide) (fun c_19 => ?_) (fun c_19 => ?_)
      · have h_b := True.intro
        have k_20 : ¬ ((N 0 i 9) = (N 0 60 8)) := fun h9 => c_19 ((qeq (a := (N 0 i 9)) (b := (N 0 60 8)) (by omega) (by omega)).mpr h9)
        have hp : qPk N 60 i = false := by
          cases h9 : qPk N 60 i
          · rfl
          · exact absurd (qPk_t.mp h9).1 k_20
        have hs : qsp N 60 (i + 1) = qsp N 60 i := qfs_skip hp
        refine lv_iinc (v := (nI (i + 1))) (lv' := [(1, .int (nI (i + 1))), (2, .ref (qA B 0 i)), (0, .ref (qA B 5 0))]) hx hb dX3_findSupports_58 hl (k := 1) rfl (nI_1 i) (by decide) rfl (fun ls hl => ?_)
        refine lv_goto (tgt := 10) hx hb dX3_findSupports_61 (by decide) ?_
        have hl := lv_sub hl (l' := [(1, .int (nI (i + 1))), (0, .ref (qA B 5 0))]) [0, 2] rfl
        refine ih (i + 1) (by omega) R1 N1 (by rw [hs]; exact ⟨n1, n2, n3, n4⟩) hMj H locs ls hP hD hS hl
      · have h_b := True.intro
        have k_21 : (N 0 i 9) = (N 0 60 8) := (qeq (a := (N 0 i 9)) (b := (N 0 60 8)) (by omega) (by omega)).mp c_19
        refine lv_aload_n hx hb dX3_findSupports_42 rfl (lv_at hl 2 rfl) ?_
        refine va_get (D := D) (ci := 3) (v := .ref (qA B 0 60)) (C := RX3) (T := TX3) (N := 14) hx hb hts (fun _ h9 => List.mem_cons_of_mem _ (List.mem_append_left _ (List.mem_append_right _ h9))) hown hK hP 0 rfl rfl 11 (by decide) (hts (.fieldLink RX3 52 "PalletStack" "trial" "LPalletStack$Item;") (List.mem_of_getElem? (i := 1) (by rfl))) (fun _ h9 => h9) rfl dX3_findSupports_43 ?_
        refine lv_aload_n hx hb dX3_findSupports_46 rfl (lv_at hl 0 rfl) ?_
        refine lv_aload_n hx hb dX3_findSupports_47 rfl (lv_at hl 2 rfl) ?_
        refine va_get (D := D) (ci := 3) (v := .ref (qA B 0 60)) (C := RX3) (T := TX3) (N := 14) hx hb hts (fun _ h9 => List.mem_cons_of_mem _ (List.mem_append_left _ (List.mem_append_right _ h9))) hown hK hP 0 rfl rfl 11 (by decide) (hts (.fieldLink RX3 52 "PalletStack" "trial" "LPalletStack$Item;") (List.mem_of_getElem? (i := 1) (by rfl))) (fun _ h9 => h9) rfl dX3_findSupports_48 ?_
        refine lv_aload_n hx hb dX3_findSupports_51 rfl (lv_at hl 0 rfl) ?_
        refine zrdV2 (As := [.ref (qA B 0 i)]) (rest := [.ref (qA B 0 i), .ref (qA B 0 60)]) (wc := qG B R1 N1) ⟨hx, hb, hml, hown, hts⟩ (c_common l D _ B R1 N1 60 i (by omega) (by omega) hM1) (cwV 1 hts gX3_findSupports_X0_cellsInCommon rfl rfl rfl (by decide +kernel) ⟨by rw [hRf]; exact Nat.le_of_ble_eq_true rfl, by rw [hRl]; exact Nat.le_of_ble_eq_true rfl⟩) hK hP hD [0, 1, 2, 3] rfl (ci := 0) (q0 := (5 + 60)) rfl (qG_i (by omega)) rfl hl.1 rfl (Nat.le_of_ble_eq_true rfl) dX3_findSupports_52 ⟨by omega, by omega⟩ (fun r_22 hr_22 => ?_)
        refine lv_topi (fun v_23 ev_23 => ?_)
        obtain rfl : v_23 = (nI (qcm N 60 i)) := ev_23.trans (hr_22.trans (by unfold qcm; rw [n4 0 60 4 (by omega) (by omega), n4 0 60 5 (by omega) (by omega), n4 0 60 6 (by omega) (by omega), n4 0 60 7 (by omega) (by omega), n4 0 i 4 (by omega) (by omega), n4 0 i 5 (by omega) (by omega), n4 0 i 6 (by omega) (by omega), n4 0 i 7 (by omega) (by omega)]))
        by_cases hq : qcm N 60 i = 0
        · have h_b := True.intro
          rw [hq]
          refine qcallvV (As := [.ref (qA B 0 i), .int (nI 0)]) (rest := []) (ws := qG B R1 N1) ⟨hx, hb, hml, hown, hts⟩ (c_addS0 l D _ B R1 N1 60 i (by omega)) (cwV 2 hts gX3_findSupports_X0_addSupport rfl rfl rfl (by decide +kernel) ⟨by rw [hRf]; exact Nat.le_of_ble_eq_true rfl, by rw [hRl]; exact Nat.le_of_ble_eq_true rfl⟩) hK hP hD hS hA [0, 1, 2, 3] rfl (ci := 0) (q0 := (5 + 60)) rfl (qG_i (by omega)) rfl hl.1 rfl (Nat.le_of_ble_eq_true rfl) dX3_findSupports_55 ⟨by omega, by omega⟩ (fun u_25 H locs hwu_25 hP hD hS => ?_)
          subst hwu_25
          have hP : va_P D vwCl (qG B R1 N1) H := hP
          have hD : va_D A (qG B R1 N1) := hD
          have hp : qPk N 60 i = false := by
            cases h9 : qPk N 60 i
            · rfl
            · have := (qPk_t.mp h9).2; omega
          have hs : qsp N 60 (i + 1) = qsp N 60 i := qfs_skip hp
          refine lv_iinc (v := (nI (i + 1))) (lv' := [(1, .int (nI (i + 1))), (2, .ref (qA B 0 i)), (0, .ref (qA B 5 0))]) hx hb dX3_findSupports_58 hl (k := 1) rfl (nI_1 i) (by decide) rfl (fun ls hl => ?_)
          refine lv_goto (tgt := 10) hx hb dX3_findSupports_61 (by decide) ?_
          have hl := lv_sub hl (l' := [(1, .int (nI (i + 1))), (0, .ref (qA B 5 0))]) [0, 2] rfl
          refine ih (i + 1) (by omega) R1 N1 (by rw [hs]; exact ⟨n1, n2, n3, n4⟩) hMj H locs ls hP hD hS hl
        · have h_b := True.intro
          have hp : qPk N 60 i = true := qPk_t.mpr ⟨k_21, by omega⟩
          have hs : qsp N 60 (i + 1) = qsp N 60 i ++ [i] := qfs_app hp
          have hl2 : (qsp N 60 (i + 1)).length ≤ 36 := Nat.le_trans (qfs_len (by omega)) hlen
          rw [hs, List.length_append] at hl2
          have hl3 : (qsp N 60 i).length + 1 ≤ 36 := hl2
          have hcm := hcm i (by omega)
          refine qcallvV (As := [.ref (qA B 0 i), .int (nI (qcm N 60 i))]) (rest := []) (ws := qG B R1 N1) ⟨hx, hb, hml, hown, hts⟩ (c_addS1 l D _ B R1 N1 60 i (qcm N 60 i) (by omega) (by omega) (by omega) hcm (by omega)) (cwV 2 hts gX3_findSupports_X0_addSupport rfl rfl rfl (by decide +kernel) ⟨by rw [hRf]; exact Nat.le_of_ble_eq_true rfl, by rw [hRl]; exact Nat.le_of_ble_eq_true rfl⟩) hK hP hD hS hA [0, 1, 2, 3] rfl (ci := 0) (q0 := (5 + 60)) rfl (qG_i (by omega)) rfl hl.1 rfl (Nat.le_of_ble_eq_true rfl) dX3_findSupports_55 ⟨by omega, by omega⟩ (fun u_27 H locs hwu_27 hP hD hS => ?_)
          obtain ⟨R2, N2⟩ := u_27
          simp only [Prod.mk.injEq] at hwu_27
          obtain ⟨e1, e2⟩ := hwu_27
          have hP : va_P D vwCl (qG B R2 N2) H := hP
          have hD : va_D A (qG B R2 N2) := hD
          have g1 : N2 0 60 15 = (qsp N 60 i).length + 1 := by rw [e2, qp_eq, n1]
          have g2 : ∀ j, N2 1 60 j = if j = (qsp N 60 i).length then qcm N 60 i else N1 1 60 j := fun j => by rw [e2, qp_c _ _ _ _ _ _ (by decide), n1]; simp [qp]
          have g3 : ∀ j, R2 60 j = if j = (qsp N 60 i).length then some (qA B 0 i) else R1 60 j := fun j => by rw [e1, n1]; simp [qr]
          have g4 : ∀ i, i ≠ 60 → R2 i = R i := fun i hi => by rw [← n3 i hi, e1]; funext j; simp [qr, hi]
          have g5 : ∀ c i j, ¬ (c = 0 ∧ i = 60 ∧ j = 15) → ¬ (c = 1 ∧ i = 60) → N2 c i j = N c i j := fun c i j h1 h2 => by rw [← n4 c i j h1 h2, e2]; unfold qp; rw [if_neg h1, if_neg (fun h9 => h2 ⟨h9.1, h9.2.1⟩)]
          refine lv_iinc (v := (nI (i + 1))) (lv' := [(1, .int (nI (i + 1))), (2, .ref (qA B 0 i)), (0, .ref (qA B 5 0))]) hx hb dX3_findSupports_58 hl (k := 1) rfl (nI_1 i) (by decide) rfl (fun ls hl => ?_)
          refine lv_goto (tgt := 10) hx hb dX3_findSupports_61 (by decide) ?_
          have hl := lv_sub hl (l' := [(1, .int (nI (i + 1))), (0, .ref (qA B 5 0))]) [0, 2] rfl
          refine ih (i + 1) (by omega) R2 N2 ⟨?_, fun j hj => ?_, g4, g5⟩ (fun j => by rw [g2]; split; exact hcm; exact hMj j) H locs ls hP hD hS hl
          · rw [hs, List.length_append, g1]; rfl
          · rw [hs, List.length_append] at hj; have hj : j < (qsp N 60 i).length + 1 := hj
            rw [hs, g2, g3]
            by_cases h9 : j = (qsp N 60 i).length
            · subst h9; rw [if_pos rfl, if_pos rfl, qgd_r]; exact ⟨rfl, rfl⟩
            · rw [if_neg h9, if_neg h9, qgd_l (by omega)]; exact n2 j (by omega)
  refine loop n 0 (by omega) R N_10 ⟨by rw [hN_10]; exact qp_eq _ _ _ _ _, fun j hj => absurd hj (Nat.not_lt_zero j), fun _ _ => rfl, fun c i j h1 h2 => by rw [hN_10]; exact if_neg h1⟩ (fun j => by rw [hN_10, qp_c _ _ _ _ _ _ (by decide)]; exact hM 1 60 j) H locs ls hP hD hS hl
set_option maxHeartbeats 4000000 in
set_option maxRecDepth 100000 in
theorem c_tooMuch (l : Launch) (D : zG) (sz : Nat) (B : qB) (R : qR0) (N : qN0) (hO : qOK B N) (hM : qM N) (S : Nat → Nat → Nat) (hS9 : qS9 B R N S (N 4 1 5)) (hT9 : N 0 60 15 ≤ 36 ∧ 0 < N 0 60 10 ∧ N 0 60 1 ≤ 1000 ∧ ∀ j, j < N 0 60 15 → R 60 j = some (qA B 0 (S 60 j)) ∧ S 60 j < N 4 1 5 ∧ N 1 60 j ≤ 36) (hLb : ∀ k i, k ≤ N 4 1 5 + 1 → i < N 4 1 5 + 1 → qLN (qSx S (N 4 1 5)) (qx N (N 4 1 5)) (N 4 1 5 + 1) k i ≤ 1000000) : Met l yX3_isTooMuchLoad wsX3_isTooMuchLoad ({ frames := 2, cells := 0, slots := 0, locals := 45 }) (zPc D (qT B) (qG B R N) sz [.ref (qA B 5 0)]) (va_Qi (fun (r : Int32) (u : qN0) => (∀ c i j, ¬ (c = 0 ∧ j = 12 ∧ (i < N 4 1 5 ∨ i = 60)) → u c i j = N c i j) ∧ (∀ i, u 0 i 12 ≤ 1000000) ∧ (r = 0 → ∀ i, i < N 4 1 5 → qLN (qSx S (N 4 1 5)) (qx N (N 4 1 5)) (N 4 1 5 + 1) (N 4 1 5 + 1) i ≤ N 0 i 2)) (zB D (va_A (qG B R N) sz) (fun _ => []) 0 (fun u => qG B R u)) (va_A (qG B R N) sz)) 0 0 (va_A (qG B R N) sz) := by
  refine Met.ofW (cc := cX3_isTooMuchLoad) (maxL := 3) (ret := (some .boolean)) (by decide) rfl ?_
  intro p e s m args below meth c s₁ B9 hml hv
  obtain ⟨rfl, hsz, hP, hK, hD0⟩ := hv
  have hx := B9.exec
  have hb := B9.bytes
  have hr := B9.returns
  have hts := atoms_spec (ws := wsX3_isTooMuchLoad) B9.pre
  have hown : s.vm.findClass RX3 = some m.cls := findClass_of_methodNamed B9.named
  have hlocks := B9.notSynchronized
  subst hsz
  have hD := hD0.self (sz := s.heap.size)
  generalize hAe : va_A (qG B R N) s.heap.size = A at hD ⊢
  have hA : ∀ q : Nat, s.heap.size ≤ q → A q := fun q h => by rw [← hAe]; exact Or.inr h
  have hS : va_S A s.heap s.heap [] := va_S.rf
  have hl := lv_entry ([.ref (qA B 5 0)]) (n := 3) (Nat.le_of_ble_eq_true rfl)
  rw [lg_entry_eq]
  generalize (lg_sl ([.ref (qA B 5 0)]) ++ List.replicate (3 - (lg_sl ([.ref (qA B 5 0)])).length) Slot.unset).toArray = ls at hl ⊢
  have hl : lv_has ls 3 [(0, .ref (qA B 5 0))] := hl
  have hP : va_P D vwCl (qG B R N) s.heap := hP
  generalize hRe : (headSpec _ _).room = R9
  have hRf : R9.frames = 2 := by rw [← hRe]; rfl
  have hRc : R9.cells = 0 := by rw [← hRe]; rfl
  have hRs : R9.slots = 0 := by rw [← hRe]; rfl
  have hRl : R9.locals = 45 := by rw [← hRe]; rfl
  clear hRe
  have o8 := hO.2.2.2.2.2.2.2.1
  refine lv_aload_n hx hb dX3_isTooMuchLoad_0 rfl (lv_at hl 0 rfl) ?_
  refine qcallvV (As := []) (rest := []) (ws := qG B R N) ⟨hx, hb, hml, hown, hts⟩ (c_forget l D _ B R N hO) (cwV 0 hts gX3_isTooMuchLoad_X3_forgetNextLoads rfl rfl rfl (by decide +kernel) ⟨by rw [hRf]; exact Nat.le_of_ble_eq_true rfl, by rw [hRl]; exact Nat.le_of_ble_eq_true rfl⟩) hK hP hD hS hA [0, 1, 2, 3] rfl (ci := 3) (q0 := 0) rfl rfl rfl hl.1 rfl (Nat.le_of_ble_eq_true rfl) dX3_isTooMuchLoad_1 ⟨by omega, by omega⟩ (fun u_29 H locs hwu_29 hP hD hS => ?_)
  obtain ⟨n, hn⟩ : ∃ n, n = N 4 1 5 := ⟨_, rfl⟩
  rw [← hn] at hwu_29 hS9 hT9 hLb o8 ⊢
  have hP : va_P D vwCl (qG B R u_29) H := hP
  have hD : va_D A (qG B R u_29) := hD
  obtain ⟨t1, t2, t3, t4⟩ := hT9
  refine lv_aload_n hx hb dX3_isTooMuchLoad_4 rfl (lv_at hl 0 rfl) ?_
  refine va_get (D := D) (ci := 3) (v := .ref (qA B 0 60)) (C := RX3) (T := TX3) (N := 14) hx hb hts (fun _ h9 => List.mem_cons_of_mem _ (List.mem_append_left _ (List.mem_append_right _ h9))) hown hK hP 0 rfl rfl 11 (by decide) (hts (.fieldLink RX3 52 "PalletStack" "trial" "LPalletStack$Item;") (List.mem_of_getElem? (i := 1) (by rfl))) (fun _ h9 => h9) rfl dX3_isTooMuchLoad_5 ?_
  refine lv_iconst (v := 0) hx hb dX3_isTooMuchLoad_8 (by decide) ?_
  refine va_put (D := D) (ci := 0) (v := .int (nI 0)) (ty := .int) (C := RX0) (T := TX0) (N := 18) hx hb hts (fun _ h9 => List.mem_cons_of_mem _ (List.mem_append_right _ h9)) tyX0 tyX0_ok nmX0 hown hK hP hD hS (5 + 60) (qG_i (by omega)) rfl 12 (by decide) (hts (.fieldLink RX3 233 "PalletStack$Item" "nextLoad" "I") (List.mem_of_getElem? (i := 2) (by rfl))) (fun _ h9 => h9) rfl (by decide +kernel) rfl rfl (Nat.le_of_ble_eq_true rfl) dX3_isTooMuchLoad_9 (fun H locs hP hD hS => ?_)
  rw [qG_pi (by omega) (by decide)] at hP hD
  obtain ⟨N_30, hN_30⟩ : ∃ z : qN0, z = qp u_29 0 60 12 0 := ⟨_, rfl⟩
  rw [← hN_30] at hP hD
  have hP : va_P D vwCl (qG B R N_30) H := hP
  have hD : va_D A (qG B R N_30) := hD
  have e2 : ∀ c i j, c ≠ 0 ∨ j ≠ 12 → N_30 c i j = N c i j := fun c i j h => by rw [hN_30]; unfold qp; rw [if_neg (fun h9 => by omega), hwu_29]; exact qz_ne _ _ (by omega)
  have e3 : ∀ i, i < n → N_30 0 i 12 = 0 := fun i hi => by rw [hN_30, qp_i _ _ _ _ _ _ (show i ≠ 60 by omega), hwu_29]; unfold qz; rw [if_pos ⟨rfl, rfl, hi⟩]
  have e4 : N_30 0 60 12 = 0 := by rw [hN_30]; exact qp_eq _ _ _ _ _
  have hM2 : qM N_30 := by rw [hN_30]; exact qM_p (by rw [hwu_29]; exact qz_M hM) (by decide)
  have e6 : ∀ i, n ≤ i → i ≠ 60 → N_30 0 i 12 = N 0 i 12 := fun i hi h6 => by rw [hN_30, qp_i _ _ _ _ _ _ h6, hwu_29]; exact qz_ne _ _ (by omega)
  have hP : va_P D vwCl (qG B R N_30) H := hP
  have hD : va_D A (qG B R N_30) := hD
  refine lv_aload_n hx hb dX3_isTooMuchLoad_12 rfl (lv_at hl 0 rfl) ?_
  refine va_get (D := D) (ci := 3) (v := .ref (qA B 0 60)) (C := RX3) (T := TX3) (N := 14) hx hb hts (fun _ h9 => List.mem_cons_of_mem _ (List.mem_append_left _ (List.mem_append_right _ h9))) hown hK hP 0 rfl rfl 11 (by decide) (hts (.fieldLink RX3 52 "PalletStack" "trial" "LPalletStack$Item;") (List.mem_of_getElem? (i := 1) (by rfl))) (fun _ h9 => h9) rfl dX3_isTooMuchLoad_13 ?_
  refine qcallvV (As := []) (rest := []) (ws := qG B R N_30) ⟨hx, hb, hml, hown, hts⟩ (c_pass l D _ B R N_30 60 (by omega) (S 60) (fun j hj => by rw [e2 _ _ _ (by omega)] at hj; obtain ⟨a1, a2, a3⟩ := t4 j hj; exact ⟨a1, by omega, by omega, by rw [e2 _ _ _ (by omega)]; exact a3⟩) (by rw [e2 _ _ _ (by omega)]; exact t1) (by rw [e2 _ _ _ (by omega)]; exact t2) hM2 (by rw [e2 _ _ _ (by omega)]; exact t3)) (cwV 0 hts gX3_isTooMuchLoad_X0_passLoadDown rfl rfl rfl (by decide +kernel) ⟨by rw [hRf]; exact Nat.le_of_ble_eq_true rfl, by rw [hRl]; exact Nat.le_of_ble_eq_true rfl⟩) hK hP hD hS hA [0, 1, 2, 3] rfl (ci := 0) (q0 := (5 + 60)) rfl (qG_i (by omega)) rfl hl.1 rfl (Nat.le_of_ble_eq_true rfl) dX3_isTooMuchLoad_16 ⟨by omega, by omega⟩ (fun u_32 H locs hwu_32 hP hD hS => ?_)
  have hP : va_P D vwCl (qG B R u_32) H := hP
  have hD : va_D A (qG B R u_32) := hD
  rw [e2 0 60 1 (by omega), e2 0 60 10 (by omega), e4, e2 0 60 15 (by omega), show N_30 1 60 = N 1 60 by funext j; exact e2 _ _ _ (by omega)] at hwu_32
  obtain ⟨Sx, hSx⟩ : ∃ z, z = qSx S n := ⟨_, rfl⟩
  obtain ⟨Nx, hNx⟩ : ∃ z, z = qx N n := ⟨_, rfl⟩
  rw [← hSx, ← hNx] at hLb ⊢
  have x1 : ∀ i, i < n → Nx 0 i = N 0 i ∧ Nx 1 i = N 1 i ∧ Sx i = S i := fun i hi => by rw [hNx, hSx]; exact ⟨qx_i _ _ (by omega), qx_i _ _ (by omega), qSx_i _ (by omega)⟩
  have x2 : Nx 0 n = N 0 60 ∧ Nx 1 n = N 1 60 ∧ Sx n = S 60 := by rw [hNx, hSx]; exact ⟨qx_n _ _ _ (by decide), qx_n _ _ _ (by decide), qSx_n _ _⟩
  have y1 : ∀ i, i < n → u_32 0 i 12 = qLN Sx Nx (n + 1) 1 i := fun i hi => by
    rw [hwu_32, qcol_eq, qLN_1, show n + 1 - 1 - 0 = n by omega, x2.1, x2.2.1, x2.2.2]
    exact qPs_congr (n := n) (fun j hj => (t4 j hj).2.1) (fun _ _ => rfl) (fun i9 h9 => e3 i9 h9) i hi
  have y2 : ∀ c i j, ¬ (c = 0 ∧ j = 12 ∧ (i < n ∨ i = 60)) → u_32 c i j = N c i j := fun c i j h => by
    by_cases h9 : c = 0 ∧ j = 12
    · obtain ⟨rfl, rfl⟩ := h9; rw [hwu_32, qcol_eq, qPs_ne (fun j9 h9 => by have := (t4 j9 h9).2.1; omega), e6 i (by omega) (by omega)]
    · rw [hwu_32, qcol_ne _ _ (by omega)]; exact e2 _ _ _ (by omega)
  have y3 : u_32 0 60 12 = 0 := by rw [hwu_32, qcol_eq, qPs_ne (fun j9 h9 => by have := (t4 j9 h9).2.1; omega)]; exact e4
  have e5 : u_32 4 1 5 = n := by rw [y2 _ _ _ (by omega), hn]
  refine lv_aload_n hx hb dX3_isTooMuchLoad_19 rfl (lv_at hl 0 rfl) ?_
  refine va_get (D := D) (ci := 3) (v := .int (nI (u_32 4 1 5))) (C := RX3) (T := TX3) (N := 14) hx hb hts (fun _ h9 => List.mem_cons_of_mem _ (List.mem_append_left _ (List.mem_append_right _ h9))) hown hK hP 0 rfl rfl 7 (by decide) (hts (.fieldLink RX3 38 "PalletStack" "cameCount" "I") (List.mem_of_getElem? (i := 3) (by rfl))) (fun _ h9 => h9) rfl dX3_isTooMuchLoad_20 ?_
  refine lv_topi (fun v_33 ev_33 => ?_)
  obtain rfl : v_33 = (nI n) := ev_33.trans (by rw [e5])
  refine lv_iconst (v := 1) hx hb dX3_isTooMuchLoad_23 (by decide) ?_
  refine lv_isub hx hb dX3_isTooMuchLoad_24 ?_
  refine lv_istore_n (lv' := [(1, .int (nI n - 1)), (0, .ref (qA B 5 0))]) hx hb dX3_isTooMuchLoad_25 rfl hl (by decide) rfl (fun ls hl => ?_)
  generalize hQe : MQ _ _ _ _ _ _ _ = Q
  have hl := lv_sub hl (l' := [(1, .int (nI n - 1)), (0, .ref (qA B 5 0))]) [0, 1] rfl
  have loop : ∀ (r9 k : Nat), k + r9 = n + 1 → 0 < k → ∀ (N1 : qN0) (hN : (∀ c i j, ¬ (c = 0 ∧ j = 12 ∧ (i < n ∨ i = 60)) → N1 c i j = N c i j) ∧ (∀ i, i < n → N1 0 i 12 = qLN Sx Nx (n + 1) k i) ∧ N1 0 60 12 = 0 ∧ ∀ i, i < n → n + 1 ≤ i + k → qLN Sx Nx (n + 1) k i ≤ N 0 i 2) (H : Heap) (locs : List Loc) (ls : Array Slot), va_P D vwCl (qG B R N1) H → va_D A (qG B R N1) → va_S A s.heap H locs → lv_has ls 3 [(1, .int (nI (n + 1 - k) - 1)), (0, .ref (qA B 5 0))] → W p l e R9 s m ([.ref (qA B 5 0)] : List Value).toArray below meth c H locs 0 0 Q (F0 m 26 ls []) := by
    intro r9
    induction r9 with
    | zero =>
      intro k hk hk0 N1 hN H locs ls hP hD hS hl
      obtain ⟨n1, n2, n3, n4⟩ := hN
      have f5 : N1 4 1 5 = n := by rw [n1 _ _ _ (by omega), hn]
      have hO1 : qOK B N1 := qOKs hO (fun j _ _ => n1 _ _ _ (by omega)) (fun j _ => n1 _ _ _ (by omega))
      have hM1 : qM N1 := fun c i j => by
        by_cases h9 : c = 0 ∧ j = 12 ∧ (i < n ∨ i = 60)
        · obtain ⟨rfl, rfl, h9 | h9⟩ := h9
          · rw [n2 i h9]; exact hLb k i (by omega) (by omega)
          · subst h9; rw [n3]; decide
        · rw [n1 c i j h9]; exact hM c i j
      obtain rfl : k = n + 1 := by omega
      have hP : va_P D vwCl (qG B R N1) H := hP
      have hD : va_D A (qG B R N1) := hD
      refine lv_iload_n hx hb dX3_isTooMuchLoad_26 rfl (lv_at hl 0 rfl) ?_
      refine lv_if_lt (tgt := 67) hx hb dX3_isTooMuchLoad_27 (by decide) (fun c_34 => ?_) (fun c_34 => absurd (by rw [Nat.sub_self]; decide) c_34)
      refine lv_iconst (v := 0) hx hb dX3_isTooMuchLoad_67 (by decide) ?_
      rw [← hQe]
      exact W.zret (ty := .boolean) (v := 0) hx hb hr rfl (fun t ht hW => ⟨⟨0, N1, rfl, ⟨n1, fun i => hM1 0 i 12, fun _ i hi => n4 i hi (by omega)⟩, ⟨Nat.zero_le _, by rw [ht]; exact hP, va_K.moved hW.alike (hK.sub (tys' := []) [] rfl), hD⟩⟩, hS.F ht⟩) hS.2.2 dX3_isTooMuchLoad_68
    | succ r9 ih =>
      intro k hk hk0 N1 hN H locs ls hP hD hS hl
      obtain ⟨n1, n2, n3, n4⟩ := hN
      have f5 : N1 4 1 5 = n := by rw [n1 _ _ _ (by omega), hn]
      have hO1 : qOK B N1 := qOKs hO (fun j _ _ => n1 _ _ _ (by omega)) (fun j _ => n1 _ _ _ (by omega))
      have hM1 : qM N1 := fun c i j => by
        by_cases h9 : c = 0 ∧ j = 12 ∧ (i < n ∨ i = 60)
        · obtain ⟨rfl, rfl, h9 | h9⟩ := h9
          · rw [n2 i h9]; exact hLb k i (by omega) (by omega)
          · subst h9; rw [n3]; decide
        · rw [n1 c i j h9]; exact hM c i j
      obtain ⟨t, ht⟩ : ∃ t, t = n - k := ⟨_, rfl⟩
      have ht0 : n + 1 - 1 - k = t := by omega
      have ht1 : nI (n + 1 - k) - 1 = nI t := by rw [show n + 1 - k = t + 1 by omega]; exact nI_pred t
      obtain ⟨m1, m2, m3, m4⟩ := hS9 t (by omega)
      rw [ht1] at hl
      have b2 := hM 0 t 2
      have hLt := hLb k t (by omega) (by omega)
      obtain ⟨x3, x4, x5⟩ := x1 t (by omega)
      have hP : va_P D vwCl (qG B R N1) H := hP
      have hD : va_D A (qG B R N1) := hD
      refine lv_iload_n hx hb dX3_isTooMuchLoad_26 rfl (lv_at hl 0 rfl) ?_
      refine lv_if_lt (tgt := 67) hx hb dX3_isTooMuchLoad_27 (by decide) (fun c_35 => absurd c_35 (nI_pos (by omega))) (fun c_35 => ?_)
      refine lv_aload_n hx hb dX3_isTooMuchLoad_30 rfl (lv_at hl 1 rfl) ?_
      refine lv_iload_n hx hb dX3_isTooMuchLoad_31 rfl (lv_at hl 0 rfl) ?_
      refine zrdVq2 (As := [.int (nI t)]) (rest := []) (wc := qG B R N1) ⟨hx, hb, hml, hown, hts⟩ (c_itemOf l D _ B R N1 t (by omega) hO1) (cwV 1 hts gX3_isTooMuchLoad_X3_itemOf rfl rfl rfl (by decide +kernel) ⟨by rw [hRf]; exact Nat.le_of_ble_eq_true rfl, by rw [hRl]; exact Nat.le_of_ble_eq_true rfl⟩) hK hP hD [0, 1, 2, 3] rfl (ci := 3) (q0 := 0) rfl rfl rfl hl.1 rfl (Nat.le_of_ble_eq_true rfl) dX3_isTooMuchLoad_32 ⟨by omega, by omega⟩ (fun r_36 hr_36 => ?_)
      refine W.eq (g2 := F0 m 35 ls [.ref (qA B 0 t)]) (by rw [hr_36]; rfl) ?_
      refine lv_astore_n (lv' := [(2, .ref (qA B 0 t)), (1, .int (nI t)), (0, .ref (qA B 5 0))]) hx hb dX3_isTooMuchLoad_35 rfl hl (by decide) rfl (fun ls hl => ?_)
      refine lv_aload_n hx hb dX3_isTooMuchLoad_36 rfl (lv_at hl 0 rfl) ?_
      refine lv_ifnull hx hb dX3_isTooMuchLoad_37 ?_
      refine lv_aload_n hx hb dX3_isTooMuchLoad_40 rfl (lv_at hl 0 rfl) ?_
      refine va_get (D := D) (ci := 0) (v := .int (nI (N1 0 t 12))) (C := RX0) (T := TX0) (N := 18) hx hb hts (fun _ h9 => List.mem_cons_of_mem _ (List.mem_append_right _ h9)) hown hK hP (5 + t) (qG_i (by omega)) rfl 12 (by decide) (hts (.fieldLink RX3 233 "PalletStack$Item" "nextLoad" "I") (List.mem_of_getElem? (i := 2) (by rfl))) (fun _ h9 => h9) rfl dX3_isTooMuchLoad_41 ?_
      refine lv_topi (fun v_38 ev_38 => ?_)
      obtain rfl : v_38 = (nI (qLN Sx Nx (n + 1) k t)) := ev_38.trans (by rw [n2 t (by omega)])
      refine lv_aload_n hx hb dX3_isTooMuchLoad_44 rfl (lv_at hl 0 rfl) ?_
      refine va_get (D := D) (ci := 0) (v := .int (nI (N1 0 t 2))) (C := RX0) (T := TX0) (N := 18) hx hb hts (fun _ h9 => List.mem_cons_of_mem _ (List.mem_append_right _ h9)) hown hK hP (5 + t) (qG_i (by omega)) rfl 2 (by decide) (hts (.fieldLink RX3 242 "PalletStack$Item" "strength" "I") (List.mem_of_getElem? (i := 4) (by rfl))) (fun _ h9 => h9) rfl dX3_isTooMuchLoad_45 ?_
      refine lv_topi (fun v_39 ev_39 => ?_)
      obtain rfl : v_39 = (nI (N 0 t 2)) := ev_39.trans (by rw [n1 _ _ _ (by omega)])
      refine lv_icmp_le (tgt := 53) hx hb dX3_isTooMuchLoad_48 (by decide) (fun c_40 => ?_) (fun c_40 => ?_)
      · have h_b := True.intro
        have k_41 : (qLN Sx Nx (n + 1) k t) ≤ (N 0 t 2) := (nI_leI (a := (qLN Sx Nx (n + 1) k t)) (b := (N 0 t 2)) (by omega) (by omega)).mp c_40
        refine lv_aload_n hx hb dX3_isTooMuchLoad_53 rfl (lv_at hl 0 rfl) ?_
        refine lv_ifnull hx hb dX3_isTooMuchLoad_54 ?_
        refine lv_aload_n hx hb dX3_isTooMuchLoad_57 rfl (lv_at hl 0 rfl) ?_
        refine qcallvV (As := []) (rest := []) (ws := qG B R N1) ⟨hx, hb, hml, hown, hts⟩ (c_pass l D _ B R N1 t (by omega) (S t) (fun j hj => by rw [n1 _ _ _ (by omega)] at hj; obtain ⟨a1, a2, a3⟩ := m4 j hj; exact ⟨a1, by omega, by omega, by rw [n1 _ _ _ (by omega)]; exact a3⟩) (by rw [n1 _ _ _ (by omega)]; exact m1) (by rw [n1 _ _ _ (by omega)]; exact m2) hM1 (by rw [n1 _ _ _ (by omega)]; exact m3)) (cwV 0 hts gX3_isTooMuchLoad_X0_passLoadDown rfl rfl rfl (by decide +kernel) ⟨by rw [hRf]; exact Nat.le_of_ble_eq_true rfl, by rw [hRl]; exact Nat.le_of_ble_eq_true rfl⟩) hK hP hD hS hA [0, 1, 2, 3] rfl (ci := 0) (q0 := (5 + t)) rfl (qG_i (by omega)) rfl hl.1 rfl (Nat.le_of_ble_eq_true rfl) dX3_isTooMuchLoad_58 ⟨by omega, by omega⟩ (fun u_44 H locs hwu_44 hP hD hS => ?_)
        have hP : va_P D vwCl (qG B R u_44) H := hP
        have hD : va_D A (qG B R u_44) := hD
        rw [n1 0 t 1 (by omega), n1 0 t 10 (by omega), n2 t (by omega), n1 0 t 15 (by omega), show N1 1 t = N 1 t by funext j; exact n1 _ _ _ (by omega)] at hwu_44
        have s1 : ∀ i, i < n → u_44 0 i 12 = qLN Sx Nx (n + 1) (k + 1) i := fun i hi => by
          rw [hwu_44, qcol_eq, qLN_1, ht0, x3, x4, x5]
          exact qPs_congr (n := n) (fun j hj => by have := (m4 j hj).2.1; omega) (fun _ _ => rfl) (fun i9 h9 => n2 i9 h9) i hi
        have s2 : ∀ c i j, ¬ (c = 0 ∧ j = 12 ∧ (i < n ∨ i = 60)) → u_44 c i j = N c i j := fun c i j h => by
          by_cases h9 : c = 0 ∧ j = 12
          · rw [hwu_44]; unfold qcol; rw [if_pos h9]; obtain ⟨rfl, rfl⟩ := h9; rw [qPs_ne (fun j9 h9 => by have := (m4 j9 h9).2.1; omega)]; exact n1 _ _ _ h
          · rw [hwu_44, qcol_ne _ _ (by omega)]; exact n1 _ _ _ h
        have s3 : u_44 0 60 12 = 0 := by rw [hwu_44, qcol_eq, qPs_ne (fun j9 h9 => by have := (m4 j9 h9).2.1; omega)]; exact n3
        have s4 : ∀ i, t ≤ i → qLN Sx Nx (n + 1) (k + 1) i = qLN Sx Nx (n + 1) k i := fun i hi => by rw [qLN_1, ht0, x3, x4, x5]; exact qPs_ne (fun j9 h9 => by have := (m4 j9 h9).2.1; omega)
        have ht2 : nI t + -1 = nI (n + 1 - (k + 1)) - 1 := by rw [show n + 1 - (k + 1) = t by omega]; exact (Int32.sub_eq_add_neg _ _).symm
        refine lv_iinc (v := (nI (n + 1 - (k + 1)) - 1)) (lv' := [(1, .int (nI (n + 1 - (k + 1)) - 1)), (2, .ref (qA B 0 t)), (0, .ref (qA B 5 0))]) hx hb dX3_isTooMuchLoad_61 hl (k := 1) rfl (ht2) (by decide) rfl (fun ls hl => ?_)
        refine lv_goto (tgt := 26) hx hb dX3_isTooMuchLoad_64 (by decide) ?_
        have hl := lv_sub hl (l' := [(1, .int (nI (n + 1 - (k + 1)) - 1)), (0, .ref (qA B 5 0))]) [0, 2] rfl
        refine ih (k + 1) (by omega) (by omega) u_44 ⟨s2, s1, s3, fun i h1 h2 => ?_⟩ H locs ls hP hD hS hl
        rw [s4 i (by omega)]
        by_cases h9 : i = t
        · subst h9; omega
        · exact n4 i h1 (by omega)
      · have h_b := True.intro
        have k_45 : ¬ ((qLN Sx Nx (n + 1) k t) ≤ (N 0 t 2)) := fun h9 => c_40 ((nI_leI (a := (qLN Sx Nx (n + 1) k t)) (b := (N 0 t 2)) (by omega) (by omega)).mpr h9)
        refine lv_iconst (v := 1) hx hb dX3_isTooMuchLoad_51 (by decide) ?_
        rw [← hQe]
        exact W.zret (ty := .boolean) (v := 1) hx hb hr rfl (fun t ht hW => ⟨⟨1, N1, rfl, ⟨n1, fun i => hM1 0 i 12, fun h => absurd h (by decide)⟩, ⟨Nat.zero_le _, by rw [ht]; exact hP, va_K.moved hW.alike (hK.sub (tys' := []) [] rfl), hD⟩⟩, hS.F ht⟩) hS.2.2 dX3_isTooMuchLoad_52
  have hstart : nI n - 1 = nI (n + 1 - 1) - 1 := by rw [Nat.add_sub_cancel]
  rw [hstart] at hl
  exact loop n 1 (by omega) (by omega) u_32 ⟨y2, y1, y3, fun i h1 h2 => by omega⟩ H locs ls hP hD hS hl
