set_option maxHeartbeats 4000000 in
set_option maxRecDepth 100000 in
theorem c_shape (l : Launch) (D : zG) (sz : Nat) (B : qB) (R : qR0) (N : qN0) (k t : Nat) (hk : k < qk B) (ht : t < 2) (hM : qM N) : Met l yX0_shape wsX0_shape ({ frames := 0, cells := 0, slots := 0, locals := 0 }) (zPc D (qT B) (qG B R N) sz [.ref (qA B 0 60), .ref (qA B 3 k), .int (nI t)]) (va_Qv (fun (u : qN0) => u = qsh N k t) (zB D (va_A (qG B R N) sz) (fun _ => []) 0 (fun u => qG B R u)) (va_A (qG B R N) sz)) 0 0 (va_A (qG B R N) sz) := by
  refine Met.ofW (cc := cX0_shape) (maxL := 3) (ret := none) (by decide) rfl ?_
  intro p e s m args below meth c s₁ B9 hml hv
  obtain ⟨rfl, hsz, hP, hK, hD0⟩ := hv
  have hx := B9.exec
  have hb := B9.bytes
  have hr := B9.returns
  have hts := atoms_spec (ws := wsX0_shape) B9.pre
  have hown : s.vm.findClass RX0 = some m.cls := findClass_of_methodNamed B9.named
  have hlocks := B9.notSynchronized
  subst hsz
  have hD := hD0.self (sz := s.heap.size)
  generalize hAe : va_A (qG B R N) s.heap.size = A at hD ⊢
  have hA : ∀ q : Nat, s.heap.size ≤ q → A q := fun q h => by rw [← hAe]; exact Or.inr h
  have hS : va_S A s.heap s.heap [] := va_S.rf
  have hl := lv_entry ([.ref (qA B 0 60), .ref (qA B 3 k), .int (nI t)]) (n := 3) (Nat.le_of_ble_eq_true rfl)
  rw [lg_entry_eq]
  generalize (lg_sl ([.ref (qA B 0 60), .ref (qA B 3 k), .int (nI t)]) ++ List.replicate (3 - (lg_sl ([.ref (qA B 0 60), .ref (qA B 3 k), .int (nI t)])).length) Slot.unset).toArray = ls at hl ⊢
  have hl : lv_has ls 3 [(0, .ref (qA B 0 60)), (1, .ref (qA B 3 k)), (2, .int (nI t))] := hl
  have hP : va_P D vwCl (qG B R N) s.heap := hP
  generalize hRe : (headSpec _ _).room = R9
  have hRf : R9.frames = 0 := by rw [← hRe]; rfl
  have hRc : R9.cells = 0 := by rw [← hRe]; rfl
  have hRs : R9.slots = 0 := by rw [← hRe]; rfl
  have hRl : R9.locals = 0 := by rw [← hRe]; rfl
  clear hRe
  refine lv_aload_n hx hb dX0_shape_0 rfl (lv_at hl 0 rfl) ?_
  refine lv_aload_n hx hb dX0_shape_1 rfl (lv_at hl 1 rfl) ?_
  refine va_get (D := D) (ci := 1) (v := .int (nI (N 2 k 0))) (C := RX1) (T := TX1) (N := 8) hx hb hts (fun _ h9 => List.mem_cons_of_mem _ (List.mem_append_left _ (List.mem_append_right _ h9))) hown hK hP (188 + k) (qG_d hk) rfl 0 (by decide) (hts (.fieldLink RX0 69 "PalletStack$Kind" "number" "I") (List.mem_of_getElem? (i := 1) (by rfl))) (fun _ h9 => h9) rfl dX0_shape_2 ?_
  refine va_put (D := D) (ci := 0) (v := .int (nI (N 2 k 0))) (ty := .int) (C := RX0) (T := TX0) (N := 18) hx hb hts (fun _ h9 => List.mem_cons_of_mem _ (List.mem_append_right _ h9)) tyX0 tyX0_ok nmX0 hown hK hP hD hS (5 + 60) (qG_i (by omega)) rfl 0 (by decide) (hts (.fieldLink RX0 9 "PalletStack$Item" "kind" "I") (List.mem_of_getElem? (i := 2) (by rfl))) (fun _ h9 => h9) rfl (by decide +kernel) rfl rfl (Nat.le_of_ble_eq_true rfl) dX0_shape_5 (fun H locs hP hD hS => ?_)
  rw [qG_pi (by omega) (by decide)] at hP hD
  obtain ⟨N_1, hN_1⟩ : ∃ z : qN0, z = qp N 0 60 0 (N 2 k 0) := ⟨_, rfl⟩
  rw [← hN_1] at hP hD
  have hP : va_P D vwCl (qG B R N_1) H := hP
  have hD : va_D A (qG B R N_1) := hD
  refine lv_aload_n hx hb dX0_shape_8 rfl (lv_at hl 0 rfl) ?_
  refine lv_aload_n hx hb dX0_shape_9 rfl (lv_at hl 1 rfl) ?_
  refine va_get (D := D) (ci := 1) (v := .int (nI (N_1 2 k 4))) (C := RX1) (T := TX1) (N := 8) hx hb hts (fun _ h9 => List.mem_cons_of_mem _ (List.mem_append_left _ (List.mem_append_right _ h9))) hown hK hP (188 + k) (qG_d hk) rfl 4 (by decide) (hts (.fieldLink RX0 74 "PalletStack$Kind" "weight" "I") (List.mem_of_getElem? (i := 3) (by rfl))) (fun _ h9 => h9) rfl dX0_shape_10 ?_
  refine lv_topi (fun v_2 ev_2 => ?_)
  obtain rfl : v_2 = (nI (N 2 k 4)) := ev_2.trans (congrArg nI (by simp [hN_1, qp]))
  refine va_put (D := D) (ci := 0) (v := .int (nI (N 2 k 4))) (ty := .int) (C := RX0) (T := TX0) (N := 18) hx hb hts (fun _ h9 => List.mem_cons_of_mem _ (List.mem_append_right _ h9)) tyX0 tyX0_ok nmX0 hown hK hP hD hS (5 + 60) (qG_i (by omega)) rfl 1 (by decide) (hts (.fieldLink RX0 15 "PalletStack$Item" "weight" "I") (List.mem_of_getElem? (i := 4) (by rfl))) (fun _ h9 => h9) rfl (by decide +kernel) rfl rfl (Nat.le_of_ble_eq_true rfl) dX0_shape_13 (fun H locs hP hD hS => ?_)
  rw [qG_pi (by omega) (by decide)] at hP hD
  obtain ⟨N_3, hN_3⟩ : ∃ z : qN0, z = qp N_1 0 60 1 (N 2 k 4) := ⟨_, rfl⟩
  rw [← hN_3] at hP hD
  have hP : va_P D vwCl (qG B R N_3) H := hP
  have hD : va_D A (qG B R N_3) := hD
  refine lv_aload_n hx hb dX0_shape_16 rfl (lv_at hl 0 rfl) ?_
  refine lv_aload_n hx hb dX0_shape_17 rfl (lv_at hl 1 rfl) ?_
  refine va_get (D := D) (ci := 1) (v := .int (nI (N_3 2 k 5))) (C := RX1) (T := TX1) (N := 8) hx hb hts (fun _ h9 => List.mem_cons_of_mem _ (List.mem_append_left _ (List.mem_append_right _ h9))) hown hK hP (188 + k) (qG_d hk) rfl 5 (by decide) (hts (.fieldLink RX0 75 "PalletStack$Kind" "strength" "I") (List.mem_of_getElem? (i := 5) (by rfl))) (fun _ h9 => h9) rfl dX0_shape_18 ?_
  refine lv_topi (fun v_4 ev_4 => ?_)
  obtain rfl : v_4 = (nI (N 2 k 5)) := ev_4.trans (congrArg nI (by simp [hN_1, hN_3, qp]))
  refine va_put (D := D) (ci := 0) (v := .int (nI (N 2 k 5))) (ty := .int) (C := RX0) (T := TX0) (N := 18) hx hb hts (fun _ h9 => List.mem_cons_of_mem _ (List.mem_append_right _ h9)) tyX0 tyX0_ok nmX0 hown hK hP hD hS (5 + 60) (qG_i (by omega)) rfl 2 (by decide) (hts (.fieldLink RX0 18 "PalletStack$Item" "strength" "I") (List.mem_of_getElem? (i := 6) (by rfl))) (fun _ h9 => h9) rfl (by decide +kernel) rfl rfl (Nat.le_of_ble_eq_true rfl) dX0_shape_21 (fun H locs hP hD hS => ?_)
  rw [qG_pi (by omega) (by decide)] at hP hD
  obtain ⟨N_5, hN_5⟩ : ∃ z : qN0, z = qp N_3 0 60 2 (N 2 k 5) := ⟨_, rfl⟩
  rw [← hN_5] at hP hD
  have hP : va_P D vwCl (qG B R N_5) H := hP
  have hD : va_D A (qG B R N_5) := hD
  refine lv_aload_n hx hb dX0_shape_24 rfl (lv_at hl 0 rfl) ?_
  refine lv_iload_n hx hb dX0_shape_25 rfl (lv_at hl 2 rfl) ?_
  refine va_put (D := D) (ci := 0) (v := .int (nI t)) (ty := .boolean) (C := RX0) (T := TX0) (N := 18) hx hb hts (fun _ h9 => List.mem_cons_of_mem _ (List.mem_append_right _ h9)) tyX0 tyX0_ok nmX0 hown hK hP hD hS (5 + 60) (qG_i (by omega)) rfl 3 (by decide) (hts (.fieldLink RX0 21 "PalletStack$Item" "isTurned" "Z") (List.mem_of_getElem? (i := 7) (by rfl))) (fun _ h9 => h9) rfl (by decide +kernel) (qnar ht) (qfit ht) (Nat.le_of_ble_eq_true rfl) dX0_shape_26 (fun H locs hP hD hS => ?_)
  rw [qG_pi (by omega) (by decide)] at hP hD
  obtain ⟨N_6, hN_6⟩ : ∃ z : qN0, z = qp N_5 0 60 3 t := ⟨_, rfl⟩
  rw [← hN_6] at hP hD
  have hP : va_P D vwCl (qG B R N_6) H := hP
  have hD : va_D A (qG B R N_6) := hD
  refine lv_aload_n hx hb dX0_shape_29 rfl (lv_at hl 0 rfl) ?_
  refine lv_iload_n hx hb dX0_shape_30 rfl (lv_at hl 2 rfl) ?_
  refine lv_if_eq (tgt := 41) hx hb dX0_shape_31 (by decide) (fun c_7 => ?_) (fun c_7 => ?_)
  · have h_b := True.intro
    obtain rfl : t = 0 := (qeq (by omega) (by decide)).mp c_7
    refine lv_aload_n hx hb dX0_shape_41 rfl (lv_at hl 1 rfl) ?_
    refine va_get (D := D) (ci := 1) (v := .int (nI (N_6 2 k 1))) (C := RX1) (T := TX1) (N := 8) hx hb hts (fun _ h9 => List.mem_cons_of_mem _ (List.mem_append_left _ (List.mem_append_right _ h9))) hown hK hP (188 + k) (qG_d hk) rfl 1 (by decide) (hts (.fieldLink RX0 77 "PalletStack$Kind" "width" "I") (List.mem_of_getElem? (i := 9) (by rfl))) (fun _ h9 => h9) rfl dX0_shape_42 ?_
    refine lv_topi (fun v_8 ev_8 => ?_)
    obtain rfl : v_8 = (nI (N 2 k 1)) := ev_8.trans (congrArg nI (by simp [hN_1, hN_3, hN_5, hN_6, qp]))
    refine va_put (D := D) (ci := 0) (v := .int (nI (N 2 k 1))) (ty := .int) (C := RX0) (T := TX0) (N := 18) hx hb hts (fun _ h9 => List.mem_cons_of_mem _ (List.mem_append_right _ h9)) tyX0 tyX0_ok nmX0 hown hK hP hD hS (5 + 60) (qG_i (by omega)) rfl 4 (by decide) (hts (.fieldLink RX0 25 "PalletStack$Item" "width" "I") (List.mem_of_getElem? (i := 10) (by rfl))) (fun _ h9 => h9) rfl (by decide +kernel) rfl rfl (Nat.le_of_ble_eq_true rfl) dX0_shape_45 (fun H locs hP hD hS => ?_)
    rw [qG_pi (by omega) (by decide)] at hP hD
    obtain ⟨N_9, hN_9⟩ : ∃ z : qN0, z = qp N_6 0 60 4 (N 2 k 1) := ⟨_, rfl⟩
    rw [← hN_9] at hP hD
    have hP : va_P D vwCl (qG B R N_9) H := hP
    have hD : va_D A (qG B R N_9) := hD
    refine lv_aload_n hx hb dX0_shape_48 rfl (lv_at hl 0 rfl) ?_
    refine lv_iload_n hx hb dX0_shape_49 rfl (lv_at hl 2 rfl) ?_
    refine lv_if_eq (tgt := 60) hx hb dX0_shape_50 (by decide) (fun c_10 => ?_) (fun c_10 => absurd (rfl) c_10)
    refine lv_aload_n hx hb dX0_shape_60 rfl (lv_at hl 1 rfl) ?_
    refine va_get (D := D) (ci := 1) (v := .int (nI (N_9 2 k 2))) (C := RX1) (T := TX1) (N := 8) hx hb hts (fun _ h9 => List.mem_cons_of_mem _ (List.mem_append_left _ (List.mem_append_right _ h9))) hown hK hP (188 + k) (qG_d hk) rfl 2 (by decide) (hts (.fieldLink RX0 76 "PalletStack$Kind" "depth" "I") (List.mem_of_getElem? (i := 8) (by rfl))) (fun _ h9 => h9) rfl dX0_shape_61 ?_
    refine lv_topi (fun v_11 ev_11 => ?_)
    obtain rfl : v_11 = (nI (N 2 k 2)) := ev_11.trans (congrArg nI (by simp [hN_1, hN_3, hN_5, hN_6, hN_9, qp]))
    refine va_put (D := D) (ci := 0) (v := .int (nI (N 2 k 2))) (ty := .int) (C := RX0) (T := TX0) (N := 18) hx hb hts (fun _ h9 => List.mem_cons_of_mem _ (List.mem_append_right _ h9)) tyX0 tyX0_ok nmX0 hown hK hP hD hS (5 + 60) (qG_i (by omega)) rfl 5 (by decide) (hts (.fieldLink RX0 28 "PalletStack$Item" "depth" "I") (List.mem_of_getElem? (i := 11) (by rfl))) (fun _ h9 => h9) rfl (by decide +kernel) rfl rfl (Nat.le_of_ble_eq_true rfl) dX0_shape_64 (fun H locs hP hD hS => ?_)
    rw [qG_pi (by omega) (by decide)] at hP hD
    obtain ⟨N_12, hN_12⟩ : ∃ z : qN0, z = qp N_9 0 60 5 (N 2 k 2) := ⟨_, rfl⟩
    rw [← hN_12] at hP hD
    have hP : va_P D vwCl (qG B R N_12) H := hP
    have hD : va_D A (qG B R N_12) := hD
    exact W.vret hx hb hr (fun t ht hW => ⟨⟨N_12, rfl, (by rw [hN_12, hN_9, hN_6, hN_5, hN_3, hN_1]; exact qsh_eq), ⟨Nat.zero_le _, by rw [ht]; exact hP, va_K.moved hW.alike (hK.sub (tys' := []) [] rfl), hD⟩⟩, hS.F ht⟩) hS.2.2 dX0_shape_67
  · have h_b := True.intro
    obtain rfl : t = 1 := by rcases (show t = 0 ∨ t = 1 by omega) with h | h; exact absurd (by rw [h]; rfl) c_7; exact h
    refine lv_aload_n hx hb dX0_shape_34 rfl (lv_at hl 1 rfl) ?_
    refine va_get (D := D) (ci := 1) (v := .int (nI (N_6 2 k 2))) (C := RX1) (T := TX1) (N := 8) hx hb hts (fun _ h9 => List.mem_cons_of_mem _ (List.mem_append_left _ (List.mem_append_right _ h9))) hown hK hP (188 + k) (qG_d hk) rfl 2 (by decide) (hts (.fieldLink RX0 76 "PalletStack$Kind" "depth" "I") (List.mem_of_getElem? (i := 8) (by rfl))) (fun _ h9 => h9) rfl dX0_shape_35 ?_
    refine lv_topi (fun v_13 ev_13 => ?_)
    obtain rfl : v_13 = (nI (N 2 k 2)) := ev_13.trans (congrArg nI (by simp [hN_1, hN_3, hN_5, hN_6, qp]))
    refine lv_goto (tgt := 45) hx hb dX0_shape_38 (by decide) ?_
    refine va_put (D := D) (ci := 0) (v := .int (nI (N 2 k 2))) (ty := .int) (C := RX0) (T := TX0) (N := 18) hx hb hts (fun _ h9 => List.mem_cons_of_mem _ (List.mem_append_right _ h9)) tyX0 tyX0_ok nmX0 hown hK hP hD hS (5 + 60) (qG_i (by omega)) rfl 4 (by decide) (hts (.fieldLink RX0 25 "PalletStack$Item" "width" "I") (List.mem_of_getElem? (i := 10) (by rfl))) (fun _ h9 => h9) rfl (by decide +kernel) rfl rfl (Nat.le_of_ble_eq_true rfl) dX0_shape_45 (fun H locs hP hD hS => ?_)
    rw [qG_pi (by omega) (by decide)] at hP hD
    obtain ⟨N_14, hN_14⟩ : ∃ z : qN0, z = qp N_6 0 60 4 (N 2 k 2) := ⟨_, rfl⟩
    rw [← hN_14] at hP hD
    have hP : va_P D vwCl (qG B R N_14) H := hP
    have hD : va_D A (qG B R N_14) := hD
    refine lv_aload_n hx hb dX0_shape_48 rfl (lv_at hl 0 rfl) ?_
    refine lv_iload_n hx hb dX0_shape_49 rfl (lv_at hl 2 rfl) ?_
    refine lv_if_eq (tgt := 60) hx hb dX0_shape_50 (by decide) (fun c_15 => absurd c_15 (by decide)) (fun c_15 => ?_)
    refine lv_aload_n hx hb dX0_shape_53 rfl (lv_at hl 1 rfl) ?_
    refine va_get (D := D) (ci := 1) (v := .int (nI (N_14 2 k 1))) (C := RX1) (T := TX1) (N := 8) hx hb hts (fun _ h9 => List.mem_cons_of_mem _ (List.mem_append_left _ (List.mem_append_right _ h9))) hown hK hP (188 + k) (qG_d hk) rfl 1 (by decide) (hts (.fieldLink RX0 77 "PalletStack$Kind" "width" "I") (List.mem_of_getElem? (i := 9) (by rfl))) (fun _ h9 => h9) rfl dX0_shape_54 ?_
    refine lv_topi (fun v_16 ev_16 => ?_)
    obtain rfl : v_16 = (nI (N 2 k 1)) := ev_16.trans (congrArg nI (by simp [hN_1, hN_3, hN_5, hN_6, hN_14, qp]))
    refine lv_goto (tgt := 64) hx hb dX0_shape_57 (by decide) ?_
    refine va_put (D := D) (ci := 0) (v := .int (nI (N 2 k 1))) (ty := .int) (C := RX0) (T := TX0) (N := 18) hx hb hts (fun _ h9 => List.mem_cons_of_mem _ (List.mem_append_right _ h9)) tyX0 tyX0_ok nmX0 hown hK hP hD hS (5 + 60) (qG_i (by omega)) rfl 5 (by decide) (hts (.fieldLink RX0 28 "PalletStack$Item" "depth" "I") (List.mem_of_getElem? (i := 11) (by rfl))) (fun _ h9 => h9) rfl (by decide +kernel) rfl rfl (Nat.le_of_ble_eq_true rfl) dX0_shape_64 (fun H locs hP hD hS => ?_)
    rw [qG_pi (by omega) (by decide)] at hP hD
    obtain ⟨N_17, hN_17⟩ : ∃ z : qN0, z = qp N_14 0 60 5 (N 2 k 1) := ⟨_, rfl⟩
    rw [← hN_17] at hP hD
    have hP : va_P D vwCl (qG B R N_17) H := hP
    have hD : va_D A (qG B R N_17) := hD
    exact W.vret hx hb hr (fun t ht hW => ⟨⟨N_17, rfl, (by rw [hN_17, hN_14, hN_6, hN_5, hN_3, hN_1]; exact qsh_eq), ⟨Nat.zero_le _, by rw [ht]; exact hP, va_K.moved hW.alike (hK.sub (tys' := []) [] rfl), hD⟩⟩, hS.F ht⟩) hS.2.2 dX0_shape_67
set_option maxHeartbeats 4000000 in
set_option maxRecDepth 100000 in
theorem c_letDown (l : Launch) (D : zG) (sz : Nat) (B : qB) (R : qR0) (N : qN0) (k x y t : Nat) (hk : k < qk B) (ht : t < 2) (hM : qM N) (hw0 : 0 < qwd N k t) (hd0 : 0 < qdp N k t) (hx9 : x + qwd N k t ≤ 12) (hy : y + qdp N k t ≤ 10) : Met l yX3_letDown wsX3_letDown ({ frames := 2, cells := 0, slots := 0, locals := 45 }) (zPc D (qT B) (qG B R N) sz [.ref (qA B 5 0), .ref (qA B 3 k), .int (nI x), .int (nI y), .int (nI t)]) (va_Qv (fun (u : qN0) => u = qld N k x y t) (zB D (va_A (qG B R N) sz) (fun _ => []) 0 (fun u => qG B R u)) (va_A (qG B R N) sz)) 0 0 (va_A (qG B R N) sz) := by
  refine Met.ofW (cc := cX3_letDown) (maxL := 10) (ret := none) (by decide) rfl ?_
  intro p e s m args below meth c s₁ B9 hml hv
  obtain ⟨rfl, hsz, hP, hK, hD0⟩ := hv
  have hx := B9.exec
  have hb := B9.bytes
  have hr := B9.returns
  have hts := atoms_spec (ws := wsX3_letDown) B9.pre
  have hown : s.vm.findClass RX3 = some m.cls := findClass_of_methodNamed B9.named
  have hlocks := B9.notSynchronized
  subst hsz
  have hD := hD0.self (sz := s.heap.size)
  generalize hAe : va_A (qG B R N) s.heap.size = A at hD ⊢
  have hA : ∀ q : Nat, s.heap.size ≤ q → A q := fun q h => by rw [← hAe]; exact Or.inr h
  have hS : va_S A s.heap s.heap [] := va_S.rf
  have hl := lv_entry ([.ref (qA B 5 0), .ref (qA B 3 k), .int (nI x), .int (nI y), .int (nI t)]) (n := 10) (Nat.le_of_ble_eq_true rfl)
  rw [lg_entry_eq]
  generalize (lg_sl ([.ref (qA B 5 0), .ref (qA B 3 k), .int (nI x), .int (nI y), .int (nI t)]) ++ List.replicate (10 - (lg_sl ([.ref (qA B 5 0), .ref (qA B 3 k), .int (nI x), .int (nI y), .int (nI t)])).length) Slot.unset).toArray = ls at hl ⊢
  have hl : lv_has ls 10 [(0, .ref (qA B 5 0)), (1, .ref (qA B 3 k)), (2, .int (nI x)), (3, .int (nI y)), (4, .int (nI t))] := hl
  have hP : va_P D vwCl (qG B R N) s.heap := hP
  generalize hRe : (headSpec _ _).room = R9
  have hRf : R9.frames = 2 := by rw [← hRe]; rfl
  have hRc : R9.cells = 0 := by rw [← hRe]; rfl
  have hRs : R9.slots = 0 := by rw [← hRe]; rfl
  have hRl : R9.locals = 45 := by rw [← hRe]; rfl
  clear hRe
  refine lv_aload_n hx hb dX3_letDown_0 rfl (lv_at hl 0 rfl) ?_
  refine va_get (D := D) (ci := 3) (v := .ref (qA B 0 60)) (C := RX3) (T := TX3) (N := 14) hx hb hts (fun _ h9 => List.mem_cons_of_mem _ (List.mem_append_left _ (List.mem_append_left _ (List.mem_append_right _ h9)))) hown hK hP 0 rfl rfl 11 (by decide) (hts (.fieldLink RX3 52 "PalletStack" "trial" "LPalletStack$Item;") (List.mem_of_getElem? (i := 1) (by rfl))) (fun _ h9 => h9) rfl dX3_letDown_1 ?_
  refine lv_aload_n hx hb dX3_letDown_4 rfl (lv_at hl 1 rfl) ?_
  refine lv_iload hx hb dX3_letDown_5 (lv_at hl 4 rfl) ?_
  refine qcallvV (As := [.ref (qA B 3 k), .int (nI t)]) (rest := []) (ws := qG B R N) ⟨hx, hb, hml, hown, hts⟩ (c_shape l D _ B R N k t hk ht hM) (cwV 2 hts gX3_letDown_X0_shape rfl rfl rfl (by decide +kernel) ⟨by rw [hRf]; exact Nat.le_of_ble_eq_true rfl, by rw [hRl]; exact Nat.le_of_ble_eq_true rfl⟩) hK hP hD hS hA [0, 1, 2, 3] rfl (ci := 0) (q0 := (5 + 60)) rfl (qG_i (by omega)) rfl hl.1 rfl (Nat.le_of_ble_eq_true rfl) dX3_letDown_7 ⟨by omega, by omega⟩ (fun u_19 H locs hwu_19 hP hD hS => ?_)
  have hP : va_P D vwCl (qG B R u_19) H := hP
  have hD : va_D A (qG B R u_19) := hD
  have d4 : u_19 0 60 4 = qwd N k t := by rw [hwu_19]; rfl
  have d5 : u_19 0 60 5 = qdp N k t := by rw [hwu_19]; rfl
  have e1 : ∀ c i j, c ≠ 0 ∨ i ≠ 60 → u_19 c i j = N c i j := fun c i j h => by rw [hwu_19]; exact qsh_ne _ _ _ (by omega)
  obtain ⟨w, hw⟩ : ∃ w, w = qwd N k t := ⟨_, rfl⟩
  obtain ⟨d, hd⟩ : ∃ d, d = qdp N k t := ⟨_, rfl⟩
  rw [← hw] at d4 hw0 hx9
  rw [← hd] at d5 hd0 hy
  refine lv_aload_n hx hb dX3_letDown_10 rfl (lv_at hl 0 rfl) ?_
  refine va_get (D := D) (ci := 3) (v := .ref (qA B 0 60)) (C := RX3) (T := TX3) (N := 14) hx hb hts (fun _ h9 => List.mem_cons_of_mem _ (List.mem_append_left _ (List.mem_append_left _ (List.mem_append_right _ h9)))) hown hK hP 0 rfl rfl 11 (by decide) (hts (.fieldLink RX3 52 "PalletStack" "trial" "LPalletStack$Item;") (List.mem_of_getElem? (i := 1) (by rfl))) (fun _ h9 => h9) rfl dX3_letDown_11 ?_
  refine lv_iload_n hx hb dX3_letDown_14 rfl (lv_at hl 2 rfl) ?_
  refine va_put (D := D) (ci := 0) (v := .int (nI x)) (ty := .int) (C := RX0) (T := TX0) (N := 18) hx hb hts (fun _ h9 => List.mem_cons_of_mem _ (List.mem_append_left _ (List.mem_append_right _ h9))) tyX0 tyX0_ok nmX0 hown hK hP hD hS (5 + 60) (qG_i (by omega)) rfl 6 (by decide) (hts (.fieldLink RX3 182 "PalletStack$Item" "x" "I") (List.mem_of_getElem? (i := 2) (by rfl))) (fun _ h9 => h9) rfl (by decide +kernel) rfl rfl (Nat.le_of_ble_eq_true rfl) dX3_letDown_15 (fun H locs hP hD hS => ?_)
  rw [qG_pi (by omega) (by decide)] at hP hD
  obtain ⟨N_20, hN_20⟩ : ∃ z : qN0, z = qp u_19 0 60 6 x := ⟨_, rfl⟩
  rw [← hN_20] at hP hD
  have hP : va_P D vwCl (qG B R N_20) H := hP
  have hD : va_D A (qG B R N_20) := hD
  refine lv_aload_n hx hb dX3_letDown_18 rfl (lv_at hl 0 rfl) ?_
  refine va_get (D := D) (ci := 3) (v := .ref (qA B 0 60)) (C := RX3) (T := TX3) (N := 14) hx hb hts (fun _ h9 => List.mem_cons_of_mem _ (List.mem_append_left _ (List.mem_append_left _ (List.mem_append_right _ h9)))) hown hK hP 0 rfl rfl 11 (by decide) (hts (.fieldLink RX3 52 "PalletStack" "trial" "LPalletStack$Item;") (List.mem_of_getElem? (i := 1) (by rfl))) (fun _ h9 => h9) rfl dX3_letDown_19 ?_
  refine lv_iload_n hx hb dX3_letDown_22 rfl (lv_at hl 3 rfl) ?_
  refine va_put (D := D) (ci := 0) (v := .int (nI y)) (ty := .int) (C := RX0) (T := TX0) (N := 18) hx hb hts (fun _ h9 => List.mem_cons_of_mem _ (List.mem_append_left _ (List.mem_append_right _ h9))) tyX0 tyX0_ok nmX0 hown hK hP hD hS (5 + 60) (qG_i (by omega)) rfl 7 (by decide) (hts (.fieldLink RX3 176 "PalletStack$Item" "y" "I") (List.mem_of_getElem? (i := 3) (by rfl))) (fun _ h9 => h9) rfl (by decide +kernel) rfl rfl (Nat.le_of_ble_eq_true rfl) dX3_letDown_23 (fun H locs hP hD hS => ?_)
  rw [qG_pi (by omega) (by decide)] at hP hD
  obtain ⟨N_21, hN_21⟩ : ∃ z : qN0, z = qp N_20 0 60 7 y := ⟨_, rfl⟩
  rw [← hN_21] at hP hD
  have hP : va_P D vwCl (qG B R N_21) H := hP
  have hD : va_D A (qG B R N_21) := hD
  refine lv_iconst (v := 0) hx hb dX3_letDown_26 (by decide) ?_
  refine lv_istore (lv' := [(5, .int 0), (0, .ref (qA B 5 0)), (1, .ref (qA B 3 k)), (2, .int (nI x)), (3, .int (nI y)), (4, .int (nI t))]) hx hb dX3_letDown_27 hl (by decide) rfl (fun ls hl => ?_)
  refine lv_iconst (v := 0) hx hb dX3_letDown_29 (by decide) ?_
  refine lv_istore (lv' := [(6, .int 0), (5, .int 0), (0, .ref (qA B 5 0)), (1, .ref (qA B 3 k)), (2, .int (nI x)), (3, .int (nI y)), (4, .int (nI t))]) hx hb dX3_letDown_30 hl (by decide) rfl (fun ls hl => ?_)
  refine lv_iload_n hx hb dX3_letDown_32 rfl (lv_at hl 5 rfl) ?_
  refine lv_istore (lv' := [(7, .int (nI y)), (6, .int 0), (5, .int 0), (0, .ref (qA B 5 0)), (1, .ref (qA B 3 k)), (2, .int (nI x)), (3, .int (nI y)), (4, .int (nI t))]) hx hb dX3_letDown_33 hl (by decide) rfl (fun ls hl => ?_)
  have g4 : N_21 0 60 4 = w := by rw [hN_21, hN_20]; simp [qp, d4]
  have g5 : N_21 0 60 5 = d := by rw [hN_21, hN_20]; simp [qp, d5]
  have gT : ∀ c i j, c ≠ 0 ∨ i ≠ 60 → N_21 c i j = N c i j := fun c i j h => by rw [hN_21, hN_20]; unfold qp; rw [if_neg (by omega), if_neg (by omega)]; exact e1 c i j h
  obtain ⟨f, hf⟩ : ∃ f, f = qf N x w y := ⟨_, rfl⟩
  have hfM : ∀ e, f e ≤ 1000000 := fun e => by rw [hf]; exact hM _ _ _
  have hmM : ∀ e, qmx f e ≤ 1000000 := fun e => qmx_le (fun i _ => hfM i)
  have hgM : ∀ e, qgr f e ≤ e := fun e => qgr_le
  have hwd : ∀ jj, jj ≤ d → jj * w ≤ 120 := fun jj h => Nat.le_trans (Nat.mul_le_mul h (show w ≤ 12 by omega)) (by omega)
  have hP : va_P D vwCl (qG B R N_21) H := hP
  have hD : va_D A (qG B R N_21) := hD
  have hl := lv_sub hl (l' := [(7, .int (nI y)), (6, .int 0), (5, .int 0), (4, .int (nI t)), (3, .int (nI y)), (2, .int (nI x)), (1, .ref (qA B 3 k)), (0, .ref (qA B 5 0))]) [0, 1, 2, 7, 6, 5, 4, 3] rfl
  generalize hQe : MQ _ _ _ _ _ _ _ = Q
  have inner : ∀ (jj : Nat), jj < d → (∀ ls : Array Slot, lv_has ls 10 [(7, .int (nI (y + jj))), (6, .int (nI (qgr f ((jj + 1) * w)))), (5, .int (nI (qmx f ((jj + 1) * w)))), (4, .int (nI t)), (3, .int (nI y)), (2, .int (nI x)), (1, .ref (qA B 3 k)), (0, .ref (qA B 5 0))] → W p l e R9 s m ([.ref (qA B 5 0), .ref (qA B 3 k), .int (nI x), .int (nI y), .int (nI t)] : List Value).toArray below meth c H locs 0 0 Q (F0 m 109 ls [])) → ∀ (k9 ii : Nat), ii + k9 = w → ∀ (ls : Array Slot), lv_has ls 10 [(8, .int (nI (x + ii))), (7, .int (nI (y + jj))), (6, .int (nI (qgr f (jj * w + ii)))), (5, .int (nI (qmx f (jj * w + ii)))), (4, .int (nI t)), (3, .int (nI y)), (2, .int (nI x)), (1, .ref (qA B 3 k)), (0, .ref (qA B 5 0))] → W p l e R9 s m ([.ref (qA B 5 0), .ref (qA B 3 k), .int (nI x), .int (nI y), .int (nI t)] : List Value).toArray below meth c H locs 0 0 Q (F0 m 52 ls []) := by
    intro jj hjj out k9
    induction k9 with
    | zero =>
      intro ii hi ls hl
      obtain rfl : w = ii := by omega
      refine lv_iload hx hb dX3_letDown_52 (lv_at hl 0 rfl) ?_
      refine lv_iload_n hx hb dX3_letDown_54 rfl (lv_at hl 6 rfl) ?_
      refine lv_aload_n hx hb dX3_letDown_55 rfl (lv_at hl 8 rfl) ?_
      refine va_get (D := D) (ci := 3) (v := .ref (qA B 0 60)) (C := RX3) (T := TX3) (N := 14) hx hb hts (fun _ h9 => List.mem_cons_of_mem _ (List.mem_append_left _ (List.mem_append_left _ (List.mem_append_right _ h9)))) hown hK hP 0 rfl rfl 11 (by decide) (hts (.fieldLink RX3 52 "PalletStack" "trial" "LPalletStack$Item;") (List.mem_of_getElem? (i := 1) (by rfl))) (fun _ h9 => h9) rfl dX3_letDown_56 ?_
      refine va_get (D := D) (ci := 0) (v := .int (nI (N_21 0 60 4))) (C := RX0) (T := TX0) (N := 18) hx hb hts (fun _ h9 => List.mem_cons_of_mem _ (List.mem_append_left _ (List.mem_append_right _ h9))) hown hK hP (5 + 60) (qG_i (by omega)) rfl 4 (by decide) (hts (.fieldLink RX3 185 "PalletStack$Item" "width" "I") (List.mem_of_getElem? (i := 5) (by rfl))) (fun _ h9 => h9) rfl dX3_letDown_59 ?_
      refine lv_topi (fun v_22 ev_22 => ?_)
      obtain rfl : v_22 = (nI w) := ev_22.trans (by rw [g4])
      refine lv_iadd hx hb dX3_letDown_62 ?_
      refine lv_topi (fun v_23 ev_23 => ?_)
      obtain rfl : v_23 = (nI (x + w)) := ev_23.trans (nI_add _ _)
      refine lv_icmp_ge (tgt := 109) hx hb dX3_letDown_63 (by decide) (fun c_24 => ?_) (fun c_24 => absurd (Int32.le_refl _) c_24)
      have hl := lv_sub hl (l' := [(7, .int (nI (y + jj))), (6, .int (nI (qgr f (jj * w + w)))), (5, .int (nI (qmx f (jj * w + w)))), (4, .int (nI t)), (3, .int (nI y)), (2, .int (nI x)), (1, .ref (qA B 3 k)), (0, .ref (qA B 5 0))]) [1, 2, 3, 4, 5, 6, 7, 8] rfl
      rw [show jj * w + w = (jj + 1) * w from (Nat.succ_mul jj w).symm] at hl
      exact out ls hl
    | succ k9 ih =>
      intro ii hi ls hl
      have h1 := hwd jj (by omega)
      have h2 := hwd (jj + 1) (by omega)
      rw [Nat.succ_mul] at h2
      obtain ⟨e, he⟩ : ∃ e, e = jj * w + ii := ⟨_, rfl⟩
      have he1 : jj * w + (ii + 1) = e + 1 := by omega
      have hfe : f e = N 4 0 ((y + jj) * 12 + (x + ii)) := by rw [hf, he]; exact qf_at _ _ _ _ _ (by omega)
      have hfb := hfM e
      have hmb := hmM e
      have hgb := hgM e
      rw [← he] at hl
      refine lv_iload hx hb dX3_letDown_52 (lv_at hl 0 rfl) ?_
      refine lv_iload_n hx hb dX3_letDown_54 rfl (lv_at hl 6 rfl) ?_
      refine lv_aload_n hx hb dX3_letDown_55 rfl (lv_at hl 8 rfl) ?_
      refine va_get (D := D) (ci := 3) (v := .ref (qA B 0 60)) (C := RX3) (T := TX3) (N := 14) hx hb hts (fun _ h9 => List.mem_cons_of_mem _ (List.mem_append_left _ (List.mem_append_left _ (List.mem_append_right _ h9)))) hown hK hP 0 rfl rfl 11 (by decide) (hts (.fieldLink RX3 52 "PalletStack" "trial" "LPalletStack$Item;") (List.mem_of_getElem? (i := 1) (by rfl))) (fun _ h9 => h9) rfl dX3_letDown_56 ?_
      refine va_get (D := D) (ci := 0) (v := .int (nI (N_21 0 60 4))) (C := RX0) (T := TX0) (N := 18) hx hb hts (fun _ h9 => List.mem_cons_of_mem _ (List.mem_append_left _ (List.mem_append_right _ h9))) hown hK hP (5 + 60) (qG_i (by omega)) rfl 4 (by decide) (hts (.fieldLink RX3 185 "PalletStack$Item" "width" "I") (List.mem_of_getElem? (i := 5) (by rfl))) (fun _ h9 => h9) rfl dX3_letDown_59 ?_
      refine lv_topi (fun v_25 ev_25 => ?_)
      obtain rfl : v_25 = (nI w) := ev_25.trans (by rw [g4])
      refine lv_iadd hx hb dX3_letDown_62 ?_
      refine lv_topi (fun v_26 ev_26 => ?_)
      obtain rfl : v_26 = (nI (x + w)) := ev_26.trans (nI_add _ _)
      refine lv_icmp_ge (tgt := 109) hx hb dX3_letDown_63 (by decide) (fun c_27 => absurd c_27 (nI_ge (by omega) (by omega))) (fun c_27 => ?_)
      refine lv_aload_n hx hb dX3_letDown_66 rfl (lv_at hl 8 rfl) ?_
      refine lv_iload hx hb dX3_letDown_67 (lv_at hl 0 rfl) ?_
      refine lv_iload hx hb dX3_letDown_69 (lv_at hl 1 rfl) ?_
      refine zrdV2 (As := [.int (nI (x + ii)), .int (nI (y + jj))]) (rest := []) (wc := qG B R N_21) ⟨hx, hb, hml, hown, hts⟩ (c_topOf l D _ B R N_21 (x + ii) (y + jj) (by omega) (by omega)) (cwV 2 hts gX3_letDown_X3_topOf rfl rfl rfl (by decide +kernel) ⟨by rw [hRf]; exact Nat.le_of_ble_eq_true rfl, by rw [hRl]; exact Nat.le_of_ble_eq_true rfl⟩) hK hP hD [0, 1, 2, 3] rfl (ci := 3) (q0 := 0) rfl rfl rfl hl.1 rfl (Nat.le_of_ble_eq_true rfl) dX3_letDown_71 ⟨by omega, by omega⟩ (fun r_28 hr_28 => ?_)
      refine lv_topi (fun v_29 ev_29 => ?_)
      obtain rfl : v_29 = (nI (f e)) := ev_29.trans (hr_28.trans (by rw [gT _ _ _ (by omega), hfe]))
      refine lv_istore (lv' := [(9, .int (nI (f e))), (8, .int (nI (x + ii))), (7, .int (nI (y + jj))), (6, .int (nI (qgr f e))), (5, .int (nI (qmx f e))), (4, .int (nI t)), (3, .int (nI y)), (2, .int (nI x)), (1, .ref (qA B 3 k)), (0, .ref (qA B 5 0))]) hx hb dX3_letDown_74 hl (by decide) rfl (fun ls hl => ?_)
      refine lv_iload hx hb dX3_letDown_76 (lv_at hl 0 rfl) ?_
      refine lv_iload hx hb dX3_letDown_78 (lv_at hl 4 rfl) ?_
      refine lv_icmp_le (tgt := 93) hx hb dX3_letDown_80 (by decide) (fun c_30 => ?_) (fun c_30 => ?_)
      · have h_b := True.intro
        have k_31 : (f e) ≤ (qmx f e) := (nI_leI (a := (f e)) (b := (qmx f e)) (by omega) (by omega)).mp c_30
        refine lv_iload hx hb dX3_letDown_93 (lv_at hl 0 rfl) ?_
        refine lv_iload hx hb dX3_letDown_95 (lv_at hl 4 rfl) ?_
        refine lv_icmp_ne (tgt := 103) hx hb dX3_letDown_97 (by decide) (fun c_32 => ?_) (fun c_32 => ?_)
        · have h_b := True.intro
          have k_33 : ¬ ((f e) = (qmx f e)) := fun h9 => c_32 ((qeq (a := (f e)) (b := (qmx f e)) (by omega) (by omega)).mpr h9)
          refine lv_iinc (v := (nI (x + (ii + 1)))) (lv' := [(8, .int (nI (x + (ii + 1)))), (9, .int (nI (f e))), (7, .int (nI (y + jj))), (6, .int (nI (qgr f e))), (5, .int (nI (qmx f e))), (4, .int (nI t)), (3, .int (nI y)), (2, .int (nI x)), (1, .ref (qA B 3 k)), (0, .ref (qA B 5 0))]) hx hb dX3_letDown_103 hl (k := 1) rfl ((nI_add _ 1)) (by decide) rfl (fun ls hl => ?_)
          refine lv_goto (tgt := 52) hx hb dX3_letDown_106 (by decide) ?_
          have hl := lv_sub hl (l' := [(8, .int (nI (x + (ii + 1)))), (7, .int (nI (y + jj))), (6, .int (nI (qgr f e))), (5, .int (nI (qmx f e))), (4, .int (nI t)), (3, .int (nI y)), (2, .int (nI x)), (1, .ref (qA B 3 k)), (0, .ref (qA B 5 0))]) [0, 2, 3, 4, 5, 6, 7, 8, 9] rfl
          obtain ⟨q1, q2⟩ := qgr_dn (f := f) (e := e) (by omega)
          refine ih (ii + 1) (by omega) ls ?_
          rw [he1, q1, q2]; exact hl
        · have h_b := True.intro
          have k_34 : (f e) = (qmx f e) := (qeq (a := (f e)) (b := (qmx f e)) (by omega) (by omega)).mp c_32
          refine lv_iinc (v := (nI (qgr f e + 1))) (lv' := [(6, .int (nI (qgr f e + 1))), (9, .int (nI (f e))), (8, .int (nI (x + ii))), (7, .int (nI (y + jj))), (5, .int (nI (qmx f e))), (4, .int (nI t)), (3, .int (nI y)), (2, .int (nI x)), (1, .ref (qA B 3 k)), (0, .ref (qA B 5 0))]) hx hb dX3_letDown_100 hl (k := 3) rfl ((nI_add _ 1)) (by decide) rfl (fun ls hl => ?_)
          refine lv_iinc (v := (nI (x + (ii + 1)))) (lv' := [(8, .int (nI (x + (ii + 1)))), (6, .int (nI (qgr f e + 1))), (9, .int (nI (f e))), (7, .int (nI (y + jj))), (5, .int (nI (qmx f e))), (4, .int (nI t)), (3, .int (nI y)), (2, .int (nI x)), (1, .ref (qA B 3 k)), (0, .ref (qA B 5 0))]) hx hb dX3_letDown_103 hl (k := 2) rfl ((nI_add _ 1)) (by decide) rfl (fun ls hl => ?_)
          refine lv_goto (tgt := 52) hx hb dX3_letDown_106 (by decide) ?_
          have hl := lv_sub hl (l' := [(8, .int (nI (x + (ii + 1)))), (7, .int (nI (y + jj))), (6, .int (nI (qgr f e + 1))), (5, .int (nI (qmx f e))), (4, .int (nI t)), (3, .int (nI y)), (2, .int (nI x)), (1, .ref (qA B 3 k)), (0, .ref (qA B 5 0))]) [0, 3, 1, 4, 5, 6, 7, 8, 9] rfl
          obtain ⟨q1, q2⟩ := qgr_eq (f := f) (e := e) (by omega)
          refine ih (ii + 1) (by omega) ls ?_
          rw [he1, q1, q2]; exact hl
      · have h_b := True.intro
        have k_35 : ¬ ((f e) ≤ (qmx f e)) := fun h9 => c_30 ((nI_leI (a := (f e)) (b := (qmx f e)) (by omega) (by omega)).mpr h9)
        refine lv_iload hx hb dX3_letDown_83 (lv_at hl 0 rfl) ?_
        refine lv_istore (lv' := [(5, .int (nI (f e))), (9, .int (nI (f e))), (8, .int (nI (x + ii))), (7, .int (nI (y + jj))), (6, .int (nI (qgr f e))), (4, .int (nI t)), (3, .int (nI y)), (2, .int (nI x)), (1, .ref (qA B 3 k)), (0, .ref (qA B 5 0))]) hx hb dX3_letDown_85 hl (by decide) rfl (fun ls hl => ?_)
        refine lv_iconst (v := 1) hx hb dX3_letDown_87 (by decide) ?_
        refine lv_istore (lv' := [(6, .int 1), (5, .int (nI (f e))), (9, .int (nI (f e))), (8, .int (nI (x + ii))), (7, .int (nI (y + jj))), (4, .int (nI t)), (3, .int (nI y)), (2, .int (nI x)), (1, .ref (qA B 3 k)), (0, .ref (qA B 5 0))]) hx hb dX3_letDown_88 hl (by decide) rfl (fun ls hl => ?_)
        refine lv_goto (tgt := 103) hx hb dX3_letDown_90 (by decide) ?_
        refine lv_iinc (v := (nI (x + (ii + 1)))) (lv' := [(8, .int (nI (x + (ii + 1)))), (6, .int 1), (5, .int (nI (f e))), (9, .int (nI (f e))), (7, .int (nI (y + jj))), (4, .int (nI t)), (3, .int (nI y)), (2, .int (nI x)), (1, .ref (qA B 3 k)), (0, .ref (qA B 5 0))]) hx hb dX3_letDown_103 hl (k := 3) rfl ((nI_add _ 1)) (by decide) rfl (fun ls hl => ?_)
        refine lv_goto (tgt := 52) hx hb dX3_letDown_106 (by decide) ?_
        have hl := lv_sub hl (l' := [(8, .int (nI (x + (ii + 1)))), (7, .int (nI (y + jj))), (6, .int 1), (5, .int (nI (f e))), (4, .int (nI t)), (3, .int (nI y)), (2, .int (nI x)), (1, .ref (qA B 3 k)), (0, .ref (qA B 5 0))]) [0, 4, 1, 2, 5, 6, 7, 8, 9] rfl
        obtain ⟨q1, q2⟩ := qgr_up (f := f) (e := e) (Nat.lt_of_not_le k_35)
        refine ih (ii + 1) (by omega) ls ?_
        rw [he1, q1, q2]; exact hl
  have outer : ∀ (k9 jj : Nat), jj + k9 = d → ∀ (ls : Array Slot), lv_has ls 10 [(7, .int (nI (y + jj))), (6, .int (nI (qgr f (jj * w)))), (5, .int (nI (qmx f (jj * w)))), (4, .int (nI t)), (3, .int (nI y)), (2, .int (nI x)), (1, .ref (qA B 3 k)), (0, .ref (qA B 5 0))] → W p l e R9 s m ([.ref (qA B 5 0), .ref (qA B 3 k), .int (nI x), .int (nI y), .int (nI t)] : List Value).toArray below meth c H locs 0 0 Q (F0 m 35 ls []) := by
    intro k9
    induction k9 with
    | zero =>
      intro jj hj ls hl
      obtain rfl : d = jj := by omega
      have h1 := hwd d (by omega)
      have hmb := hmM (d * w)
      have hgb := hgM (d * w)
      have k3 := hM 2 k 3
      refine lv_iload hx hb dX3_letDown_35 (lv_at hl 0 rfl) ?_
      refine lv_iload_n hx hb dX3_letDown_37 rfl (lv_at hl 4 rfl) ?_
      refine lv_aload_n hx hb dX3_letDown_38 rfl (lv_at hl 7 rfl) ?_
      refine va_get (D := D) (ci := 3) (v := .ref (qA B 0 60)) (C := RX3) (T := TX3) (N := 14) hx hb hts (fun _ h9 => List.mem_cons_of_mem _ (List.mem_append_left _ (List.mem_append_left _ (List.mem_append_right _ h9)))) hown hK hP 0 rfl rfl 11 (by decide) (hts (.fieldLink RX3 52 "PalletStack" "trial" "LPalletStack$Item;") (List.mem_of_getElem? (i := 1) (by rfl))) (fun _ h9 => h9) rfl dX3_letDown_39 ?_
      refine va_get (D := D) (ci := 0) (v := .int (nI (N_21 0 60 5))) (C := RX0) (T := TX0) (N := 18) hx hb hts (fun _ h9 => List.mem_cons_of_mem _ (List.mem_append_left _ (List.mem_append_right _ h9))) hown hK hP (5 + 60) (qG_i (by omega)) rfl 5 (by decide) (hts (.fieldLink RX3 179 "PalletStack$Item" "depth" "I") (List.mem_of_getElem? (i := 4) (by rfl))) (fun _ h9 => h9) rfl dX3_letDown_42 ?_
      refine lv_topi (fun v_36 ev_36 => ?_)
      obtain rfl : v_36 = (nI d) := ev_36.trans (by rw [g5])
      refine lv_iadd hx hb dX3_letDown_45 ?_
      refine lv_topi (fun v_37 ev_37 => ?_)
      obtain rfl : v_37 = (nI (y + d)) := ev_37.trans (nI_add _ _)
      refine lv_icmp_ge (tgt := 115) hx hb dX3_letDown_46 (by decide) (fun c_38 => ?_) (fun c_38 => absurd (Int32.le_refl _) c_38)
      refine lv_aload_n hx hb dX3_letDown_115 rfl (lv_at hl 7 rfl) ?_
      refine va_get (D := D) (ci := 3) (v := .ref (qA B 0 60)) (C := RX3) (T := TX3) (N := 14) hx hb hts (fun _ h9 => List.mem_cons_of_mem _ (List.mem_append_left _ (List.mem_append_left _ (List.mem_append_right _ h9)))) hown hK hP 0 rfl rfl 11 (by decide) (hts (.fieldLink RX3 52 "PalletStack" "trial" "LPalletStack$Item;") (List.mem_of_getElem? (i := 1) (by rfl))) (fun _ h9 => h9) rfl dX3_letDown_116 ?_
      refine lv_iload hx hb dX3_letDown_119 (lv_at hl 2 rfl) ?_
      refine va_put (D := D) (ci := 0) (v := .int (nI (qmx f (d * w)))) (ty := .int) (C := RX0) (T := TX0) (N := 18) hx hb hts (fun _ h9 => List.mem_cons_of_mem _ (List.mem_append_left _ (List.mem_append_right _ h9))) tyX0 tyX0_ok nmX0 hown hK hP hD hS (5 + 60) (qG_i (by omega)) rfl 8 (by decide) (hts (.fieldLink RX3 131 "PalletStack$Item" "bottom" "I") (List.mem_of_getElem? (i := 6) (by rfl))) (fun _ h9 => h9) rfl (by decide +kernel) rfl rfl (Nat.le_of_ble_eq_true rfl) dX3_letDown_121 (fun H locs hP hD hS => ?_)
      rw [qG_pi (by omega) (by decide)] at hP hD
      obtain ⟨N_39, hN_39⟩ : ∃ z : qN0, z = qp N_21 0 60 8 (qmx f (d * w)) := ⟨_, rfl⟩
      rw [← hN_39] at hP hD
      have hP : va_P D vwCl (qG B R N_39) H := hP
      have hD : va_D A (qG B R N_39) := hD
      refine lv_aload_n hx hb dX3_letDown_124 rfl (lv_at hl 7 rfl) ?_
      refine va_get (D := D) (ci := 3) (v := .ref (qA B 0 60)) (C := RX3) (T := TX3) (N := 14) hx hb hts (fun _ h9 => List.mem_cons_of_mem _ (List.mem_append_left _ (List.mem_append_left _ (List.mem_append_right _ h9)))) hown hK hP 0 rfl rfl 11 (by decide) (hts (.fieldLink RX3 52 "PalletStack" "trial" "LPalletStack$Item;") (List.mem_of_getElem? (i := 1) (by rfl))) (fun _ h9 => h9) rfl dX3_letDown_125 ?_
      refine lv_iload hx hb dX3_letDown_128 (lv_at hl 2 rfl) ?_
      refine lv_aload_n hx hb dX3_letDown_130 rfl (lv_at hl 6 rfl) ?_
      refine va_get (D := D) (ci := 1) (v := .int (nI (N_39 2 k 3))) (C := RX1) (T := TX1) (N := 8) hx hb hts (fun _ h9 => List.mem_cons_of_mem _ (List.mem_append_right _ h9)) hown hK hP (188 + k) (qG_d hk) rfl 3 (by decide) (hts (.fieldLink RX3 254 "PalletStack$Kind" "height" "I") (List.mem_of_getElem? (i := 7) (by rfl))) (fun _ h9 => h9) rfl dX3_letDown_131 ?_
      refine lv_topi (fun v_40 ev_40 => ?_)
      obtain rfl : v_40 = (nI (N_21 2 k 3)) := ev_40.trans (congrArg nI (by simp [hN_39, qp]))
      refine lv_topi (fun v_41 ev_41 => ?_)
      obtain rfl : v_41 = (nI (N 2 k 3)) := ev_41.trans (congrArg nI (gT _ _ _ (by omega)))
      refine lv_iadd hx hb dX3_letDown_134 ?_
      refine lv_topi (fun v_42 ev_42 => ?_)
      obtain rfl : v_42 = (nI (qmx f (d * w) + N 2 k 3)) := ev_42.trans (nI_add _ _)
      refine va_put (D := D) (ci := 0) (v := .int (nI (qmx f (d * w) + N 2 k 3))) (ty := .int) (C := RX0) (T := TX0) (N := 18) hx hb hts (fun _ h9 => List.mem_cons_of_mem _ (List.mem_append_left _ (List.mem_append_right _ h9))) tyX0 tyX0_ok nmX0 hown hK hP hD hS (5 + 60) (qG_i (by omega)) rfl 9 (by decide) (hts (.fieldLink RX3 134 "PalletStack$Item" "top" "I") (List.mem_of_getElem? (i := 8) (by rfl))) (fun _ h9 => h9) rfl (by decide +kernel) rfl rfl (Nat.le_of_ble_eq_true rfl) dX3_letDown_135 (fun H locs hP hD hS => ?_)
      rw [qG_pi (by omega) (by decide)] at hP hD
      obtain ⟨N_43, hN_43⟩ : ∃ z : qN0, z = qp N_39 0 60 9 (qmx f (d * w) + N 2 k 3) := ⟨_, rfl⟩
      rw [← hN_43] at hP hD
      have hP : va_P D vwCl (qG B R N_43) H := hP
      have hD : va_D A (qG B R N_43) := hD
      refine lv_aload_n hx hb dX3_letDown_138 rfl (lv_at hl 7 rfl) ?_
      refine va_get (D := D) (ci := 3) (v := .ref (qA B 0 60)) (C := RX3) (T := TX3) (N := 14) hx hb hts (fun _ h9 => List.mem_cons_of_mem _ (List.mem_append_left _ (List.mem_append_left _ (List.mem_append_right _ h9)))) hown hK hP 0 rfl rfl 11 (by decide) (hts (.fieldLink RX3 52 "PalletStack" "trial" "LPalletStack$Item;") (List.mem_of_getElem? (i := 1) (by rfl))) (fun _ h9 => h9) rfl dX3_letDown_139 ?_
      refine lv_iload hx hb dX3_letDown_142 (lv_at hl 1 rfl) ?_
      refine va_put (D := D) (ci := 0) (v := .int (nI (qgr f (d * w)))) (ty := .int) (C := RX0) (T := TX0) (N := 18) hx hb hts (fun _ h9 => List.mem_cons_of_mem _ (List.mem_append_left _ (List.mem_append_right _ h9))) tyX0 tyX0_ok nmX0 hown hK hP hD hS (5 + 60) (qG_i (by omega)) rfl 10 (by decide) (hts (.fieldLink RX3 214 "PalletStack$Item" "ground" "I") (List.mem_of_getElem? (i := 9) (by rfl))) (fun _ h9 => h9) rfl (by decide +kernel) rfl rfl (Nat.le_of_ble_eq_true rfl) dX3_letDown_144 (fun H locs hP hD hS => ?_)
      rw [qG_pi (by omega) (by decide)] at hP hD
      obtain ⟨N_44, hN_44⟩ : ∃ z : qN0, z = qp N_43 0 60 10 (qgr f (d * w)) := ⟨_, rfl⟩
      rw [← hN_44] at hP hD
      have hP : va_P D vwCl (qG B R N_44) H := hP
      have hD : va_D A (qG B R N_44) := hD
      have hend : N_44 = qld N k x y t := by rw [hN_44, hN_43, hN_39, hN_21, hN_20, show qmx f (d * w) = qbt N k x y t by unfold qbt; rw [hf, hw, hd, Nat.mul_comm], show qgr f (d * w) = qgd N k x y t by unfold qgd; rw [hf, hw, hd, Nat.mul_comm]]; exact qld_eq hwu_19
      rw [← hQe]
      exact W.vret hx hb hr (fun t ht hW => ⟨⟨N_44, rfl, hend, ⟨Nat.zero_le _, by rw [ht]; exact hP, va_K.moved hW.alike (hK.sub (tys' := []) [] rfl), hD⟩⟩, hS.F ht⟩) hS.2.2 dX3_letDown_147
    | succ k9 ih =>
      intro jj hj ls hl
      refine lv_iload hx hb dX3_letDown_35 (lv_at hl 0 rfl) ?_
      refine lv_iload_n hx hb dX3_letDown_37 rfl (lv_at hl 4 rfl) ?_
      refine lv_aload_n hx hb dX3_letDown_38 rfl (lv_at hl 7 rfl) ?_
      refine va_get (D := D) (ci := 3) (v := .ref (qA B 0 60)) (C := RX3) (T := TX3) (N := 14) hx hb hts (fun _ h9 => List.mem_cons_of_mem _ (List.mem_append_left _ (List.mem_append_left _ (List.mem_append_right _ h9)))) hown hK hP 0 rfl rfl 11 (by decide) (hts (.fieldLink RX3 52 "PalletStack" "trial" "LPalletStack$Item;") (List.mem_of_getElem? (i := 1) (by rfl))) (fun _ h9 => h9) rfl dX3_letDown_39 ?_
      refine va_get (D := D) (ci := 0) (v := .int (nI (N_21 0 60 5))) (C := RX0) (T := TX0) (N := 18) hx hb hts (fun _ h9 => List.mem_cons_of_mem _ (List.mem_append_left _ (List.mem_append_right _ h9))) hown hK hP (5 + 60) (qG_i (by omega)) rfl 5 (by decide) (hts (.fieldLink RX3 179 "PalletStack$Item" "depth" "I") (List.mem_of_getElem? (i := 4) (by rfl))) (fun _ h9 => h9) rfl dX3_letDown_42 ?_
      refine lv_topi (fun v_45 ev_45 => ?_)
      obtain rfl : v_45 = (nI d) := ev_45.trans (by rw [g5])
      refine lv_iadd hx hb dX3_letDown_45 ?_
      refine lv_topi (fun v_46 ev_46 => ?_)
      obtain rfl : v_46 = (nI (y + d)) := ev_46.trans (nI_add _ _)
      refine lv_icmp_ge (tgt := 115) hx hb dX3_letDown_46 (by decide) (fun c_47 => absurd c_47 (nI_ge (by omega) (by omega))) (fun c_47 => ?_)
      refine lv_iload_n hx hb dX3_letDown_49 rfl (lv_at hl 5 rfl) ?_
      refine lv_istore (lv' := [(8, .int (nI x)), (7, .int (nI (y + jj))), (6, .int (nI (qgr f (jj * w)))), (5, .int (nI (qmx f (jj * w)))), (4, .int (nI t)), (3, .int (nI y)), (2, .int (nI x)), (1, .ref (qA B 3 k)), (0, .ref (qA B 5 0))]) hx hb dX3_letDown_50 hl (by decide) rfl (fun ls hl => ?_)
      have hl := lv_sub hl (l' := [(8, .int (nI x)), (7, .int (nI (y + jj))), (6, .int (nI (qgr f (jj * w)))), (5, .int (nI (qmx f (jj * w)))), (4, .int (nI t)), (3, .int (nI y)), (2, .int (nI x)), (1, .ref (qA B 3 k)), (0, .ref (qA B 5 0))]) [0, 1, 2, 3, 4, 5, 6, 7, 8] rfl
      refine inner jj (by omega) (fun ls hl => ?_) w 0 (by omega) ls hl
      refine lv_iinc (v := (nI (y + (jj + 1)))) (lv' := [(7, .int (nI (y + (jj + 1)))), (6, .int (nI (qgr f ((jj + 1) * w)))), (5, .int (nI (qmx f ((jj + 1) * w)))), (4, .int (nI t)), (3, .int (nI y)), (2, .int (nI x)), (1, .ref (qA B 3 k)), (0, .ref (qA B 5 0))]) hx hb dX3_letDown_109 hl (k := 0) rfl ((nI_add _ 1)) (by decide) rfl (fun ls hl => ?_)
      refine lv_goto (tgt := 35) hx hb dX3_letDown_112 (by decide) ?_
      have hl := lv_sub hl (l' := [(7, .int (nI (y + (jj + 1)))), (6, .int (nI (qgr f ((jj + 1) * w)))), (5, .int (nI (qmx f ((jj + 1) * w)))), (4, .int (nI t)), (3, .int (nI y)), (2, .int (nI x)), (1, .ref (qA B 3 k)), (0, .ref (qA B 5 0))]) [0, 1, 2, 3, 4, 5, 6, 7] rfl
      exact ih (jj + 1) (by omega) ls hl
  refine outer d 0 (by omega) ls ?_
  rw [Nat.zero_mul]; exact hl
set_option maxHeartbeats 4000000 in
set_option maxRecDepth 100000 in
theorem c_isGround (l : Launch) (D : zG) (sz : Nat) (B : qB) (R : qR0) (N : qN0) (a b : Nat) (ha : a < 12) (hb2 : b < 10) : Met l yX3_isGround wsX3_isGround ({ frames := 1, cells := 0, slots := 0, locals := 30 }) (zPc D (qT B) (qG B R N) sz [.ref (qA B 5 0), .int (nI a), .int (nI b)]) (vp_Si (fun r => True)) 0 0 (fun _ => False) := by
  refine Met.ofW (cc := cX3_isGround) (maxL := 3) (ret := (some .boolean)) (by decide) rfl ?_
  intro p e s m args below meth c s₁ B9 hml hv
  obtain ⟨rfl, hsz, hP, hK, hD0⟩ := hv
  have hx := B9.exec
  have hb := B9.bytes
  have hr := B9.returns
  have hts := atoms_spec (ws := wsX3_isGround) B9.pre
  have hown : s.vm.findClass RX3 = some m.cls := findClass_of_methodNamed B9.named
  have hlocks := B9.notSynchronized
  subst hsz
  have hD := hD0
  generalize hAe : (fun _ : Nat => True) = A at hD
  have hl := lv_entry ([.ref (qA B 5 0), .int (nI a), .int (nI b)]) (n := 3) (Nat.le_of_ble_eq_true rfl)
  rw [lg_entry_eq]
  generalize (lg_sl ([.ref (qA B 5 0), .int (nI a), .int (nI b)]) ++ List.replicate (3 - (lg_sl ([.ref (qA B 5 0), .int (nI a), .int (nI b)])).length) Slot.unset).toArray = ls at hl ⊢
  have hl : lv_has ls 3 [(0, .ref (qA B 5 0)), (1, .int (nI a)), (2, .int (nI b))] := hl
  have hP : va_P D vwCl (qG B R N) s.heap := hP
  generalize hRe : (headSpec _ _).room = R9
  have hRf : R9.frames = 1 := by rw [← hRe]; rfl
  have hRc : R9.cells = 0 := by rw [← hRe]; rfl
  have hRs : R9.slots = 0 := by rw [← hRe]; rfl
  have hRl : R9.locals = 30 := by rw [← hRe]; rfl
  clear hRe
  refine lv_aload_n hx hb dX3_isGround_0 rfl (lv_at hl 0 rfl) ?_
  refine lv_iload_n hx hb dX3_isGround_1 rfl (lv_at hl 1 rfl) ?_
  refine lv_iload_n hx hb dX3_isGround_2 rfl (lv_at hl 2 rfl) ?_
  refine zrdV2 (As := [.int (nI a), .int (nI b)]) (rest := []) (wc := qG B R N) ⟨hx, hb, hml, hown, hts⟩ (c_topOf l D _ B R N a b ha hb2) (cwV 2 hts gX3_isGround_X3_topOf rfl rfl rfl (by decide +kernel) ⟨by rw [hRf]; exact Nat.le_of_ble_eq_true rfl, by rw [hRl]; exact Nat.le_of_ble_eq_true rfl⟩) hK hP hD [0, 1, 2, 3] rfl (ci := 3) (q0 := 0) rfl rfl rfl hl.1 rfl (Nat.le_of_ble_eq_true rfl) dX3_isGround_3 ⟨by omega, by omega⟩ (fun r_48 hr_48 => ?_)
  refine lv_aload_n hx hb dX3_isGround_6 rfl (lv_at hl 0 rfl) ?_
  refine va_get (D := D) (ci := 3) (v := .ref (qA B 0 60)) (C := RX3) (T := TX3) (N := 14) hx hb hts (fun _ h9 => List.mem_cons_of_mem _ (List.mem_append_left _ (List.mem_append_right _ h9))) hown hK hP 0 rfl rfl 11 (by decide) (hts (.fieldLink RX3 52 "PalletStack" "trial" "LPalletStack$Item;") (List.mem_of_getElem? (i := 1) (by rfl))) (fun _ h9 => h9) rfl dX3_isGround_7 ?_
  refine va_get (D := D) (ci := 0) (v := .int (nI (N 0 60 8))) (C := RX0) (T := TX0) (N := 18) hx hb hts (fun _ h9 => List.mem_cons_of_mem _ (List.mem_append_right _ h9)) hown hK hP (5 + 60) (qG_i (by omega)) rfl 8 (by decide) (hts (.fieldLink RX3 131 "PalletStack$Item" "bottom" "I") (List.mem_of_getElem? (i := 2) (by rfl))) (fun _ h9 => h9) rfl dX3_isGround_10 ?_
  refine lv_icmp_ne (tgt := 20) hx hb dX3_isGround_13 (by decide) (fun c_49 => ?_) (fun c_49 => ?_)
  · have h_b := True.intro
    refine lv_iconst (v := 0) hx hb dX3_isGround_20 (by decide) ?_
    exact W.zret (ty := .boolean) (v := 0) hx hb hr rfl (fun t ht hW => ⟨0, rfl, trivial, ht⟩) (fun _ h => by cases h) dX3_isGround_21
  · have h_b := True.intro
    refine lv_iconst (v := 1) hx hb dX3_isGround_16 (by decide) ?_
    refine lv_goto (tgt := 21) hx hb dX3_isGround_17 (by decide) ?_
    exact W.zret (ty := .boolean) (v := 1) hx hb hr rfl (fun t ht hW => ⟨1, rfl, trivial, ht⟩) (fun _ h => by cases h) dX3_isGround_21
set_option maxHeartbeats 4000000 in
set_option maxRecDepth 100000 in
theorem c_corners (l : Launch) (D : zG) (sz : Nat) (B : qB) (R : qR0) (N : qN0) (h1 : 0 < N 0 60 4) (h2 : 0 < N 0 60 5) (h3 : N 0 60 6 + N 0 60 4 ≤ 12) (h4 : N 0 60 7 + N 0 60 5 ≤ 10) : Met l yX3_hasGroundAtCorners wsX3_hasGroundAtCorners ({ frames := 2, cells := 0, slots := 0, locals := 60 }) (zPc D (qT B) (qG B R N) sz [.ref (qA B 5 0)]) (vp_Si (fun r => True)) 0 0 (fun _ => False) := by
  refine Met.ofW (cc := cX3_hasGroundAtCorners) (maxL := 3) (ret := (some .boolean)) (by decide) rfl ?_
  intro p e s m args below meth c s₁ B9 hml hv
  obtain ⟨rfl, hsz, hP, hK, hD0⟩ := hv
  have hx := B9.exec
  have hb := B9.bytes
  have hr := B9.returns
  have hts := atoms_spec (ws := wsX3_hasGroundAtCorners) B9.pre
  have hown : s.vm.findClass RX3 = some m.cls := findClass_of_methodNamed B9.named
  have hlocks := B9.notSynchronized
  subst hsz
  have hD := hD0
  generalize hAe : (fun _ : Nat => True) = A at hD
  have hl := lv_entry ([.ref (qA B 5 0)]) (n := 3) (Nat.le_of_ble_eq_true rfl)
  rw [lg_entry_eq]
  generalize (lg_sl ([.ref (qA B 5 0)]) ++ List.replicate (3 - (lg_sl ([.ref (qA B 5 0)])).length) Slot.unset).toArray = ls at hl ⊢
  have hl : lv_has ls 3 [(0, .ref (qA B 5 0))] := hl
  have hP : va_P D vwCl (qG B R N) s.heap := hP
  generalize hRe : (headSpec _ _).room = R9
  have hRf : R9.frames = 2 := by rw [← hRe]; rfl
  have hRc : R9.cells = 0 := by rw [← hRe]; rfl
  have hRs : R9.slots = 0 := by rw [← hRe]; rfl
  have hRl : R9.locals = 60 := by rw [← hRe]; rfl
  clear hRe
  obtain ⟨X, hX⟩ : ∃ X, X + 1 = N 0 60 6 + N 0 60 4 := ⟨N 0 60 6 + N 0 60 4 - 1, by omega⟩
  obtain ⟨Y, hY⟩ : ∃ Y, Y + 1 = N 0 60 7 + N 0 60 5 := ⟨N 0 60 7 + N 0 60 5 - 1, by omega⟩
  refine lv_aload_n hx hb dX3_hasGroundAtCorners_0 rfl (lv_at hl 0 rfl) ?_
  refine va_get (D := D) (ci := 3) (v := .ref (qA B 0 60)) (C := RX3) (T := TX3) (N := 14) hx hb hts (fun _ h9 => List.mem_cons_of_mem _ (List.mem_append_left _ (List.mem_append_right _ h9))) hown hK hP 0 rfl rfl 11 (by decide) (hts (.fieldLink RX3 52 "PalletStack" "trial" "LPalletStack$Item;") (List.mem_of_getElem? (i := 1) (by rfl))) (fun _ h9 => h9) rfl dX3_hasGroundAtCorners_1 ?_
  refine va_get (D := D) (ci := 0) (v := .int (nI (N 0 60 6))) (C := RX0) (T := TX0) (N := 18) hx hb hts (fun _ h9 => List.mem_cons_of_mem _ (List.mem_append_right _ h9)) hown hK hP (5 + 60) (qG_i (by omega)) rfl 6 (by decide) (hts (.fieldLink RX3 182 "PalletStack$Item" "x" "I") (List.mem_of_getElem? (i := 2) (by rfl))) (fun _ h9 => h9) rfl dX3_hasGroundAtCorners_4 ?_
  refine lv_aload_n hx hb dX3_hasGroundAtCorners_7 rfl (lv_at hl 0 rfl) ?_
  refine va_get (D := D) (ci := 3) (v := .ref (qA B 0 60)) (C := RX3) (T := TX3) (N := 14) hx hb hts (fun _ h9 => List.mem_cons_of_mem _ (List.mem_append_left _ (List.mem_append_right _ h9))) hown hK hP 0 rfl rfl 11 (by decide) (hts (.fieldLink RX3 52 "PalletStack" "trial" "LPalletStack$Item;") (List.mem_of_getElem? (i := 1) (by rfl))) (fun _ h9 => h9) rfl dX3_hasGroundAtCorners_8 ?_
  refine va_get (D := D) (ci := 0) (v := .int (nI (N 0 60 4))) (C := RX0) (T := TX0) (N := 18) hx hb hts (fun _ h9 => List.mem_cons_of_mem _ (List.mem_append_right _ h9)) hown hK hP (5 + 60) (qG_i (by omega)) rfl 4 (by decide) (hts (.fieldLink RX3 185 "PalletStack$Item" "width" "I") (List.mem_of_getElem? (i := 3) (by rfl))) (fun _ h9 => h9) rfl dX3_hasGroundAtCorners_11 ?_
  refine lv_iadd hx hb dX3_hasGroundAtCorners_14 ?_
  refine lv_topi (fun v_50 ev_50 => ?_)
  obtain rfl : v_50 = (nI (X + 1)) := ev_50.trans ((nI_add _ _).trans (by rw [hX]))
  refine lv_iconst (v := 1) hx hb dX3_hasGroundAtCorners_15 (by decide) ?_
  refine lv_isub hx hb dX3_hasGroundAtCorners_16 ?_
  refine lv_topi (fun v_51 ev_51 => ?_)
  obtain rfl : v_51 = (nI X) := ev_51.trans (nI_pred X)
  refine lv_istore_n (lv' := [(1, .int (nI X)), (0, .ref (qA B 5 0))]) hx hb dX3_hasGroundAtCorners_17 rfl hl (by decide) rfl (fun ls hl => ?_)
  refine lv_aload_n hx hb dX3_hasGroundAtCorners_18 rfl (lv_at hl 1 rfl) ?_
  refine va_get (D := D) (ci := 3) (v := .ref (qA B 0 60)) (C := RX3) (T := TX3) (N := 14) hx hb hts (fun _ h9 => List.mem_cons_of_mem _ (List.mem_append_left _ (List.mem_append_right _ h9))) hown hK hP 0 rfl rfl 11 (by decide) (hts (.fieldLink RX3 52 "PalletStack" "trial" "LPalletStack$Item;") (List.mem_of_getElem? (i := 1) (by rfl))) (fun _ h9 => h9) rfl dX3_hasGroundAtCorners_19 ?_
  refine va_get (D := D) (ci := 0) (v := .int (nI (N 0 60 7))) (C := RX0) (T := TX0) (N := 18) hx hb hts (fun _ h9 => List.mem_cons_of_mem _ (List.mem_append_right _ h9)) hown hK hP (5 + 60) (qG_i (by omega)) rfl 7 (by decide) (hts (.fieldLink RX3 176 "PalletStack$Item" "y" "I") (List.mem_of_getElem? (i := 4) (by rfl))) (fun _ h9 => h9) rfl dX3_hasGroundAtCorners_22 ?_
  refine lv_aload_n hx hb dX3_hasGroundAtCorners_25 rfl (lv_at hl 1 rfl) ?_
  refine va_get (D := D) (ci := 3) (v := .ref (qA B 0 60)) (C := RX3) (T := TX3) (N := 14) hx hb hts (fun _ h9 => List.mem_cons_of_mem _ (List.mem_append_left _ (List.mem_append_right _ h9))) hown hK hP 0 rfl rfl 11 (by decide) (hts (.fieldLink RX3 52 "PalletStack" "trial" "LPalletStack$Item;") (List.mem_of_getElem? (i := 1) (by rfl))) (fun _ h9 => h9) rfl dX3_hasGroundAtCorners_26 ?_
  refine va_get (D := D) (ci := 0) (v := .int (nI (N 0 60 5))) (C := RX0) (T := TX0) (N := 18) hx hb hts (fun _ h9 => List.mem_cons_of_mem _ (List.mem_append_right _ h9)) hown hK hP (5 + 60) (qG_i (by omega)) rfl 5 (by decide) (hts (.fieldLink RX3 179 "PalletStack$Item" "depth" "I") (List.mem_of_getElem? (i := 5) (by rfl))) (fun _ h9 => h9) rfl dX3_hasGroundAtCorners_29 ?_
  refine lv_iadd hx hb dX3_hasGroundAtCorners_32 ?_
  refine lv_topi (fun v_52 ev_52 => ?_)
  obtain rfl : v_52 = (nI (Y + 1)) := ev_52.trans ((nI_add _ _).trans (by rw [hY]))
  refine lv_iconst (v := 1) hx hb dX3_hasGroundAtCorners_33 (by decide) ?_
  refine lv_isub hx hb dX3_hasGroundAtCorners_34 ?_
  refine lv_topi (fun v_53 ev_53 => ?_)
  obtain rfl : v_53 = (nI Y) := ev_53.trans (nI_pred Y)
  refine lv_istore_n (lv' := [(2, .int (nI Y)), (1, .int (nI X)), (0, .ref (qA B 5 0))]) hx hb dX3_hasGroundAtCorners_35 rfl hl (by decide) rfl (fun ls hl => ?_)
  refine lv_aload_n hx hb dX3_hasGroundAtCorners_36 rfl (lv_at hl 2 rfl) ?_
  refine lv_aload_n hx hb dX3_hasGroundAtCorners_37 rfl (lv_at hl 2 rfl) ?_
  refine va_get (D := D) (ci := 3) (v := .ref (qA B 0 60)) (C := RX3) (T := TX3) (N := 14) hx hb hts (fun _ h9 => List.mem_cons_of_mem _ (List.mem_append_left _ (List.mem_append_right _ h9))) hown hK hP 0 rfl rfl 11 (by decide) (hts (.fieldLink RX3 52 "PalletStack" "trial" "LPalletStack$Item;") (List.mem_of_getElem? (i := 1) (by rfl))) (fun _ h9 => h9) rfl dX3_hasGroundAtCorners_38 ?_
  refine va_get (D := D) (ci := 0) (v := .int (nI (N 0 60 6))) (C := RX0) (T := TX0) (N := 18) hx hb hts (fun _ h9 => List.mem_cons_of_mem _ (List.mem_append_right _ h9)) hown hK hP (5 + 60) (qG_i (by omega)) rfl 6 (by decide) (hts (.fieldLink RX3 182 "PalletStack$Item" "x" "I") (List.mem_of_getElem? (i := 2) (by rfl))) (fun _ h9 => h9) rfl dX3_hasGroundAtCorners_41 ?_
  refine lv_aload_n hx hb dX3_hasGroundAtCorners_44 rfl (lv_at hl 2 rfl) ?_
  refine va_get (D := D) (ci := 3) (v := .ref (qA B 0 60)) (C := RX3) (T := TX3) (N := 14) hx hb hts (fun _ h9 => List.mem_cons_of_mem _ (List.mem_append_left _ (List.mem_append_right _ h9))) hown hK hP 0 rfl rfl 11 (by decide) (hts (.fieldLink RX3 52 "PalletStack" "trial" "LPalletStack$Item;") (List.mem_of_getElem? (i := 1) (by rfl))) (fun _ h9 => h9) rfl dX3_hasGroundAtCorners_45 ?_
  refine va_get (D := D) (ci := 0) (v := .int (nI (N 0 60 7))) (C := RX0) (T := TX0) (N := 18) hx hb hts (fun _ h9 => List.mem_cons_of_mem _ (List.mem_append_right _ h9)) hown hK hP (5 + 60) (qG_i (by omega)) rfl 7 (by decide) (hts (.fieldLink RX3 176 "PalletStack$Item" "y" "I") (List.mem_of_getElem? (i := 4) (by rfl))) (fun _ h9 => h9) rfl dX3_hasGroundAtCorners_48 ?_
  refine zrdV2 (As := [.int (nI (N 0 60 6)), .int (nI (N 0 60 7))]) (rest := []) (wc := qG B R N) ⟨hx, hb, hml, hown, hts⟩ (c_isGround l D _ B R N (N 0 60 6) (N 0 60 7) (by omega) (by omega)) (cwV 2 hts gX3_hasGroundAtCorners_X3_isGround rfl rfl rfl (by decide +kernel) ⟨by rw [hRf]; exact Nat.le_of_ble_eq_true rfl, by rw [hRl]; exact Nat.le_of_ble_eq_true rfl⟩) hK hP hD [0, 1, 2, 3] rfl (ci := 3) (q0 := 0) rfl rfl rfl hl.1 rfl (Nat.le_of_ble_eq_true rfl) dX3_hasGroundAtCorners_51 ⟨by omega, by omega⟩ (fun r_54 hr_54 => ?_)
  refine lv_if_eq (tgt := 100) hx hb dX3_hasGroundAtCorners_54 (by decide) (fun c_55 => ?_) (fun c_55 => ?_)
  · have h_b := True.intro
    refine lv_iconst (v := 0) hx hb dX3_hasGroundAtCorners_100 (by decide) ?_
    exact W.zret (ty := .boolean) (v := 0) hx hb hr rfl (fun t ht hW => ⟨0, rfl, trivial, ht⟩) (fun _ h => by cases h) dX3_hasGroundAtCorners_101
  · have h_b := True.intro
    refine lv_aload_n hx hb dX3_hasGroundAtCorners_57 rfl (lv_at hl 2 rfl) ?_
    refine lv_iload_n hx hb dX3_hasGroundAtCorners_58 rfl (lv_at hl 1 rfl) ?_
    refine lv_aload_n hx hb dX3_hasGroundAtCorners_59 rfl (lv_at hl 2 rfl) ?_
    refine va_get (D := D) (ci := 3) (v := .ref (qA B 0 60)) (C := RX3) (T := TX3) (N := 14) hx hb hts (fun _ h9 => List.mem_cons_of_mem _ (List.mem_append_left _ (List.mem_append_right _ h9))) hown hK hP 0 rfl rfl 11 (by decide) (hts (.fieldLink RX3 52 "PalletStack" "trial" "LPalletStack$Item;") (List.mem_of_getElem? (i := 1) (by rfl))) (fun _ h9 => h9) rfl dX3_hasGroundAtCorners_60 ?_
    refine va_get (D := D) (ci := 0) (v := .int (nI (N 0 60 7))) (C := RX0) (T := TX0) (N := 18) hx hb hts (fun _ h9 => List.mem_cons_of_mem _ (List.mem_append_right _ h9)) hown hK hP (5 + 60) (qG_i (by omega)) rfl 7 (by decide) (hts (.fieldLink RX3 176 "PalletStack$Item" "y" "I") (List.mem_of_getElem? (i := 4) (by rfl))) (fun _ h9 => h9) rfl dX3_hasGroundAtCorners_63 ?_
    refine zrdV2 (As := [.int (nI X), .int (nI (N 0 60 7))]) (rest := []) (wc := qG B R N) ⟨hx, hb, hml, hown, hts⟩ (c_isGround l D _ B R N X (N 0 60 7) (by omega) (by omega)) (cwV 2 hts gX3_hasGroundAtCorners_X3_isGround rfl rfl rfl (by decide +kernel) ⟨by rw [hRf]; exact Nat.le_of_ble_eq_true rfl, by rw [hRl]; exact Nat.le_of_ble_eq_true rfl⟩) hK hP hD [0, 1, 2, 3] rfl (ci := 3) (q0 := 0) rfl rfl rfl hl.1 rfl (Nat.le_of_ble_eq_true rfl) dX3_hasGroundAtCorners_66 ⟨by omega, by omega⟩ (fun r_56 hr_56 => ?_)
    refine lv_if_eq (tgt := 100) hx hb dX3_hasGroundAtCorners_69 (by decide) (fun c_57 => ?_) (fun c_57 => ?_)
    · have h_b := True.intro
      refine lv_iconst (v := 0) hx hb dX3_hasGroundAtCorners_100 (by decide) ?_
      exact W.zret (ty := .boolean) (v := 0) hx hb hr rfl (fun t ht hW => ⟨0, rfl, trivial, ht⟩) (fun _ h => by cases h) dX3_hasGroundAtCorners_101
    · have h_b := True.intro
      refine lv_aload_n hx hb dX3_hasGroundAtCorners_72 rfl (lv_at hl 2 rfl) ?_
      refine lv_aload_n hx hb dX3_hasGroundAtCorners_73 rfl (lv_at hl 2 rfl) ?_
      refine va_get (D := D) (ci := 3) (v := .ref (qA B 0 60)) (C := RX3) (T := TX3) (N := 14) hx hb hts (fun _ h9 => List.mem_cons_of_mem _ (List.mem_append_left _ (List.mem_append_right _ h9))) hown hK hP 0 rfl rfl 11 (by decide) (hts (.fieldLink RX3 52 "PalletStack" "trial" "LPalletStack$Item;") (List.mem_of_getElem? (i := 1) (by rfl))) (fun _ h9 => h9) rfl dX3_hasGroundAtCorners_74 ?_
      refine va_get (D := D) (ci := 0) (v := .int (nI (N 0 60 6))) (C := RX0) (T := TX0) (N := 18) hx hb hts (fun _ h9 => List.mem_cons_of_mem _ (List.mem_append_right _ h9)) hown hK hP (5 + 60) (qG_i (by omega)) rfl 6 (by decide) (hts (.fieldLink RX3 182 "PalletStack$Item" "x" "I") (List.mem_of_getElem? (i := 2) (by rfl))) (fun _ h9 => h9) rfl dX3_hasGroundAtCorners_77 ?_
      refine lv_iload_n hx hb dX3_hasGroundAtCorners_80 rfl (lv_at hl 0 rfl) ?_
      refine zrdV2 (As := [.int (nI (N 0 60 6)), .int (nI Y)]) (rest := []) (wc := qG B R N) ⟨hx, hb, hml, hown, hts⟩ (c_isGround l D _ B R N (N 0 60 6) Y (by omega) (by omega)) (cwV 2 hts gX3_hasGroundAtCorners_X3_isGround rfl rfl rfl (by decide +kernel) ⟨by rw [hRf]; exact Nat.le_of_ble_eq_true rfl, by rw [hRl]; exact Nat.le_of_ble_eq_true rfl⟩) hK hP hD [0, 1, 2, 3] rfl (ci := 3) (q0 := 0) rfl rfl rfl hl.1 rfl (Nat.le_of_ble_eq_true rfl) dX3_hasGroundAtCorners_81 ⟨by omega, by omega⟩ (fun r_58 hr_58 => ?_)
      refine lv_if_eq (tgt := 100) hx hb dX3_hasGroundAtCorners_84 (by decide) (fun c_59 => ?_) (fun c_59 => ?_)
      · have h_b := True.intro
        refine lv_iconst (v := 0) hx hb dX3_hasGroundAtCorners_100 (by decide) ?_
        exact W.zret (ty := .boolean) (v := 0) hx hb hr rfl (fun t ht hW => ⟨0, rfl, trivial, ht⟩) (fun _ h => by cases h) dX3_hasGroundAtCorners_101
      · have h_b := True.intro
        refine lv_aload_n hx hb dX3_hasGroundAtCorners_87 rfl (lv_at hl 2 rfl) ?_
        refine lv_iload_n hx hb dX3_hasGroundAtCorners_88 rfl (lv_at hl 1 rfl) ?_
        refine lv_iload_n hx hb dX3_hasGroundAtCorners_89 rfl (lv_at hl 0 rfl) ?_
        refine zrdV2 (As := [.int (nI X), .int (nI Y)]) (rest := []) (wc := qG B R N) ⟨hx, hb, hml, hown, hts⟩ (c_isGround l D _ B R N X Y (by omega) (by omega)) (cwV 2 hts gX3_hasGroundAtCorners_X3_isGround rfl rfl rfl (by decide +kernel) ⟨by rw [hRf]; exact Nat.le_of_ble_eq_true rfl, by rw [hRl]; exact Nat.le_of_ble_eq_true rfl⟩) hK hP hD [0, 1, 2, 3] rfl (ci := 3) (q0 := 0) rfl rfl rfl hl.1 rfl (Nat.le_of_ble_eq_true rfl) dX3_hasGroundAtCorners_90 ⟨by omega, by omega⟩ (fun r_60 hr_60 => ?_)
        refine lv_if_eq (tgt := 100) hx hb dX3_hasGroundAtCorners_93 (by decide) (fun c_61 => ?_) (fun c_61 => ?_)
        · have h_b := True.intro
          refine lv_iconst (v := 0) hx hb dX3_hasGroundAtCorners_100 (by decide) ?_
          exact W.zret (ty := .boolean) (v := 0) hx hb hr rfl (fun t ht hW => ⟨0, rfl, trivial, ht⟩) (fun _ h => by cases h) dX3_hasGroundAtCorners_101
        · have h_b := True.intro
          refine lv_iconst (v := 1) hx hb dX3_hasGroundAtCorners_96 (by decide) ?_
          refine lv_goto (tgt := 101) hx hb dX3_hasGroundAtCorners_97 (by decide) ?_
          exact W.zret (ty := .boolean) (v := 1) hx hb hr rfl (fun t ht hW => ⟨1, rfl, trivial, ht⟩) (fun _ h => by cases h) dX3_hasGroundAtCorners_101
set_option maxHeartbeats 4000000 in
set_option maxRecDepth 100000 in
theorem c_isInField (l : Launch) (D : zG) (sz : Nat) (B : qB) (R : qR0) (N : qN0) (k x y t : Nat) (hk : k < qk B) (ht : t < 2) (hx9 : x < 12) (hy9 : y < 10) (hK9 : N 2 k 1 ≤ 6 ∧ N 2 k 2 ≤ 6 ∧ N 2 k 6 < 2) : Met l yX3_isInField wsX3_isInField ({ frames := 1, cells := 0, slots := 0, locals := 30 }) (zPc D (qT B) (qG B R N) sz [.ref (qA B 3 k), .int (nI x), .int (nI y), .int (nI t)]) (vp_Si (fun r => r = 0 ∨ (r = 1 ∧ (t = 1 → N 2 k 6 = 1) ∧ x + qwd N k t ≤ 12 ∧ y + qdp N k t ≤ 10))) 0 0 (fun _ => False) := by
  refine Met.ofW (cc := cX3_isInField) (maxL := 6) (ret := (some .boolean)) (by decide) rfl ?_
  intro p e s m args below meth c s₁ B9 hml hv
  obtain ⟨rfl, hsz, hP, hK, hD0⟩ := hv
  have hx := B9.exec
  have hb := B9.bytes
  have hr := B9.returns
  have hts := atoms_spec (ws := wsX3_isInField) B9.pre
  have hown : s.vm.findClass RX3 = some m.cls := findClass_of_methodNamed B9.named
  have hlocks := B9.notSynchronized
  subst hsz
  have hD := hD0
  generalize hAe : (fun _ : Nat => True) = A at hD
  have hl := lv_entry ([.ref (qA B 3 k), .int (nI x), .int (nI y), .int (nI t)]) (n := 6) (Nat.le_of_ble_eq_true rfl)
  rw [lg_entry_eq]
  generalize (lg_sl ([.ref (qA B 3 k), .int (nI x), .int (nI y), .int (nI t)]) ++ List.replicate (6 - (lg_sl ([.ref (qA B 3 k), .int (nI x), .int (nI y), .int (nI t)])).length) Slot.unset).toArray = ls at hl ⊢
  have hl : lv_has ls 6 [(0, .ref (qA B 3 k)), (1, .int (nI x)), (2, .int (nI y)), (3, .int (nI t))] := hl
  have hP : va_P D vwCl (qG B R N) s.heap := hP
  generalize hRe : (headSpec _ _).room = R9
  have hRf : R9.frames = 1 := by rw [← hRe]; rfl
  have hRc : R9.cells = 0 := by rw [← hRe]; rfl
  have hRs : R9.slots = 0 := by rw [← hRe]; rfl
  have hRl : R9.locals = 30 := by rw [← hRe]; rfl
  clear hRe
  obtain ⟨q1, q2, q6⟩ := hK9
  refine lv_iload_n hx hb dX3_isInField_0 rfl (lv_at hl 3 rfl) ?_
  refine lv_if_eq (tgt := 13) hx hb dX3_isInField_1 (by decide) (fun c_62 => ?_) (fun c_62 => ?_)
  · have h_b := True.intro
    obtain rfl : t = 0 := (qeq (by omega) (by decide)).mp c_62
    refine lv_iload_n hx hb dX3_isInField_13 rfl (lv_at hl 3 rfl) ?_
    refine lv_if_eq (tgt := 24) hx hb dX3_isInField_14 (by decide) (fun c_63 => ?_) (fun c_63 => absurd (rfl) c_63)
    refine lv_aload_n hx hb dX3_isInField_24 rfl (lv_at hl 0 rfl) ?_
    refine va_get (D := D) (ci := 1) (v := .int (nI (N 2 k 1))) (C := RX1) (T := TX1) (N := 8) hx hb hts (fun _ h9 => List.mem_cons_of_mem _ (List.mem_append_right _ h9)) hown hK hP (188 + k) (qG_d hk) rfl 1 (by decide) (hts (.fieldLink RX3 249 "PalletStack$Kind" "width" "I") (List.mem_of_getElem? (i := 3) (by rfl))) (fun _ h9 => h9) rfl dX3_isInField_25 ?_
    refine lv_istore (lv' := [(4, .int (nI (N 2 k 1))), (0, .ref (qA B 3 k)), (1, .int (nI x)), (2, .int (nI y)), (3, .int (nI 0))]) hx hb dX3_isInField_28 hl (by decide) rfl (fun ls hl => ?_)
    refine lv_iload_n hx hb dX3_isInField_30 rfl (lv_at hl 4 rfl) ?_
    refine lv_if_eq (tgt := 41) hx hb dX3_isInField_31 (by decide) (fun c_64 => ?_) (fun c_64 => absurd (rfl) c_64)
    refine lv_aload_n hx hb dX3_isInField_41 rfl (lv_at hl 1 rfl) ?_
    refine va_get (D := D) (ci := 1) (v := .int (nI (N 2 k 2))) (C := RX1) (T := TX1) (N := 8) hx hb hts (fun _ h9 => List.mem_cons_of_mem _ (List.mem_append_right _ h9)) hown hK hP (188 + k) (qG_d hk) rfl 2 (by decide) (hts (.fieldLink RX3 248 "PalletStack$Kind" "depth" "I") (List.mem_of_getElem? (i := 2) (by rfl))) (fun _ h9 => h9) rfl dX3_isInField_42 ?_
    refine lv_istore (lv' := [(5, .int (nI (N 2 k 2))), (4, .int (nI (N 2 k 1))), (0, .ref (qA B 3 k)), (1, .int (nI x)), (2, .int (nI y)), (3, .int (nI 0))]) hx hb dX3_isInField_45 hl (by decide) rfl (fun ls hl => ?_)
    refine lv_iload_n hx hb dX3_isInField_47 rfl (lv_at hl 3 rfl) ?_
    refine lv_iconst (v := 0) hx hb dX3_isInField_48 (by decide) ?_
    refine lv_bipush (v := 12) hx hb dX3_isInField_49 (by decide) ?_
    refine lv_iload hx hb dX3_isInField_51 (lv_at hl 1 rfl) ?_
    refine lv_isub hx hb dX3_isInField_53 ?_
    refine lv_topi (fun v_65 ev_65 => ?_)
    obtain rfl : v_65 = (nI (12 - (N 2 k 1))) := ev_65.trans (pk_sub (a := 12) (by omega))
    refine zrdS (As := [.int (nI x), .int 0, .int (nI (12 - (N 2 k 1)))]) (rest := []) (wc := []) ⟨hx, hb, hml, hown, hts⟩ (c_isWithin l D _ (nI x) 0 (nI (12 - (N 2 k 1)))) (va_cwS 3 hts gX3_isInField_X3_isWithin rfl rfl rfl (by decide +kernel) ⟨by rw [hRf]; exact Nat.le_of_ble_eq_true rfl, by rw [hRl]; exact Nat.le_of_ble_eq_true rfl⟩) hK hP hD [] rfl (by decide) [] rfl rfl hl.1 rfl (Nat.le_of_ble_eq_true rfl) dX3_isInField_54 ⟨by omega, by omega⟩ (fun r_66 hr_66 => ?_)
    refine lv_if_eq (tgt := 77) hx hb dX3_isInField_57 (by decide) (fun c_67 => ?_) (fun c_67 => ?_)
    · have h_b := True.intro
      have k_68 : ¬ (0 ≤ nI x ∧ nI x ≤ (nI (12 - (N 2 k 1)))) := fun h9 => absurd ((hr_66.trans (if_pos h9)).symm.trans c_67) (by decide)
      refine lv_iconst (v := 0) hx hb dX3_isInField_77 (by decide) ?_
      exact W.zret (ty := .boolean) (v := 0) hx hb hr rfl (fun t ht hW => ⟨0, rfl, Or.inl rfl, ht⟩) (fun _ h => by cases h) dX3_isInField_78
    · have h_b := True.intro
      have k_69 : 0 ≤ nI x ∧ nI x ≤ (nI (12 - (N 2 k 1))) := Decidable.byContradiction fun h9 => absurd (hr_66.trans (if_neg h9)) c_67
      have z1 : x ≤ 12 - (N 2 k 1) := (nI_leI (by omega) (by omega)).mp k_69.2
      refine lv_iload_n hx hb dX3_isInField_60 rfl (lv_at hl 4 rfl) ?_
      refine lv_iconst (v := 0) hx hb dX3_isInField_61 (by decide) ?_
      refine lv_bipush (v := 10) hx hb dX3_isInField_62 (by decide) ?_
      refine lv_iload hx hb dX3_isInField_64 (lv_at hl 0 rfl) ?_
      refine lv_isub hx hb dX3_isInField_66 ?_
      refine lv_topi (fun v_70 ev_70 => ?_)
      obtain rfl : v_70 = (nI (10 - (N 2 k 2))) := ev_70.trans (pk_sub (a := 10) (by omega))
      refine zrdS (As := [.int (nI y), .int 0, .int (nI (10 - (N 2 k 2)))]) (rest := []) (wc := []) ⟨hx, hb, hml, hown, hts⟩ (c_isWithin l D _ (nI y) 0 (nI (10 - (N 2 k 2)))) (va_cwS 3 hts gX3_isInField_X3_isWithin rfl rfl rfl (by decide +kernel) ⟨by rw [hRf]; exact Nat.le_of_ble_eq_true rfl, by rw [hRl]; exact Nat.le_of_ble_eq_true rfl⟩) hK hP hD [] rfl (by decide) [] rfl rfl hl.1 rfl (Nat.le_of_ble_eq_true rfl) dX3_isInField_67 ⟨by omega, by omega⟩ (fun r_71 hr_71 => ?_)
      refine lv_if_eq (tgt := 77) hx hb dX3_isInField_70 (by decide) (fun c_72 => ?_) (fun c_72 => ?_)
      · have h_b := True.intro
        have k_73 : ¬ (0 ≤ nI y ∧ nI y ≤ (nI (10 - (N 2 k 2)))) := fun h9 => absurd ((hr_71.trans (if_pos h9)).symm.trans c_72) (by decide)
        refine lv_iconst (v := 0) hx hb dX3_isInField_77 (by decide) ?_
        exact W.zret (ty := .boolean) (v := 0) hx hb hr rfl (fun t ht hW => ⟨0, rfl, Or.inl rfl, ht⟩) (fun _ h => by cases h) dX3_isInField_78
      · have h_b := True.intro
        have k_74 : 0 ≤ nI y ∧ nI y ≤ (nI (10 - (N 2 k 2))) := Decidable.byContradiction fun h9 => absurd (hr_71.trans (if_neg h9)) c_72
        have z2 : y ≤ 10 - (N 2 k 2) := (nI_leI (by omega) (by omega)).mp k_74.2
        refine lv_iconst (v := 1) hx hb dX3_isInField_73 (by decide) ?_
        refine lv_goto (tgt := 78) hx hb dX3_isInField_74 (by decide) ?_
        exact W.zret (ty := .boolean) (v := 1) hx hb hr rfl (fun t ht hW => ⟨1, rfl, Or.inr ⟨rfl, fun h => absurd h (by decide), by show x + (N 2 k 1) ≤ 12; omega, by show y + (N 2 k 2) ≤ 10; omega⟩, ht⟩) (fun _ h => by cases h) dX3_isInField_78
  · have h_b := True.intro
    obtain rfl : t = 1 := by rcases (show t = 0 ∨ t = 1 by omega) with h | h; exact absurd (by rw [h]; rfl) c_62; exact h
    refine lv_aload_n hx hb dX3_isInField_4 rfl (lv_at hl 0 rfl) ?_
    refine va_get (D := D) (ci := 1) (v := .int (nI (N 2 k 6))) (C := RX1) (T := TX1) (N := 8) hx hb hts (fun _ h9 => List.mem_cons_of_mem _ (List.mem_append_right _ h9)) hown hK hP (188 + k) (qG_d hk) rfl 6 (by decide) (hts (.fieldLink RX3 245 "PalletStack$Kind" "canTurn" "Z") (List.mem_of_getElem? (i := 1) (by rfl))) (fun _ h9 => h9) rfl dX3_isInField_5 ?_
    refine lv_if_ne (tgt := 13) hx hb dX3_isInField_8 (by decide) (fun c_75 => ?_) (fun c_75 => ?_)
    · have h_b := True.intro
      have z6 : N 2 k 6 = 1 := by rcases (show N 2 k 6 = 0 ∨ N 2 k 6 = 1 by omega) with h | h; exact absurd (by rw [h]; rfl) c_75; exact h
      refine lv_iload_n hx hb dX3_isInField_13 rfl (lv_at hl 3 rfl) ?_
      refine lv_if_eq (tgt := 24) hx hb dX3_isInField_14 (by decide) (fun c_76 => absurd c_76 (by decide)) (fun c_76 => ?_)
      refine lv_aload_n hx hb dX3_isInField_17 rfl (lv_at hl 0 rfl) ?_
      refine va_get (D := D) (ci := 1) (v := .int (nI (N 2 k 2))) (C := RX1) (T := TX1) (N := 8) hx hb hts (fun _ h9 => List.mem_cons_of_mem _ (List.mem_append_right _ h9)) hown hK hP (188 + k) (qG_d hk) rfl 2 (by decide) (hts (.fieldLink RX3 248 "PalletStack$Kind" "depth" "I") (List.mem_of_getElem? (i := 2) (by rfl))) (fun _ h9 => h9) rfl dX3_isInField_18 ?_
      refine lv_goto (tgt := 28) hx hb dX3_isInField_21 (by decide) ?_
      refine lv_istore (lv' := [(4, .int (nI (N 2 k 2))), (0, .ref (qA B 3 k)), (1, .int (nI x)), (2, .int (nI y)), (3, .int (nI 1))]) hx hb dX3_isInField_28 hl (by decide) rfl (fun ls hl => ?_)
      refine lv_iload_n hx hb dX3_isInField_30 rfl (lv_at hl 4 rfl) ?_
      refine lv_if_eq (tgt := 41) hx hb dX3_isInField_31 (by decide) (fun c_77 => absurd c_77 (by decide)) (fun c_77 => ?_)
      refine lv_aload_n hx hb dX3_isInField_34 rfl (lv_at hl 1 rfl) ?_
      refine va_get (D := D) (ci := 1) (v := .int (nI (N 2 k 1))) (C := RX1) (T := TX1) (N := 8) hx hb hts (fun _ h9 => List.mem_cons_of_mem _ (List.mem_append_right _ h9)) hown hK hP (188 + k) (qG_d hk) rfl 1 (by decide) (hts (.fieldLink RX3 249 "PalletStack$Kind" "width" "I") (List.mem_of_getElem? (i := 3) (by rfl))) (fun _ h9 => h9) rfl dX3_isInField_35 ?_
      refine lv_goto (tgt := 45) hx hb dX3_isInField_38 (by decide) ?_
      refine lv_istore (lv' := [(5, .int (nI (N 2 k 1))), (4, .int (nI (N 2 k 2))), (0, .ref (qA B 3 k)), (1, .int (nI x)), (2, .int (nI y)), (3, .int (nI 1))]) hx hb dX3_isInField_45 hl (by decide) rfl (fun ls hl => ?_)
      refine lv_iload_n hx hb dX3_isInField_47 rfl (lv_at hl 3 rfl) ?_
      refine lv_iconst (v := 0) hx hb dX3_isInField_48 (by decide) ?_
      refine lv_bipush (v := 12) hx hb dX3_isInField_49 (by decide) ?_
      refine lv_iload hx hb dX3_isInField_51 (lv_at hl 1 rfl) ?_
      refine lv_isub hx hb dX3_isInField_53 ?_
      refine lv_topi (fun v_78 ev_78 => ?_)
      obtain rfl : v_78 = (nI (12 - (N 2 k 2))) := ev_78.trans (pk_sub (a := 12) (by omega))
      refine zrdS (As := [.int (nI x), .int 0, .int (nI (12 - (N 2 k 2)))]) (rest := []) (wc := []) ⟨hx, hb, hml, hown, hts⟩ (c_isWithin l D _ (nI x) 0 (nI (12 - (N 2 k 2)))) (va_cwS 3 hts gX3_isInField_X3_isWithin rfl rfl rfl (by decide +kernel) ⟨by rw [hRf]; exact Nat.le_of_ble_eq_true rfl, by rw [hRl]; exact Nat.le_of_ble_eq_true rfl⟩) hK hP hD [] rfl (by decide) [] rfl rfl hl.1 rfl (Nat.le_of_ble_eq_true rfl) dX3_isInField_54 ⟨by omega, by omega⟩ (fun r_79 hr_79 => ?_)
      refine lv_if_eq (tgt := 77) hx hb dX3_isInField_57 (by decide) (fun c_80 => ?_) (fun c_80 => ?_)
      · have h_b := True.intro
        have k_81 : ¬ (0 ≤ nI x ∧ nI x ≤ (nI (12 - (N 2 k 2)))) := fun h9 => absurd ((hr_79.trans (if_pos h9)).symm.trans c_80) (by decide)
        refine lv_iconst (v := 0) hx hb dX3_isInField_77 (by decide) ?_
        exact W.zret (ty := .boolean) (v := 0) hx hb hr rfl (fun t ht hW => ⟨0, rfl, Or.inl rfl, ht⟩) (fun _ h => by cases h) dX3_isInField_78
      · have h_b := True.intro
        have k_82 : 0 ≤ nI x ∧ nI x ≤ (nI (12 - (N 2 k 2))) := Decidable.byContradiction fun h9 => absurd (hr_79.trans (if_neg h9)) c_80
        have z1 : x ≤ 12 - (N 2 k 2) := (nI_leI (by omega) (by omega)).mp k_82.2
        refine lv_iload_n hx hb dX3_isInField_60 rfl (lv_at hl 4 rfl) ?_
        refine lv_iconst (v := 0) hx hb dX3_isInField_61 (by decide) ?_
        refine lv_bipush (v := 10) hx hb dX3_isInField_62 (by decide) ?_
        refine lv_iload hx hb dX3_isInField_64 (lv_at hl 0 rfl) ?_
        refine lv_isub hx hb dX3_isInField_66 ?_
        refine lv_topi (fun v_83 ev_83 => ?_)
        obtain rfl : v_83 = (nI (10 - (N 2 k 1))) := ev_83.trans (pk_sub (a := 10) (by omega))
        refine zrdS (As := [.int (nI y), .int 0, .int (nI (10 - (N 2 k 1)))]) (rest := []) (wc := []) ⟨hx, hb, hml, hown, hts⟩ (c_isWithin l D _ (nI y) 0 (nI (10 - (N 2 k 1)))) (va_cwS 3 hts gX3_isInField_X3_isWithin rfl rfl rfl (by decide +kernel) ⟨by rw [hRf]; exact Nat.le_of_ble_eq_true rfl, by rw [hRl]; exact Nat.le_of_ble_eq_true rfl⟩) hK hP hD [] rfl (by decide) [] rfl rfl hl.1 rfl (Nat.le_of_ble_eq_true rfl) dX3_isInField_67 ⟨by omega, by omega⟩ (fun r_84 hr_84 => ?_)
        refine lv_if_eq (tgt := 77) hx hb dX3_isInField_70 (by decide) (fun c_85 => ?_) (fun c_85 => ?_)
        · have h_b := True.intro
          have k_86 : ¬ (0 ≤ nI y ∧ nI y ≤ (nI (10 - (N 2 k 1)))) := fun h9 => absurd ((hr_84.trans (if_pos h9)).symm.trans c_85) (by decide)
          refine lv_iconst (v := 0) hx hb dX3_isInField_77 (by decide) ?_
          exact W.zret (ty := .boolean) (v := 0) hx hb hr rfl (fun t ht hW => ⟨0, rfl, Or.inl rfl, ht⟩) (fun _ h => by cases h) dX3_isInField_78
        · have h_b := True.intro
          have k_87 : 0 ≤ nI y ∧ nI y ≤ (nI (10 - (N 2 k 1))) := Decidable.byContradiction fun h9 => absurd (hr_84.trans (if_neg h9)) c_85
          have z2 : y ≤ 10 - (N 2 k 1) := (nI_leI (by omega) (by omega)).mp k_87.2
          refine lv_iconst (v := 1) hx hb dX3_isInField_73 (by decide) ?_
          refine lv_goto (tgt := 78) hx hb dX3_isInField_74 (by decide) ?_
          exact W.zret (ty := .boolean) (v := 1) hx hb hr rfl (fun t ht hW => ⟨1, rfl, Or.inr ⟨rfl, fun _ => z6, by show x + (N 2 k 2) ≤ 12; omega, by show y + (N 2 k 1) ≤ 10; omega⟩, ht⟩) (fun _ h => by cases h) dX3_isInField_78
    · have h_b := True.intro
      refine lv_iconst (v := 0) hx hb dX3_isInField_11 (by decide) ?_
      exact W.zret (ty := .boolean) (v := 0) hx hb hr rfl (fun t ht hW => ⟨0, rfl, Or.inl rfl, ht⟩) (fun _ h => by cases h) dX3_isInField_12
