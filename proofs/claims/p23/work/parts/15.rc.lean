set_option maxHeartbeats 4000000 in
set_option maxRecDepth 100000 in
theorem c_settle (l : Launch) (D : zG) (sz : Nat) (B : qB) (R : qR0) (N : qN0) (hO : qOK B N) (hM : qM N) (S : Nat → Nat → Nat) (hS9 : qS9 B R N S (N 4 1 5)) (hLb : ∀ k i, k ≤ N 4 1 5 → i < N 4 1 5 → qLN S N (N 4 1 5) k i ≤ 1000000) : Met l yX3_settleLoads wsX3_settleLoads ({ frames := 2, cells := 0, slots := 0, locals := 45 }) (zPc D (qT B) (qG B R N) sz [.ref (qA B 5 0)]) (va_Qv (fun (u : qN0) => (∀ c i j, ¬ (c = 0 ∧ (j = 11 ∨ j = 12) ∧ i < N 4 1 5) → u c i j = N c i j) ∧ ∀ i, i < N 4 1 5 → u 0 i 11 = qLN S N (N 4 1 5) (N 4 1 5) i ∧ u 0 i 12 = qLN S N (N 4 1 5) (N 4 1 5) i) (zB D (va_A (qG B R N) sz) (fun _ => []) 0 (fun u => qG B R u)) (va_A (qG B R N) sz)) 0 0 (va_A (qG B R N) sz) := by
  refine Met.ofW (cc := cX3_settleLoads) (maxL := 3) (ret := none) (by decide) rfl ?_
  intro p e s m args below meth c s₁ B9 hml hv
  obtain ⟨rfl, hsz, hP, hK, hD0⟩ := hv
  have hx := B9.exec
  have hb := B9.bytes
  have hr := B9.returns
  have hts := atoms_spec (ws := wsX3_settleLoads) B9.pre
  have hown : s.vm.findClass RX3 = some m.cls := findClass_of_methodNamed B9.named
  have hlocks := B9.notSynchronized
  subst hsz
  have hD := hD0.self (sz := s.heap.size)
  generalize hAe : va_A (qG B R N) s.heap.size = A at hD ⊢
  have hA : ∀ q : Nat, s.heap.size ≤ q → A q := fun q h => by rw [← hAe]; exact Or.inr h
  have hS : va_S A s.heap s.heap [] := va_S.rf
  have hl := lv_entry ([.ref (qA B 5 0)]) (n := 3) (Nat.le_of_ble_eq_true rfl)
  rw [lg_entry_eq]
  generalize (lg_sl ([.ref (qA B 5 0)]) ++ List.replicate (3 - (lg_sl ([.ref (qA B 5 0)])).length) Slot.unset).toArray = ls at hl ⊢
  have hl : lv_has ls 3 [(0, .ref (qA B 5 0))] := hl
  have hP : va_P D vwCl (qG B R N) s.heap := hP
  generalize hRe : (headSpec _ _).room = R9
  have hRf : R9.frames = 2 := by rw [← hRe]; rfl
  have hRc : R9.cells = 0 := by rw [← hRe]; rfl
  have hRs : R9.slots = 0 := by rw [← hRe]; rfl
  have hRl : R9.locals = 45 := by rw [← hRe]; rfl
  clear hRe
  have o8 := hO.2.2.2.2.2.2.2.1
  refine lv_aload_n hx hb dX3_settleLoads_0 rfl (lv_at hl 0 rfl) ?_
  refine qcallvV (As := []) (rest := []) (ws := qG B R N) ⟨hx, hb, hml, hown, hts⟩ (c_forget l D _ B R N hO) (cwV 0 hts gX3_settleLoads_X3_forgetNextLoads rfl rfl rfl (by decide +kernel) ⟨by rw [hRf]; exact Nat.le_of_ble_eq_true rfl, by rw [hRl]; exact Nat.le_of_ble_eq_true rfl⟩) hK hP hD hS hA [0, 1, 2, 3] rfl (ci := 3) (q0 := 0) rfl rfl rfl hl.1 rfl (Nat.le_of_ble_eq_true rfl) dX3_settleLoads_1 ⟨by omega, by omega⟩ (fun u_2 H locs hwu_2 hP hD hS => ?_)
  obtain ⟨n, hn⟩ : ∃ n, n = N 4 1 5 := ⟨_, rfl⟩
  rw [← hn] at hwu_2 hS9 hLb ⊢
  have hP : va_P D vwCl (qG B R u_2) H := hP
  have hD : va_D A (qG B R u_2) := hD
  have e5 : u_2 4 1 5 = n := by rw [hwu_2, hn]; exact qz_ne _ _ (by omega)
  refine lv_aload_n hx hb dX3_settleLoads_4 rfl (lv_at hl 0 rfl) ?_
  refine va_get (D := D) (ci := 3) (v := .int (nI (u_2 4 1 5))) (C := RX3) (T := TX3) (N := 14) hx hb hts (fun _ h9 => List.mem_cons_of_mem _ (List.mem_append_left _ (List.mem_append_right _ h9))) hown hK hP 0 rfl rfl 7 (by decide) (hts (.fieldLink RX3 38 "PalletStack" "cameCount" "I") (List.mem_of_getElem? (i := 1) (by rfl))) (fun _ h9 => h9) rfl dX3_settleLoads_5 ?_
  refine lv_topi (fun v_3 ev_3 => ?_)
  obtain rfl : v_3 = (nI n) := ev_3.trans (by rw [e5])
  refine lv_iconst (v := 1) hx hb dX3_settleLoads_8 (by decide) ?_
  refine lv_isub hx hb dX3_settleLoads_9 ?_
  refine lv_istore_n (lv' := [(1, .int (nI n - 1)), (0, .ref (qA B 5 0))]) hx hb dX3_settleLoads_10 rfl hl (by decide) rfl (fun ls hl => ?_)
  generalize hQe : MQ _ _ _ _ _ _ _ = Q
  have hl := lv_sub hl (l' := [(1, .int (nI n - 1)), (0, .ref (qA B 5 0))]) [0, 1] rfl
  have loop : ∀ (r9 k : Nat), k + r9 = n → ∀ (N1 : qN0) (hN : (∀ c i j, ¬ (c = 0 ∧ (j = 11 ∨ j = 12) ∧ i < n) → N1 c i j = N c i j) ∧ (∀ i, i < n → N1 0 i 12 = qLN S N n k i) ∧ (∀ i, i < n → n ≤ i + k → N1 0 i 11 = qLN S N n k i) ∧ ∀ i, N1 0 i 11 ≤ 1000000) (H : Heap) (locs : List Loc) (ls : Array Slot), va_P D vwCl (qG B R N1) H → va_D A (qG B R N1) → va_S A s.heap H locs → lv_has ls 3 [(1, .int (nI (n - k) - 1)), (0, .ref (qA B 5 0))] → W p l e R9 s m ([.ref (qA B 5 0)] : List Value).toArray below meth c H locs 0 0 Q (F0 m 11 ls []) := by
    intro r9
    induction r9 with
    | zero =>
      intro k hk N1 hN H locs ls hP hD hS hl
      obtain ⟨n1, n2, n3, n4⟩ := hN
      have f5 : N1 4 1 5 = n := by rw [n1 _ _ _ (by omega), hn]
      have hO1 : qOK B N1 := qOKs hO (fun j _ _ => n1 _ _ _ (by omega)) (fun j _ => n1 _ _ _ (by omega))
      obtain rfl : n = k := by omega
      have hP : va_P D vwCl (qG B R N1) H := hP
      have hD : va_D A (qG B R N1) := hD
      refine lv_iload_n hx hb dX3_settleLoads_11 rfl (lv_at hl 0 rfl) ?_
      refine lv_if_lt (tgt := 43) hx hb dX3_settleLoads_12 (by decide) (fun c_4 => ?_) (fun c_4 => absurd (by rw [Nat.sub_self]; decide) c_4)
      rw [← hQe]
      exact W.vret hx hb hr (fun t ht hW => ⟨⟨N1, rfl, ⟨n1, fun i hi => ⟨n3 i hi (by omega), n2 i hi⟩⟩, ⟨Nat.zero_le _, by rw [ht]; exact hP, va_K.moved hW.alike (hK.sub (tys' := []) [] rfl), hD⟩⟩, hS.F ht⟩) hS.2.2 dX3_settleLoads_43
    | succ r9 ih =>
      intro k hk N1 hN H locs ls hP hD hS hl
      obtain ⟨n1, n2, n3, n4⟩ := hN
      have f5 : N1 4 1 5 = n := by rw [n1 _ _ _ (by omega), hn]
      have hO1 : qOK B N1 := qOKs hO (fun j _ _ => n1 _ _ _ (by omega)) (fun j _ => n1 _ _ _ (by omega))
      obtain ⟨t, ht⟩ : ∃ t, t = n - 1 - k := ⟨_, rfl⟩
      have ht1 : nI (n - k) - 1 = nI t := by rw [show n - k = t + 1 by omega]; exact nI_pred t
      obtain ⟨m1, m2, m3, m4⟩ := hS9 t (by omega)
      rw [ht1] at hl
      have hLt := hLb k t (by omega) (by omega)
      have hM1 : qM N1 := fun c i j => by
        by_cases h9 : c = 0 ∧ (j = 11 ∨ j = 12) ∧ i < n
        · obtain ⟨rfl, h9 | h9, h10⟩ := h9
          · subst h9; exact n4 i
          · subst h9; rw [n2 i h10]; exact hLb k i (by omega) h10
        · rw [n1 c i j h9]; exact hM c i j
      have hP : va_P D vwCl (qG B R N1) H := hP
      have hD : va_D A (qG B R N1) := hD
      refine lv_iload_n hx hb dX3_settleLoads_11 rfl (lv_at hl 0 rfl) ?_
      refine lv_if_lt (tgt := 43) hx hb dX3_settleLoads_12 (by decide) (fun c_5 => absurd c_5 (nI_pos (by omega))) (fun c_5 => ?_)
      refine lv_aload_n hx hb dX3_settleLoads_15 rfl (lv_at hl 1 rfl) ?_
      refine lv_iload_n hx hb dX3_settleLoads_16 rfl (lv_at hl 0 rfl) ?_
      refine zrdVq2 (As := [.int (nI t)]) (rest := []) (wc := qG B R N1) ⟨hx, hb, hml, hown, hts⟩ (c_itemOf l D _ B R N1 t (by omega) hO1) (cwV 1 hts gX3_settleLoads_X3_itemOf rfl rfl rfl (by decide +kernel) ⟨by rw [hRf]; exact Nat.le_of_ble_eq_true rfl, by rw [hRl]; exact Nat.le_of_ble_eq_true rfl⟩) hK hP hD [0, 1, 2, 3] rfl (ci := 3) (q0 := 0) rfl rfl rfl hl.1 rfl (Nat.le_of_ble_eq_true rfl) dX3_settleLoads_17 ⟨by omega, by omega⟩ (fun r_6 hr_6 => ?_)
      refine W.eq (g2 := F0 m 20 ls [.ref (qA B 0 t)]) (by rw [hr_6]; rfl) ?_
      refine lv_astore_n (lv' := [(2, .ref (qA B 0 t)), (1, .int (nI t)), (0, .ref (qA B 5 0))]) hx hb dX3_settleLoads_20 rfl hl (by decide) rfl (fun ls hl => ?_)
      refine lv_aload_n hx hb dX3_settleLoads_21 rfl (lv_at hl 0 rfl) ?_
      refine lv_ifnull hx hb dX3_settleLoads_22 ?_
      refine lv_aload_n hx hb dX3_settleLoads_25 rfl (lv_at hl 0 rfl) ?_
      refine lv_aload_n hx hb dX3_settleLoads_26 rfl (lv_at hl 0 rfl) ?_
      refine va_get (D := D) (ci := 0) (v := .int (nI (N1 0 t 12))) (C := RX0) (T := TX0) (N := 18) hx hb hts (fun _ h9 => List.mem_cons_of_mem _ (List.mem_append_right _ h9)) hown hK hP (5 + t) (qG_i (by omega)) rfl 12 (by decide) (hts (.fieldLink RX3 233 "PalletStack$Item" "nextLoad" "I") (List.mem_of_getElem? (i := 2) (by rfl))) (fun _ h9 => h9) rfl dX3_settleLoads_27 ?_
      refine lv_topi (fun v_8 ev_8 => ?_)
      obtain rfl : v_8 = (nI (qLN S N n k t)) := ev_8.trans (by rw [n2 t (by omega)])
      refine va_put (D := D) (ci := 0) (v := .int (nI (qLN S N n k t))) (ty := .int) (C := RX0) (T := TX0) (N := 18) hx hb hts (fun _ h9 => List.mem_cons_of_mem _ (List.mem_append_right _ h9)) tyX0 tyX0_ok nmX0 hown hK hP hD hS (5 + t) (qG_i (by omega)) rfl 11 (by decide) (hts (.fieldLink RX3 208 "PalletStack$Item" "load" "I") (List.mem_of_getElem? (i := 3) (by rfl))) (fun _ h9 => h9) rfl (by decide +kernel) rfl rfl (Nat.le_of_ble_eq_true rfl) dX3_settleLoads_30 (fun H locs hP hD hS => ?_)
      rw [qG_pi (by omega) (by decide)] at hP hD
      obtain ⟨N_9, hN_9⟩ : ∃ z : qN0, z = qp N1 0 t 11 (qLN S N n k t) := ⟨_, rfl⟩
      rw [← hN_9] at hP hD
      have hP : va_P D vwCl (qG B R N_9) H := hP
      have hD : va_D A (qG B R N_9) := hD
      obtain ⟨N2, hN2⟩ : ∃ z : qN0, z = N_9 := ⟨_, rfl⟩
      rw [← hN2] at hP hD
      have hP : va_P D vwCl (qG B R N2) H := hP
      have hD : va_D A (qG B R N2) := hD
      have g : ∀ c i j, ¬ (c = 0 ∧ i = t ∧ j = 11) → N2 c i j = N1 c i j := fun c i j h => by rw [hN2, hN_9]; exact if_neg h
      have g2 : N2 0 t 11 = qLN S N n k t := by rw [hN2, hN_9]; exact qp_eq _ _ _ _ _
      have hM2 : qM N2 := by rw [hN2, hN_9]; exact qM_p hM1 hLt
      have k1 : N2 0 t 1 = N 0 t 1 := by rw [g _ _ _ (by omega), n1 _ _ _ (by omega)]
      have k10 : N2 0 t 10 = N 0 t 10 := by rw [g _ _ _ (by omega), n1 _ _ _ (by omega)]
      have k15 : N2 0 t 15 = N 0 t 15 := by rw [g _ _ _ (by omega), n1 _ _ _ (by omega)]
      have k12 : N2 0 t 12 = qLN S N n k t := by rw [g _ _ _ (by omega), n2 t (by omega)]
      have kc : N2 1 t = N 1 t := by funext j; rw [g _ _ _ (by omega), n1 _ _ _ (by omega)]
      refine lv_aload_n hx hb dX3_settleLoads_33 rfl (lv_at hl 0 rfl) ?_
      refine qcallvV (As := []) (rest := []) (ws := qG B R N2) ⟨hx, hb, hml, hown, hts⟩ (c_pass l D _ B R N2 t (by omega) (S t) (fun j hj => by rw [k15] at hj; obtain ⟨a1, a2, a3⟩ := m4 j hj; exact ⟨a1, by omega, by omega, by rw [kc]; exact a3⟩) (by rw [k15]; exact m1) (by rw [k10]; exact m2) hM2 (by rw [k1]; exact m3)) (cwV 0 hts gX3_settleLoads_X0_passLoadDown rfl rfl rfl (by decide +kernel) ⟨by rw [hRf]; exact Nat.le_of_ble_eq_true rfl, by rw [hRl]; exact Nat.le_of_ble_eq_true rfl⟩) hK hP hD hS hA [0, 1, 2, 3] rfl (ci := 0) (q0 := (5 + t)) rfl (qG_i (by omega)) rfl hl.1 rfl (Nat.le_of_ble_eq_true rfl) dX3_settleLoads_34 ⟨by omega, by omega⟩ (fun u_11 H locs hwu_11 hP hD hS => ?_)
      have hP : va_P D vwCl (qG B R u_11) H := hP
      have hD : va_D A (qG B R u_11) := hD
      rw [k1, k10, k12, k15, kc] at hwu_11
      have s1 : ∀ i, i < n → u_11 0 i 12 = qLN S N n (k + 1) i := fun i hi => by
        rw [hwu_11, qcol_eq, qLN_1, ← ht]
        exact qPs_congr (n := n) (fun j hj => by have := (m4 j hj).2.1; omega) (fun _ _ => rfl) (fun i9 h9 => by rw [g _ _ _ (by omega), n2 i9 h9]) i hi
      have s2 : ∀ c i j, c ≠ 0 ∨ j ≠ 12 → u_11 c i j = N2 c i j := fun c i j h => by rw [hwu_11]; exact qcol_ne _ _ h
      have s3 : ∀ i, i < n → n ≤ i + k → qLN S N n (k + 1) i = qLN S N n k i := fun i h1 h2 => qLd_keep (fun i9 h9 j hj => ((hS9 i9 h9).2.2.2 j hj).2.1) (by omega) (by omega) (k + 1) (by omega) (by omega)
      have s4 : qLN S N n (k + 1) t = qLN S N n k t := by rw [qLN_1, ← ht]; exact qPs_ne (fun j hj => by have := (m4 j hj).2.1; omega)
      have ht2 : nI t + -1 = nI (n - (k + 1)) - 1 := by rw [show n - (k + 1) = t by omega]; exact (Int32.sub_eq_add_neg _ _).symm
      refine lv_iinc (v := (nI (n - (k + 1)) - 1)) (lv' := [(1, .int (nI (n - (k + 1)) - 1)), (2, .ref (qA B 0 t)), (0, .ref (qA B 5 0))]) hx hb dX3_settleLoads_37 hl (k := 1) rfl (ht2) (by decide) rfl (fun ls hl => ?_)
      refine lv_goto (tgt := 11) hx hb dX3_settleLoads_40 (by decide) ?_
      have hl := lv_sub hl (l' := [(1, .int (nI (n - (k + 1)) - 1)), (0, .ref (qA B 5 0))]) [0, 2] rfl
      refine ih (k + 1) (by omega) u_11 ⟨fun c i j h => ?_, s1, fun i h1 h2 => ?_, fun i => ?_⟩ H locs ls hP hD hS hl
      · by_cases h9 : c = 0 ∧ j = 12
        · rw [hwu_11]; unfold qcol; rw [if_pos h9]; obtain ⟨rfl, rfl⟩ := h9; rw [qPs_ne (fun j9 h9 => by have := (m4 j9 h9).2.1; omega)]; show N2 0 i 12 = _; rw [g _ _ _ (by omega), n1 _ _ _ h]
        · rw [s2 _ _ _ (by omega), g _ _ _ (by omega), n1 _ _ _ h]
      · rw [s2 _ _ _ (by omega)]
        by_cases h9 : i = t
        · subst h9; rw [g2, s4]
        · rw [g _ _ _ (by omega), n3 i h1 (by omega), s3 i h1 (by omega)]
      · rw [s2 _ _ _ (by omega)]; exact hM2 0 i 11
  refine loop n 0 (by omega) u_2 ⟨fun c i j h => by rw [hwu_2]; exact qz_ne _ _ (by omega), fun i hi => by rw [hwu_2]; unfold qz; rw [if_pos ⟨rfl, rfl, hi⟩]; rfl, fun i h1 h2 => by omega, fun i => by rw [hwu_2, qz_ne _ _ (by omega)]; exact hM 0 i 11⟩ H locs ls hP hD hS hl
