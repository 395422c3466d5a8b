set_option maxHeartbeats 4000000 in
set_option maxRecDepth 100000 in
theorem c_reachS (l : Launch) (D : zG) (sz : Nat) (B : qB) (R : qR0) (N : qN0) (i : Nat) (hi : i < 61) (S : Nat → Nat) (hS9 : ∀ j, j < N 0 i 15 → R i j = some (qA B 0 (S j)) ∧ S j < 61) (hm : N 0 i 15 ≤ 36) (hM : qM N) : Met l yX0_reachSupports wsX0_reachSupports ({ frames := 0, cells := 0, slots := 0, locals := 0 }) (zPc D (qT B) (qG B R N) sz [.ref (qA B 0 i)]) (va_Qv (fun (u : qN0) => qR14 N u ∧ qM u ∧ ∀ j, u 0 j 14 = N 0 j 14 ∨ (u 0 j 14 = 1 ∧ ∃ a, a < N 0 i 15 ∧ S a = j)) (zB D (va_A (qG B R N) sz) (fun _ => []) 0 (fun u => qG B R u)) (va_A (qG B R N) sz)) 0 0 (va_A (qG B R N) sz) := by
  refine Met.ofW (cc := cX0_reachSupports) (maxL := 3) (ret := none) (by decide) rfl ?_
  intro p e s m args below meth c s₁ B9 hml hv
  obtain ⟨rfl, hsz, hP, hK, hD0⟩ := hv
  have hx := B9.exec
  have hb := B9.bytes
  have hr := B9.returns
  have hts := atoms_spec (ws := wsX0_reachSupports) B9.pre
  have hown : s.vm.findClass RX0 = some m.cls := findClass_of_methodNamed B9.named
  have hlocks := B9.notSynchronized
  subst hsz
  have hD := hD0.self (sz := s.heap.size)
  generalize hAe : va_A (qG B R N) s.heap.size = A at hD ⊢
  have hA : ∀ q : Nat, s.heap.size ≤ q → A q := fun q h => by rw [← hAe]; exact Or.inr h
  have hS : va_S A s.heap s.heap [] := va_S.rf
  have hl := lv_entry ([.ref (qA B 0 i)]) (n := 3) (Nat.le_of_ble_eq_true rfl)
  rw [lg_entry_eq]
  generalize (lg_sl ([.ref (qA B 0 i)]) ++ List.replicate (3 - (lg_sl ([.ref (qA B 0 i)])).length) Slot.unset).toArray = ls at hl ⊢
  have hl : lv_has ls 3 [(0, .ref (qA B 0 i))] := hl
  have hP : va_P D vwCl (qG B R N) s.heap := hP
  generalize hRe : (headSpec _ _).room = R9
  have hRf : R9.frames = 0 := by rw [← hRe]; rfl
  have hRc : R9.cells = 0 := by rw [← hRe]; rfl
  have hRs : R9.slots = 0 := by rw [← hRe]; rfl
  have hRl : R9.locals = 0 := by rw [← hRe]; rfl
  clear hRe
  refine lv_iconst (v := 0) hx hb dX0_reachSupports_0 (by decide) ?_
  refine lv_istore_n (lv' := [(1, .int 0), (0, .ref (qA B 0 i))]) hx hb dX0_reachSupports_1 rfl hl (by decide) rfl (fun ls hl => ?_)
  have hl := lv_sub hl (l' := [(1, .int 0), (0, .ref (qA B 0 i))]) [0, 1] rfl
  generalize hQe : MQ _ _ _ _ _ _ _ = Q
  have loop : ∀ (k9 j : Nat), j + k9 = N 0 i 15 → ∀ (N1 : qN0) (n1 : qR14 N N1) (n2 : qM N1) (n3 : ∀ j, N1 0 j 14 = N 0 j 14 ∨ (N1 0 j 14 = 1 ∧ ∃ a, a < N 0 i 15 ∧ S a = j)) (H : Heap) (locs : List Loc) (ls : Array Slot), va_P D vwCl (qG B R N1) H → va_D A (qG B R N1) → va_S A s.heap H locs → lv_has ls 3 [(1, .int (nI j)), (0, .ref (qA B 0 i))] → W p l e R9 s m ([.ref (qA B 0 i)] : List Value).toArray below meth c H locs 0 0 Q (F0 m 2 ls []) := by
    intro k9
    induction k9 with
    | zero =>
      intro j hj N1 n1 n2 n3 H locs ls hP hD hS hl
      have f15 : N1 0 i 15 = N 0 i 15 := n1 _ _ _ (by omega)
      obtain rfl : N 0 i 15 = j := by omega
      have hP : va_P D vwCl (qG B R N1) H := hP
      have hD : va_D A (qG B R N1) := hD
      refine lv_iload_n hx hb dX0_reachSupports_2 rfl (lv_at hl 0 rfl) ?_
      refine lv_aload_n hx hb dX0_reachSupports_3 rfl (lv_at hl 1 rfl) ?_
      refine va_get (D := D) (ci := 0) (v := .int (nI (N1 0 i 15))) (C := RX0) (T := TX0) (N := 18) hx hb hts (fun _ h9 => List.mem_cons_of_mem _ (List.mem_append_right _ h9)) hown hK hP (5 + i) (qG_i (by omega)) rfl 15 (by decide) (hts (.fieldLink RX0 58 "PalletStack$Item" "supportCount" "I") (List.mem_of_getElem? (i := 1) (by rfl))) (fun _ h9 => h9) rfl dX0_reachSupports_4 ?_
      refine lv_topi (fun v_1 ev_1 => ?_)
      obtain rfl : v_1 = (nI (N 0 i 15)) := ev_1.trans (by rw [f15])
      refine lv_icmp_ge (tgt := 38) hx hb dX0_reachSupports_7 (by decide) (fun c_2 => ?_) (fun c_2 => absurd (Int32.le_refl _) c_2)
      rw [← hQe]
      exact W.vret hx hb hr (fun t ht hW => ⟨⟨N1, rfl, ⟨n1, n2, n3⟩, ⟨Nat.zero_le _, by rw [ht]; exact hP, va_K.moved hW.alike (hK.sub (tys' := []) [] rfl), hD⟩⟩, hS.F ht⟩) hS.2.2 dX0_reachSupports_38
    | succ k9 ih =>
      intro j hj N1 n1 n2 n3 H locs ls hP hD hS hl
      have f15 : N1 0 i 15 = N 0 i 15 := n1 _ _ _ (by omega)
      obtain ⟨h1, h2⟩ := hS9 j (by omega)
      have hP : va_P D vwCl (qG B R N1) H := hP
      have hD : va_D A (qG B R N1) := hD
      refine lv_iload_n hx hb dX0_reachSupports_2 rfl (lv_at hl 0 rfl) ?_
      refine lv_aload_n hx hb dX0_reachSupports_3 rfl (lv_at hl 1 rfl) ?_
      refine va_get (D := D) (ci := 0) (v := .int (nI (N1 0 i 15))) (C := RX0) (T := TX0) (N := 18) hx hb hts (fun _ h9 => List.mem_cons_of_mem _ (List.mem_append_right _ h9)) hown hK hP (5 + i) (qG_i (by omega)) rfl 15 (by decide) (hts (.fieldLink RX0 58 "PalletStack$Item" "supportCount" "I") (List.mem_of_getElem? (i := 1) (by rfl))) (fun _ h9 => h9) rfl dX0_reachSupports_4 ?_
      refine lv_topi (fun v_3 ev_3 => ?_)
      obtain rfl : v_3 = (nI (N 0 i 15)) := ev_3.trans (by rw [f15])
      refine lv_icmp_ge (tgt := 38) hx hb dX0_reachSupports_7 (by decide) (fun c_4 => absurd c_4 (nI_ge (by omega) (by omega))) (fun c_4 => ?_)
      refine lv_iload_n hx hb dX0_reachSupports_10 rfl (lv_at hl 0 rfl) ?_
      refine lv_bipush (v := 36) hx hb dX0_reachSupports_11 (by decide) ?_
      refine lv_icmp_ge (tgt := 38) hx hb dX0_reachSupports_13 (by decide) (fun c_5 => absurd c_5 (nI_ge (b := 36) (by omega) (by decide))) (fun c_5 => ?_)
      refine lv_aload_n hx hb dX0_reachSupports_16 rfl (lv_at hl 1 rfl) ?_
      refine va_get (D := D) (ci := 0) (v := .ref (qA B 1 i)) (C := RX0) (T := TX0) (N := 18) hx hb hts (fun _ h9 => List.mem_cons_of_mem _ (List.mem_append_right _ h9)) hown hK hP (5 + i) (qG_i (by omega)) rfl 16 (by decide) (hts (.fieldLink RX0 61 "PalletStack$Item" "supports" "[LPalletStack$Item;") (List.mem_of_getElem? (i := 2) (by rfl))) (fun _ h9 => h9) rfl dX0_reachSupports_17 ?_
      refine lv_iload_n hx hb dX0_reachSupports_20 rfl (lv_at hl 0 rfl) ?_
      refine va_aldq hx hb hK hP (66 + i) 1 (qG_s (by omega)) rfl (vp_in_nI (n := j) (N := 36) (by omega) (by decide)) dX0_reachSupports_21 ?_
      refine W.eq (g2 := F0 m 22 ls [.ref (qA B 0 (S j))]) (by rw [nI_clamp (by omega), h1]; rfl) ?_
      refine lv_astore_n (lv' := [(2, .ref (qA B 0 (S j))), (1, .int (nI j)), (0, .ref (qA B 0 i))]) hx hb dX0_reachSupports_22 rfl hl (by decide) rfl (fun ls hl => ?_)
      refine lv_aload_n hx hb dX0_reachSupports_23 rfl (lv_at hl 0 rfl) ?_
      refine lv_ifnull hx hb dX0_reachSupports_24 ?_
      refine lv_aload_n hx hb dX0_reachSupports_27 rfl (lv_at hl 0 rfl) ?_
      refine lv_iconst (v := 1) hx hb dX0_reachSupports_28 (by decide) ?_
      refine va_put (D := D) (ci := 0) (v := .int (nI 1)) (ty := .boolean) (C := RX0) (T := TX0) (N := 18) hx hb hts (fun _ h9 => List.mem_cons_of_mem _ (List.mem_append_right _ h9)) tyX0 tyX0_ok nmX0 hown hK hP hD hS (5 + (S j)) (qG_i (by omega)) rfl 14 (by decide) (hts (.fieldLink RX0 55 "PalletStack$Item" "isReached" "Z") (List.mem_of_getElem? (i := 3) (by rfl))) (fun _ h9 => h9) rfl (by decide +kernel) rfl rfl (Nat.le_of_ble_eq_true rfl) dX0_reachSupports_29 (fun H locs hP hD hS => ?_)
      rw [qG_pi (by omega) (by decide)] at hP hD
      obtain ⟨N_7, hN_7⟩ : ∃ z : qN0, z = qp N1 0 (S j) 14 1 := ⟨_, rfl⟩
      rw [← hN_7] at hP hD
      have hP : va_P D vwCl (qG B R N_7) H := hP
      have hD : va_D A (qG B R N_7) := hD
      refine lv_iinc (v := (nI (j + 1))) (lv' := [(1, .int (nI (j + 1))), (2, .ref (qA B 0 (S j))), (0, .ref (qA B 0 i))]) hx hb dX0_reachSupports_32 hl (k := 1) rfl (nI_1 j) (by decide) rfl (fun ls hl => ?_)
      refine lv_goto (tgt := 2) hx hb dX0_reachSupports_35 (by decide) ?_
      have hl := lv_sub hl (l' := [(1, .int (nI (j + 1))), (0, .ref (qA B 0 i))]) [0, 2] rfl
      refine ih (j + 1) (by omega) N_7 (fun c i j h => ?_) (by rw [hN_7]; exact qM_p n2 (by decide)) (fun j9 => ?_) H locs ls hP hD hS hl
      · rw [hN_7]; unfold qp; rw [if_neg (by omega)]; exact n1 c i j h
      · by_cases h9 : j9 = S j
        · right; rw [hN_7, h9, qp_eq]; exact ⟨rfl, j, by omega, rfl⟩
        · rw [hN_7, qp_i _ _ _ _ _ _ h9]; exact n3 j9
  exact loop (N 0 i 15) 0 (by omega) N (qR14_rf N) hM (fun _ => Or.inl rfl) s.heap [] ls hP hD hS hl
set_option maxHeartbeats 4000000 in
set_option maxRecDepth 100000 in
theorem c_carried (l : Launch) (D : zG) (sz : Nat) (B : qB) (R : qR0) (N : qN0) (S : Nat → Nat → Nat) (hF : qFull B R N S) (i k : Nat) (hi : i < N 4 1 5) (hk : k < N 4 1 5) : Met l yX3_isCarriedBy wsX3_isCarriedBy ({ frames := 2, cells := 0, slots := 0, locals := 60 }) (zPc D (qT B) (qG B R N) sz [.ref (qA B 5 0), .ref (qA B 0 i), .ref (qA B 0 k)]) (va_Qi (fun (r : Int32) (u : qN0) => (∃ x, r = nI x ∧ x < 2 ∧ (x ≠ 0 → k < i ∧ N 0 k 9 ≤ N 0 i 8)) ∧ qR14 N u ∧ qM u) (zB D (va_A (qG B R N) sz) (fun _ => []) 0 (fun u => qG B R u)) (va_A (qG B R N) sz)) 0 0 (va_A (qG B R N) sz) := by
  refine Met.ofW (cc := cX3_isCarriedBy) (maxL := 5) (ret := (some .boolean)) (by decide) rfl ?_
  intro p e s m args below meth c s₁ B9 hml hv
  obtain ⟨rfl, hsz, hP, hK, hD0⟩ := hv
  have hx := B9.exec
  have hb := B9.bytes
  have hr := B9.returns
  have hts := atoms_spec (ws := wsX3_isCarriedBy) B9.pre
  have hown : s.vm.findClass RX3 = some m.cls := findClass_of_methodNamed B9.named
  have hlocks := B9.notSynchronized
  subst hsz
  have hD := hD0.self (sz := s.heap.size)
  generalize hAe : va_A (qG B R N) s.heap.size = A at hD ⊢
  have hA : ∀ q : Nat, s.heap.size ≤ q → A q := fun q h => by rw [← hAe]; exact Or.inr h
  have hS : va_S A s.heap s.heap [] := va_S.rf
  have hl := lv_entry ([.ref (qA B 5 0), .ref (qA B 0 i), .ref (qA B 0 k)]) (n := 5) (Nat.le_of_ble_eq_true rfl)
  rw [lg_entry_eq]
  generalize (lg_sl ([.ref (qA B 5 0), .ref (qA B 0 i), .ref (qA B 0 k)]) ++ List.replicate (5 - (lg_sl ([.ref (qA B 5 0), .ref (qA B 0 i), .ref (qA B 0 k)])).length) Slot.unset).toArray = ls at hl ⊢
  have hl : lv_has ls 5 [(0, .ref (qA B 5 0)), (1, .ref (qA B 0 i)), (2, .ref (qA B 0 k))] := hl
  have hP : va_P D vwCl (qG B R N) s.heap := hP
  generalize hRe : (headSpec _ _).room = R9
  have hRf : R9.frames = 2 := by rw [← hRe]; rfl
  have hRc : R9.cells = 0 := by rw [← hRe]; rfl
  have hRs : R9.slots = 0 := by rw [← hRe]; rfl
  have hRl : R9.locals = 60 := by rw [← hRe]; rfl
  clear hRe
  obtain ⟨hO, hM, hG, hSu, hKi, hRu, hLo, hIt, hWt⟩ := id hF
  have o8 := hO.2.2.2.2.2.2.2.1
  obtain ⟨n, hn⟩ : ∃ n, n = N 4 1 5 := ⟨_, rfl⟩
  rw [← hn] at hi hk o8
  refine lv_iconst (v := 0) hx hb dX3_isCarriedBy_0 (by decide) ?_
  refine lv_istore_n (lv' := [(3, .int 0), (0, .ref (qA B 5 0)), (1, .ref (qA B 0 i)), (2, .ref (qA B 0 k))]) hx hb dX3_isCarriedBy_1 rfl hl (by decide) rfl (fun ls hl => ?_)
  have hl := lv_sub hl (l' := [(3, .int 0), (2, .ref (qA B 0 k)), (1, .ref (qA B 0 i)), (0, .ref (qA B 5 0))]) [0, 3, 2, 1] rfl
  generalize hQe : MQ _ _ _ _ _ _ _ = Q
  have loop2 : ∀ (r9 k9 : Nat), k9 + r9 = n → ∀ (N1 : qN0) (n1 : qR14 N N1) (n2 : qM N1) (n3 : qRc N i N1) (H : Heap) (locs : List Loc) (ls : Array Slot), va_P D vwCl (qG B R N1) H → va_D A (qG B R N1) → va_S A s.heap H locs → lv_has ls 5 [(3, .int (nI (n - k9) - 1)), (2, .ref (qA B 0 k)), (1, .ref (qA B 0 i)), (0, .ref (qA B 5 0))] → W p l e R9 s m ([.ref (qA B 5 0), .ref (qA B 0 i), .ref (qA B 0 k)] : List Value).toArray below meth c H locs 0 0 Q (F0 m 45 ls []) := by
    intro r9
    induction r9 with
    | zero =>
      intro k9 hk9 N1 n1 n2 n3 H locs ls hP hD hS hl
      have hF1 := qFull_14 n1 n2 hF
      have f5 : N1 4 1 5 = n := by rw [n1 4 1 5 (by omega), hn]
      obtain rfl : n = k9 := by omega
      have q := n3 k (by omega)
      have hP : va_P D vwCl (qG B R N1) H := hP
      have hD : va_D A (qG B R N1) := hD
      refine lv_iload_n hx hb dX3_isCarriedBy_45 rfl (lv_at hl 0 rfl) ?_
      refine lv_if_lt (tgt := 80) hx hb dX3_isCarriedBy_46 (by decide) (fun c_8 => ?_) (fun c_8 => absurd (by rw [Nat.sub_self]; decide) c_8)
      refine lv_aload_n hx hb dX3_isCarriedBy_80 rfl (lv_at hl 1 rfl) ?_
      refine va_get (D := D) (ci := 0) (v := .int (nI (N1 0 k 14))) (C := RX0) (T := TX0) (N := 18) hx hb hts (fun _ h9 => List.mem_cons_of_mem _ (List.mem_append_right _ h9)) hown hK hP (5 + k) (qG_i (by omega)) rfl 14 (by decide) (hts (.fieldLink RX3 227 "PalletStack$Item" "isReached" "Z") (List.mem_of_getElem? (i := 2) (by rfl))) (fun _ h9 => h9) rfl dX3_isCarriedBy_81 ?_
      rw [← hQe]
      exact W.zret (ty := .boolean) (v := (nI (N1 0 k 14))) hx hb hr (qnar q.1) (fun t ht hW => ⟨⟨(nI (N1 0 k 14)), N1, rfl, ⟨⟨_, rfl, q.1, q.2⟩, n1, n2⟩, ⟨Nat.zero_le _, by rw [ht]; exact hP, va_K.moved hW.alike (hK.sub (tys' := []) [] rfl), hD⟩⟩, hS.F ht⟩) hS.2.2 dX3_isCarriedBy_84
    | succ r9 ih =>
      intro k9 hk9 N1 n1 n2 n3 H locs ls hP hD hS hl
      have hF1 := qFull_14 n1 n2 hF
      have f5 : N1 4 1 5 = n := by rw [n1 4 1 5 (by omega), hn]
      obtain ⟨t0, ht⟩ : ∃ t, t = n - 1 - k9 := ⟨_, rfl⟩
      have ht1 : nI (n - k9) - 1 = nI t0 := by rw [show n - k9 = t0 + 1 by omega]; exact nI_pred t0
      have ht2 : nI t0 + -1 = nI (n - (k9 + 1)) - 1 := by rw [show n - (k9 + 1) = t0 by omega]; exact (Int32.sub_eq_add_neg _ _).symm
      rw [ht1] at hl
      have hO1 := hF1.1
      obtain ⟨q1, q2⟩ := n3 t0 (by omega)
      have hP : va_P D vwCl (qG B R N1) H := hP
      have hD : va_D A (qG B R N1) := hD
      refine lv_iload_n hx hb dX3_isCarriedBy_45 rfl (lv_at hl 0 rfl) ?_
      refine lv_if_lt (tgt := 80) hx hb dX3_isCarriedBy_46 (by decide) (fun c_9 => absurd c_9 (nI_pos (by omega))) (fun c_9 => ?_)
      refine lv_aload_n hx hb dX3_isCarriedBy_49 rfl (lv_at hl 3 rfl) ?_
      refine lv_iload_n hx hb dX3_isCarriedBy_50 rfl (lv_at hl 0 rfl) ?_
      refine zrdVq2 (As := [.int (nI t0)]) (rest := []) (wc := qG B R N1) ⟨hx, hb, hml, hown, hts⟩ (c_itemOf l D _ B R N1 t0 (by omega) hO1) (cwV 1 hts gX3_isCarriedBy_X3_itemOf rfl rfl rfl (by decide +kernel) ⟨by rw [hRf]; exact Nat.le_of_ble_eq_true rfl, by rw [hRl]; exact Nat.le_of_ble_eq_true rfl⟩) hK hP hD [0, 1, 2, 3] rfl (ci := 3) (q0 := 0) rfl rfl rfl hl.1 rfl (Nat.le_of_ble_eq_true rfl) dX3_isCarriedBy_51 ⟨by omega, by omega⟩ (fun r_10 hr_10 => ?_)
      refine W.eq (g2 := F0 m 54 ls [.ref (qA B 0 t0)]) (by rw [hr_10]; rfl) ?_
      refine lv_astore (lv' := [(4, .ref (qA B 0 t0)), (3, .int (nI t0)), (2, .ref (qA B 0 k)), (1, .ref (qA B 0 i)), (0, .ref (qA B 5 0))]) hx hb dX3_isCarriedBy_54 hl (by decide) rfl (fun ls hl => ?_)
      refine lv_aload hx hb dX3_isCarriedBy_56 (lv_at hl 0 rfl) ?_
      refine lv_ifnull hx hb dX3_isCarriedBy_58 ?_
      refine lv_aload hx hb dX3_isCarriedBy_61 (lv_at hl 0 rfl) ?_
      refine va_get (D := D) (ci := 0) (v := .int (nI (N1 0 t0 14))) (C := RX0) (T := TX0) (N := 18) hx hb hts (fun _ h9 => List.mem_cons_of_mem _ (List.mem_append_right _ h9)) hown hK hP (5 + t0) (qG_i (by omega)) rfl 14 (by decide) (hts (.fieldLink RX3 227 "PalletStack$Item" "isReached" "Z") (List.mem_of_getElem? (i := 2) (by rfl))) (fun _ h9 => h9) rfl dX3_isCarriedBy_63 ?_
      refine lv_if_eq (tgt := 74) hx hb dX3_isCarriedBy_66 (by decide) (fun c_12 => ?_) (fun c_12 => ?_)
      · have h_b := True.intro
        refine lv_iinc (v := (nI (n - (k9 + 1)) - 1)) (lv' := [(3, .int (nI (n - (k9 + 1)) - 1)), (4, .ref (qA B 0 t0)), (2, .ref (qA B 0 k)), (1, .ref (qA B 0 i)), (0, .ref (qA B 5 0))]) hx hb dX3_isCarriedBy_74 hl (k := 1) rfl (ht2) (by decide) rfl (fun ls hl => ?_)
        refine lv_goto (tgt := 45) hx hb dX3_isCarriedBy_77 (by decide) ?_
        have hl := lv_sub hl (l' := [(3, .int (nI (n - (k9 + 1)) - 1)), (2, .ref (qA B 0 k)), (1, .ref (qA B 0 i)), (0, .ref (qA B 5 0))]) [0, 2, 3, 4] rfl
        exact ih (k9 + 1) (by omega) N1 n1 n2 n3 H locs ls hP hD hS hl
      · have h_b := True.intro
        have hc : N1 0 t0 14 ≠ 0 := fun h9 => c_12 (by rw [h9]; rfl)
        obtain ⟨g1, g2⟩ := q2 hc
        obtain ⟨s1, s2, s3, s4, s5, s6⟩ := hSu t0 (by omega)
        have e15 : N1 0 t0 15 = N 0 t0 15 := n1 _ _ _ (by omega)
        have h89 := (hG.1 t0 (by omega)).2.2.2.2.2.2.1
        refine lv_aload hx hb dX3_isCarriedBy_69 (lv_at hl 0 rfl) ?_
        refine qcallvV (As := []) (rest := []) (ws := qG B R N1) ⟨hx, hb, hml, hown, hts⟩ (c_reachS l D _ B R N1 t0 (by omega) (S t0) (fun j hj => by rw [e15] at hj; have := s4 j hj; exact ⟨this.1, by omega⟩) (by rw [e15]; exact s1) n2) (cwV 0 hts gX3_isCarriedBy_X0_reachSupports rfl rfl rfl (by decide +kernel) ⟨by rw [hRf]; exact Nat.le_of_ble_eq_true rfl, by rw [hRl]; exact Nat.le_of_ble_eq_true rfl⟩) hK hP hD hS hA [0, 1, 2, 3] rfl (ci := 0) (q0 := (5 + t0)) rfl (qG_i (by omega)) rfl hl.1 rfl (Nat.le_of_ble_eq_true rfl) dX3_isCarriedBy_71 ⟨by omega, by omega⟩ (fun u_14 H locs hwu_14 hP hD hS => ?_)
        obtain ⟨w1, w2, w3⟩ := hwu_14
        have hP : va_P D vwCl (qG B R u_14) H := hP
        have hD : va_D A (qG B R u_14) := hD
        have w4 : qRc N i u_14 := fun j hj => by
          rcases w3 j with h9 | ⟨h9, a, ha, hS9⟩
          · rw [h9]; exact n3 j hj
          · rw [h9]; refine ⟨by decide, fun _ => ?_⟩
            rw [e15] at ha; have h7 := s4 a ha; rw [hS9] at h7; exact ⟨by omega, by have := h7.2.2.2; omega⟩
        refine lv_iinc (v := (nI (n - (k9 + 1)) - 1)) (lv' := [(3, .int (nI (n - (k9 + 1)) - 1)), (4, .ref (qA B 0 t0)), (2, .ref (qA B 0 k)), (1, .ref (qA B 0 i)), (0, .ref (qA B 5 0))]) hx hb dX3_isCarriedBy_74 hl (k := 1) rfl (ht2) (by decide) rfl (fun ls hl => ?_)
        refine lv_goto (tgt := 45) hx hb dX3_isCarriedBy_77 (by decide) ?_
        have hl := lv_sub hl (l' := [(3, .int (nI (n - (k9 + 1)) - 1)), (2, .ref (qA B 0 k)), (1, .ref (qA B 0 i)), (0, .ref (qA B 5 0))]) [0, 2, 3, 4] rfl
        exact ih (k9 + 1) (by omega) u_14 (n1.tr w1) w2 w4 H locs ls hP hD hS hl
  have loop1 : ∀ (k9 i9 : Nat), i9 + k9 = n → ∀ (N1 : qN0) (n1 : qR14 N N1) (n2 : qM N1) (n3 : ∀ j, j < i9 → N1 0 j 14 = 0) (H : Heap) (locs : List Loc) (ls : Array Slot), va_P D vwCl (qG B R N1) H → va_D A (qG B R N1) → va_S A s.heap H locs → lv_has ls 5 [(3, .int (nI i9)), (2, .ref (qA B 0 k)), (1, .ref (qA B 0 i)), (0, .ref (qA B 5 0))] → W p l e R9 s m ([.ref (qA B 5 0), .ref (qA B 0 i), .ref (qA B 0 k)] : List Value).toArray below meth c H locs 0 0 Q (F0 m 2 ls []) := by
    intro k9
    induction k9 with
    | zero =>
      intro i9 hk9 N1 n1 n2 n3 H locs ls hP hD hS hl
      have hF1 := qFull_14 n1 n2 hF
      have f5 : N1 4 1 5 = n := by rw [n1 4 1 5 (by omega), hn]
      obtain rfl : n = i9 := by omega
      obtain ⟨s1, s2, s3, s4, s5, s6⟩ := hSu i (by omega)
      have e15 : N1 0 i 15 = N 0 i 15 := n1 _ _ _ (by omega)
      have hP : va_P D vwCl (qG B R N1) H := hP
      have hD : va_D A (qG B R N1) := hD
      refine lv_iload_n hx hb dX3_isCarriedBy_2 rfl (lv_at hl 0 rfl) ?_
      refine lv_aload_n hx hb dX3_isCarriedBy_3 rfl (lv_at hl 3 rfl) ?_
      refine va_get (D := D) (ci := 3) (v := .int (nI (N1 4 1 5))) (C := RX3) (T := TX3) (N := 14) hx hb hts (fun _ h9 => List.mem_cons_of_mem _ (List.mem_append_left _ (List.mem_append_right _ h9))) hown hK hP 0 rfl rfl 7 (by decide) (hts (.fieldLink RX3 38 "PalletStack" "cameCount" "I") (List.mem_of_getElem? (i := 1) (by rfl))) (fun _ h9 => h9) rfl dX3_isCarriedBy_4 ?_
      refine lv_topi (fun v_15 ev_15 => ?_)
      obtain rfl : v_15 = (nI n) := ev_15.trans (by rw [f5])
      refine lv_icmp_ge (tgt := 34) hx hb dX3_isCarriedBy_7 (by decide) (fun c_16 => ?_) (fun c_16 => absurd (Int32.le_refl _) c_16)
      refine lv_aload_n hx hb dX3_isCarriedBy_34 rfl (lv_at hl 2 rfl) ?_
      refine qcallvV (As := []) (rest := []) (ws := qG B R N1) ⟨hx, hb, hml, hown, hts⟩ (c_reachS l D _ B R N1 i (by omega) (S i) (fun j hj => by rw [e15] at hj; have := s4 j hj; exact ⟨this.1, by omega⟩) (by rw [e15]; exact s1) n2) (cwV 0 hts gX3_isCarriedBy_X0_reachSupports rfl rfl rfl (by decide +kernel) ⟨by rw [hRf]; exact Nat.le_of_ble_eq_true rfl, by rw [hRl]; exact Nat.le_of_ble_eq_true rfl⟩) hK hP hD hS hA [0, 1, 2, 3] rfl (ci := 0) (q0 := (5 + i)) rfl (qG_i (by omega)) rfl hl.1 rfl (Nat.le_of_ble_eq_true rfl) dX3_isCarriedBy_35 ⟨by omega, by omega⟩ (fun u_18 H locs hwu_18 hP hD hS => ?_)
      obtain ⟨w1, w2, w3⟩ := hwu_18
      have hP : va_P D vwCl (qG B R u_18) H := hP
      have hD : va_D A (qG B R u_18) := hD
      have w4 : qRc N i u_18 := fun j hj => by
        rcases w3 j with h9 | ⟨h9, a, ha, hS9⟩
        · rw [h9, n3 j (by omega)]; exact ⟨by decide, fun h => absurd rfl h⟩
        · rw [h9]; refine ⟨by decide, fun _ => ?_⟩
          rw [e15] at ha; have h7 := s4 a ha; rw [hS9] at h7; exact ⟨by omega, by have := h7.2.2.2; omega⟩
      have g5 : u_18 4 1 5 = n := by rw [w1 4 1 5 (by omega), f5]
      refine lv_aload_n hx hb dX3_isCarriedBy_38 rfl (lv_at hl 3 rfl) ?_
      refine va_get (D := D) (ci := 3) (v := .int (nI (u_18 4 1 5))) (C := RX3) (T := TX3) (N := 14) hx hb hts (fun _ h9 => List.mem_cons_of_mem _ (List.mem_append_left _ (List.mem_append_right _ h9))) hown hK hP 0 rfl rfl 7 (by decide) (hts (.fieldLink RX3 38 "PalletStack" "cameCount" "I") (List.mem_of_getElem? (i := 1) (by rfl))) (fun _ h9 => h9) rfl dX3_isCarriedBy_39 ?_
      refine lv_topi (fun v_19 ev_19 => ?_)
      obtain rfl : v_19 = (nI n) := ev_19.trans (by rw [g5])
      refine lv_iconst (v := 1) hx hb dX3_isCarriedBy_42 (by decide) ?_
      refine lv_isub hx hb dX3_isCarriedBy_43 ?_
      refine lv_istore_n (lv' := [(3, .int ((nI n) - 1)), (2, .ref (qA B 0 k)), (1, .ref (qA B 0 i)), (0, .ref (qA B 5 0))]) hx hb dX3_isCarriedBy_44 rfl hl (by decide) rfl (fun ls hl => ?_)
      have hl := lv_sub hl (l' := [(3, .int ((nI n) - 1)), (2, .ref (qA B 0 k)), (1, .ref (qA B 0 i)), (0, .ref (qA B 5 0))]) [0, 1, 2, 3] rfl
      exact loop2 n 0 (by omega) u_18 (n1.tr w1) w2 w4 H locs ls hP hD hS hl
    | succ k9 ih =>
      intro i9 hk9 N1 n1 n2 n3 H locs ls hP hD hS hl
      have hF1 := qFull_14 n1 n2 hF
      have f5 : N1 4 1 5 = n := by rw [n1 4 1 5 (by omega), hn]
      have hO1 := hF1.1
      have hP : va_P D vwCl (qG B R N1) H := hP
      have hD : va_D A (qG B R N1) := hD
      refine lv_iload_n hx hb dX3_isCarriedBy_2 rfl (lv_at hl 0 rfl) ?_
      refine lv_aload_n hx hb dX3_isCarriedBy_3 rfl (lv_at hl 3 rfl) ?_
      refine va_get (D := D) (ci := 3) (v := .int (nI (N1 4 1 5))) (C := RX3) (T := TX3) (N := 14) hx hb hts (fun _ h9 => List.mem_cons_of_mem _ (List.mem_append_left _ (List.mem_append_right _ h9))) hown hK hP 0 rfl rfl 7 (by decide) (hts (.fieldLink RX3 38 "PalletStack" "cameCount" "I") (List.mem_of_getElem? (i := 1) (by rfl))) (fun _ h9 => h9) rfl dX3_isCarriedBy_4 ?_
      refine lv_topi (fun v_20 ev_20 => ?_)
      obtain rfl : v_20 = (nI n) := ev_20.trans (by rw [f5])
      refine lv_icmp_ge (tgt := 34) hx hb dX3_isCarriedBy_7 (by decide) (fun c_21 => absurd c_21 (nI_ge (by omega) (by omega))) (fun c_21 => ?_)
      refine lv_aload_n hx hb dX3_isCarriedBy_10 rfl (lv_at hl 3 rfl) ?_
      refine lv_iload_n hx hb dX3_isCarriedBy_11 rfl (lv_at hl 0 rfl) ?_
      refine zrdVq2 (As := [.int (nI i9)]) (rest := []) (wc := qG B R N1) ⟨hx, hb, hml, hown, hts⟩ (c_itemOf l D _ B R N1 i9 (by omega) hO1) (cwV 1 hts gX3_isCarriedBy_X3_itemOf rfl rfl rfl (by decide +kernel) ⟨by rw [hRf]; exact Nat.le_of_ble_eq_true rfl, by rw [hRl]; exact Nat.le_of_ble_eq_true rfl⟩) hK hP hD [0, 1, 2, 3] rfl (ci := 3) (q0 := 0) rfl rfl rfl hl.1 rfl (Nat.le_of_ble_eq_true rfl) dX3_isCarriedBy_12 ⟨by omega, by omega⟩ (fun r_22 hr_22 => ?_)
      refine W.eq (g2 := F0 m 15 ls [.ref (qA B 0 i9)]) (by rw [hr_22]; rfl) ?_
      refine lv_astore (lv' := [(4, .ref (qA B 0 i9)), (3, .int (nI i9)), (2, .ref (qA B 0 k)), (1, .ref (qA B 0 i)), (0, .ref (qA B 5 0))]) hx hb dX3_isCarriedBy_15 hl (by decide) rfl (fun ls hl => ?_)
      refine lv_aload hx hb dX3_isCarriedBy_17 (lv_at hl 0 rfl) ?_
      refine lv_ifnull hx hb dX3_isCarriedBy_19 ?_
      refine lv_aload hx hb dX3_isCarriedBy_22 (lv_at hl 0 rfl) ?_
      refine lv_iconst (v := 0) hx hb dX3_isCarriedBy_24 (by decide) ?_
      refine va_put (D := D) (ci := 0) (v := .int (nI 0)) (ty := .boolean) (C := RX0) (T := TX0) (N := 18) hx hb hts (fun _ h9 => List.mem_cons_of_mem _ (List.mem_append_right _ h9)) tyX0 tyX0_ok nmX0 hown hK hP hD hS (5 + i9) (qG_i (by omega)) rfl 14 (by decide) (hts (.fieldLink RX3 227 "PalletStack$Item" "isReached" "Z") (List.mem_of_getElem? (i := 2) (by rfl))) (fun _ h9 => h9) rfl (by decide +kernel) rfl rfl (Nat.le_of_ble_eq_true rfl) dX3_isCarriedBy_25 (fun H locs hP hD hS => ?_)
      rw [qG_pi (by omega) (by decide)] at hP hD
      obtain ⟨N_24, hN_24⟩ : ∃ z : qN0, z = qp N1 0 i9 14 0 := ⟨_, rfl⟩
      rw [← hN_24] at hP hD
      have hP : va_P D vwCl (qG B R N_24) H := hP
      have hD : va_D A (qG B R N_24) := hD
      refine lv_iinc (v := (nI (i9 + 1))) (lv' := [(3, .int (nI (i9 + 1))), (4, .ref (qA B 0 i9)), (2, .ref (qA B 0 k)), (1, .ref (qA B 0 i)), (0, .ref (qA B 5 0))]) hx hb dX3_isCarriedBy_28 hl (k := 1) rfl (nI_1 i9) (by decide) rfl (fun ls hl => ?_)
      refine lv_goto (tgt := 2) hx hb dX3_isCarriedBy_31 (by decide) ?_
      have hl := lv_sub hl (l' := [(3, .int (nI (i9 + 1))), (2, .ref (qA B 0 k)), (1, .ref (qA B 0 i)), (0, .ref (qA B 5 0))]) [0, 2, 3, 4] rfl
      refine ih (i9 + 1) (by omega) N_24 (fun c i j h => ?_) (by rw [hN_24]; exact qM_p n2 (by decide)) (fun j9 h9 => ?_) H locs ls hP hD hS hl
      · rw [hN_24]; unfold qp; rw [if_neg (by omega)]; exact n1 c i j h
      · by_cases h8 : j9 = i9
        · rw [hN_24, h8, qp_eq]
        · rw [hN_24, qp_i _ _ _ _ _ _ h8]; exact n3 j9 (by omega)
  exact loop1 n 0 (by omega) N (qR14_rf N) hM (fun j h => absurd h (Nat.not_lt_zero j)) s.heap [] ls hP hD hS hl
set_option maxHeartbeats 4000000 in
set_option maxRecDepth 100000 in
theorem c_rests (l : Launch) (D : zG) (sz : Nat) (B : qB) (R : qR0) (N : qN0) (S : Nat → Nat → Nat) (hF : qFull B R N S) (i k : Nat) (hi : i < N 4 1 5) (hk : k < N 4 1 5) : Met l yX3_restsOn wsX3_restsOn ({ frames := 3, cells := 0, slots := 0, locals := 90 }) (zPc D (qT B) (qG B R N) sz [.ref (qA B 5 0), .int (nI i), .int (nI k)]) (va_Qi (fun (r : Int32) (u : qN0) => (∃ x, r = nI x ∧ x < 2 ∧ (x ≠ 0 → k < i ∧ N 0 k 9 ≤ N 0 i 8)) ∧ qR14 N u ∧ qM u) (zB D (va_A (qG B R N) sz) (fun _ => []) 0 (fun u => qG B R u)) (va_A (qG B R N) sz)) 0 0 (va_A (qG B R N) sz) := by
  refine Met.ofW (cc := cX3_restsOn) (maxL := 5) (ret := (some .boolean)) (by decide) rfl ?_
  intro p e s m args below meth c s₁ B9 hml hv
  obtain ⟨rfl, hsz, hP, hK, hD0⟩ := hv
  have hx := B9.exec
  have hb := B9.bytes
  have hr := B9.returns
  have hts := atoms_spec (ws := wsX3_restsOn) B9.pre
  have hown : s.vm.findClass RX3 = some m.cls := findClass_of_methodNamed B9.named
  have hlocks := B9.notSynchronized
  subst hsz
  have hD := hD0.self (sz := s.heap.size)
  generalize hAe : va_A (qG B R N) s.heap.size = A at hD ⊢
  have hA : ∀ q : Nat, s.heap.size ≤ q → A q := fun q h => by rw [← hAe]; exact Or.inr h
  have hS : va_S A s.heap s.heap [] := va_S.rf
  have hl := lv_entry ([.ref (qA B 5 0), .int (nI i), .int (nI k)]) (n := 5) (Nat.le_of_ble_eq_true rfl)
  rw [lg_entry_eq]
  generalize (lg_sl ([.ref (qA B 5 0), .int (nI i), .int (nI k)]) ++ List.replicate (5 - (lg_sl ([.ref (qA B 5 0), .int (nI i), .int (nI k)])).length) Slot.unset).toArray = ls at hl ⊢
  have hl : lv_has ls 5 [(0, .ref (qA B 5 0)), (1, .int (nI i)), (2, .int (nI k))] := hl
  have hP : va_P D vwCl (qG B R N) s.heap := hP
  generalize hRe : (headSpec _ _).room = R9
  have hRf : R9.frames = 3 := by rw [← hRe]; rfl
  have hRc : R9.cells = 0 := by rw [← hRe]; rfl
  have hRs : R9.slots = 0 := by rw [← hRe]; rfl
  have hRl : R9.locals = 90 := by rw [← hRe]; rfl
  clear hRe
  have hO := hF.1
  have o8 := hO.2.2.2.2.2.2.2.1
  refine lv_aload_n hx hb dX3_restsOn_0 rfl (lv_at hl 0 rfl) ?_
  refine lv_iload_n hx hb dX3_restsOn_1 rfl (lv_at hl 1 rfl) ?_
  refine zrdVq2 (As := [.int (nI i)]) (rest := []) (wc := qG B R N) ⟨hx, hb, hml, hown, hts⟩ (c_itemOf l D _ B R N i hi hO) (cwV 1 hts gX3_restsOn_X3_itemOf rfl rfl rfl (by decide +kernel) ⟨by rw [hRf]; exact Nat.le_of_ble_eq_true rfl, by rw [hRl]; exact Nat.le_of_ble_eq_true rfl⟩) hK hP hD [0, 1, 2, 3] rfl (ci := 3) (q0 := 0) rfl rfl rfl hl.1 rfl (Nat.le_of_ble_eq_true rfl) dX3_restsOn_2 ⟨by omega, by omega⟩ (fun r_25 hr_25 => ?_)
  refine W.eq (g2 := F0 m 5 ls [.ref (qA B 0 i)]) (by rw [hr_25]; rfl) ?_
  refine lv_astore_n (lv' := [(3, .ref (qA B 0 i)), (0, .ref (qA B 5 0)), (1, .int (nI i)), (2, .int (nI k))]) hx hb dX3_restsOn_5 rfl hl (by decide) rfl (fun ls hl => ?_)
  refine lv_aload_n hx hb dX3_restsOn_6 rfl (lv_at hl 1 rfl) ?_
  refine lv_iload_n hx hb dX3_restsOn_7 rfl (lv_at hl 3 rfl) ?_
  refine zrdVq2 (As := [.int (nI k)]) (rest := []) (wc := qG B R N) ⟨hx, hb, hml, hown, hts⟩ (c_itemOf l D _ B R N k hk hO) (cwV 1 hts gX3_restsOn_X3_itemOf rfl rfl rfl (by decide +kernel) ⟨by rw [hRf]; exact Nat.le_of_ble_eq_true rfl, by rw [hRl]; exact Nat.le_of_ble_eq_true rfl⟩) hK hP hD [0, 1, 2, 3] rfl (ci := 3) (q0 := 0) rfl rfl rfl hl.1 rfl (Nat.le_of_ble_eq_true rfl) dX3_restsOn_8 ⟨by omega, by omega⟩ (fun r_26 hr_26 => ?_)
  refine W.eq (g2 := F0 m 11 ls [.ref (qA B 0 k)]) (by rw [hr_26]; rfl) ?_
  refine lv_astore (lv' := [(4, .ref (qA B 0 k)), (3, .ref (qA B 0 i)), (0, .ref (qA B 5 0)), (1, .int (nI i)), (2, .int (nI k))]) hx hb dX3_restsOn_11 hl (by decide) rfl (fun ls hl => ?_)
  refine lv_aload_n hx hb dX3_restsOn_13 rfl (lv_at hl 1 rfl) ?_
  refine lv_ifnull hx hb dX3_restsOn_14 ?_
  refine lv_aload hx hb dX3_restsOn_17 (lv_at hl 0 rfl) ?_
  refine lv_ifnonnull (tgt := 30) hx hb dX3_restsOn_19 (by decide) ?_
  refine lv_aload_n hx hb dX3_restsOn_30 rfl (lv_at hl 2 rfl) ?_
  refine lv_aload_n hx hb dX3_restsOn_31 rfl (lv_at hl 1 rfl) ?_
  refine lv_aload hx hb dX3_restsOn_32 (lv_at hl 0 rfl) ?_
  refine qcalliV (As := [.ref (qA B 0 i), .ref (qA B 0 k)]) (rest := []) (ws := qG B R N) ⟨hx, hb, hml, hown, hts⟩ (c_carried l D _ B R N S hF i k hi hk) (cwV 2 hts gX3_restsOn_X3_isCarriedBy rfl rfl rfl (by decide +kernel) ⟨by rw [hRf]; exact Nat.le_of_ble_eq_true rfl, by rw [hRl]; exact Nat.le_of_ble_eq_true rfl⟩) hK hP hD hS hA [0, 1, 2, 3] rfl (ci := 3) (q0 := 0) rfl rfl rfl hl.1 rfl (Nat.le_of_ble_eq_true rfl) dX3_restsOn_34 ⟨by omega, by omega⟩ (fun r_29 u_30 H locs hwu_30 hP hD hS => ?_)
  obtain ⟨⟨x9, hx9, hx8, hx7⟩, w1, w2⟩ := hwu_30
  subst hx9
  have hP : va_P D vwCl (qG B R u_30) H := hP
  have hD : va_D A (qG B R u_30) := hD
  exact W.zret (ty := .boolean) (v := (nI x9)) hx hb hr (qnar hx8) (fun t ht hW => ⟨⟨(nI x9), u_30, rfl, ⟨⟨x9, rfl, hx8, hx7⟩, w1, w2⟩, ⟨Nat.zero_le _, by rw [ht]; exact hP, va_K.moved hW.alike (hK.sub (tys' := []) [] rfl), hD⟩⟩, hS.F ht⟩) hS.2.2 dX3_restsOn_37
set_option maxHeartbeats 4000000 in
set_option maxRecDepth 100000 in
theorem c_filled (l : Launch) (D : zG) (sz : Nat) (B : qB) (R : qR0) (N : qN0) (S : Nat → Nat → Nat) (hF : qFull B R N S) : Met l yX3_filled wsX3_filled ({ frames := 2, cells := 0, slots := 0, locals := 60 }) (zPc D (qT B) (qG B R N) sz [.ref (qA B 5 0)]) (vp_Sd (fun r => r = if N 4 1 5 = 0 then FP.dconst0 else FP.ddiv (FP.i2d (nI (qsum (fun i => N 0 i 4 * N 0 i 5 * (N 0 i 9 - N 0 i 8)) (N 4 1 5)))) (FP.i2d (nI (120 * qmx (fun i => N 0 i 9) (N 4 1 5)))))) 0 0 (fun _ => False) := by
  refine Met.ofW (cc := cX3_filled) (maxL := 4) (ret := (some .double)) (by decide) rfl ?_
  intro p e s m args below meth c s₁ B9 hml hv
  obtain ⟨rfl, hsz, hP, hK, hD0⟩ := hv
  have hx := B9.exec
  have hb := B9.bytes
  have hr := B9.returns
  have hts := atoms_spec (ws := wsX3_filled) B9.pre
  have hown : s.vm.findClass RX3 = some m.cls := findClass_of_methodNamed B9.named
  have hlocks := B9.notSynchronized
  subst hsz
  have hD := hD0
  generalize hAe : (fun _ : Nat => True) = A at hD
  have hl := lv_entry ([.ref (qA B 5 0)]) (n := 4) (Nat.le_of_ble_eq_true rfl)
  rw [lg_entry_eq]
  generalize (lg_sl ([.ref (qA B 5 0)]) ++ List.replicate (4 - (lg_sl ([.ref (qA B 5 0)])).length) Slot.unset).toArray = ls at hl ⊢
  have hl : lv_has ls 4 [(0, .ref (qA B 5 0))] := hl
  have hP : va_P D vwCl (qG B R N) s.heap := hP
  generalize hRe : (headSpec _ _).room = R9
  have hRf : R9.frames = 2 := by rw [← hRe]; rfl
  have hRc : R9.cells = 0 := by rw [← hRe]; rfl
  have hRs : R9.slots = 0 := by rw [← hRe]; rfl
  have hRl : R9.locals = 60 := by rw [← hRe]; rfl
  clear hRe
  obtain ⟨hO, hM, hG, hSu, hKi, hRu, hLo, hIt, hWt⟩ := id hF
  have o8 := hO.2.2.2.2.2.2.2.1
  obtain ⟨f, hf⟩ : ∃ f : Nat → Nat, f = (fun i => N 0 i 4 * N 0 i 5 * (N 0 i 9 - N 0 i 8)) := ⟨_, rfl⟩
  have hfi : ∀ i, f i = N 0 i 4 * N 0 i 5 * (N 0 i 9 - N 0 i 8) := fun i => by rw [hf]
  have b40 : ∀ i, i < N 4 1 5 → N 0 i 9 ≤ 40 := fun i hi => Nat.le_trans (hIt i hi).2.2.2.2.2.2.2.2.2.1 hRu.1
  have bf : ∀ i, i < N 4 1 5 → N 0 i 4 * N 0 i 5 ≤ 36 ∧ f i ≤ 36 * 40 := fun i hi => by
    have g := hG.1 i hi
    have q : N 0 i 4 * N 0 i 5 ≤ 6 * 6 := Nat.mul_le_mul g.2.1 g.2.2.2.1
    refine ⟨q, ?_⟩
    rw [hfi]; exact Nat.mul_le_mul q (by have := b40 i hi; omega)
  have bs : ∀ i, i ≤ N 4 1 5 → qsum f i ≤ 1440 * i := fun i hi => by rw [← qsum_const]; exact qsum_le (fun j hj => (bf j (by omega)).2)
  rw [← hf]
  refine lv_iconst (v := 0) hx hb dX3_filled_0 (by decide) ?_
  refine lv_istore_n (lv' := [(1, .int 0), (0, .ref (qA B 5 0))]) hx hb dX3_filled_1 rfl hl (by decide) rfl (fun ls hl => ?_)
  refine lv_iconst (v := 0) hx hb dX3_filled_2 (by decide) ?_
  refine lv_istore_n (lv' := [(2, .int 0), (1, .int 0), (0, .ref (qA B 5 0))]) hx hb dX3_filled_3 rfl hl (by decide) rfl (fun ls hl => ?_)
  have hl := lv_sub hl (l' := [(2, .int 0), (1, .int 0), (0, .ref (qA B 5 0))]) [0, 1, 2] rfl
  generalize hQe : MQ _ _ _ _ _ _ _ = Q
  have loop : ∀ (k9 i : Nat), i + k9 = N 4 1 5 → ∀ (ls : Array Slot), lv_has ls 4 [(2, .int (nI i)), (1, .int (nI (qsum f i))), (0, .ref (qA B 5 0))] → W p l e R9 s m ([.ref (qA B 5 0)] : List Value).toArray below meth c s.heap [] 0 0 Q (F0 m 4 ls []) := by
    intro k9
    induction k9 with
    | zero =>
      intro i hi ls hl
      obtain rfl : N 4 1 5 = i := by omega
      refine lv_iload_n hx hb dX3_filled_4 rfl (lv_at hl 0 rfl) ?_
      refine lv_aload_n hx hb dX3_filled_5 rfl (lv_at hl 2 rfl) ?_
      refine va_get (D := D) (ci := 3) (v := .int (nI (N 4 1 5))) (C := RX3) (T := TX3) (N := 14) hx hb hts (fun _ h9 => List.mem_cons_of_mem _ (List.mem_append_left _ (List.mem_append_right _ h9))) hown hK hP 0 rfl rfl 7 (by decide) (hts (.fieldLink RX3 38 "PalletStack" "cameCount" "I") (List.mem_of_getElem? (i := 1) (by rfl))) (fun _ h9 => h9) rfl dX3_filled_6 ?_
      refine lv_icmp_ge (tgt := 45) hx hb dX3_filled_9 (by decide) (fun c_31 => ?_) (fun c_31 => absurd (Int32.le_refl _) c_31)
      refine lv_aload_n hx hb dX3_filled_45 rfl (lv_at hl 2 rfl) ?_
      refine zrdV2 (As := []) (rest := []) (wc := qG B R N) ⟨hx, hb, hml, hown, hts⟩ (c_greatestTop l D _ B R N hO hM) (cwV 0 hts gX3_filled_X3_greatestTop rfl rfl rfl (by decide +kernel) ⟨by rw [hRf]; exact Nat.le_of_ble_eq_true rfl, by rw [hRl]; exact Nat.le_of_ble_eq_true rfl⟩) hK hP hD [0, 1, 2, 3] rfl (ci := 3) (q0 := 0) rfl rfl rfl hl.1 rfl (Nat.le_of_ble_eq_true rfl) dX3_filled_46 ⟨by omega, by omega⟩ (fun r_32 hr_32 => ?_)
      refine lv_topi (fun v_33 ev_33 => ?_)
      obtain rfl : v_33 = (nI (qmx (fun i => N 0 i 9) (N 4 1 5))) := ev_33.trans hr_32
      refine lv_istore_n (lv' := [(2, .int (nI (qmx (fun i => N 0 i 9) (N 4 1 5)))), (1, .int (nI (qsum f (N 4 1 5)))), (0, .ref (qA B 5 0))]) hx hb dX3_filled_49 rfl hl (by decide) rfl (fun ls hl => ?_)
      refine lv_iload_n hx hb dX3_filled_50 rfl (lv_at hl 0 rfl) ?_
      have bt : qmx (fun i => N 0 i 9) (N 4 1 5) ≤ 40 := qmx_le b40
      by_cases h0 : N 4 1 5 = 0
      · have h_b := True.intro
        have t0 : qmx (fun i => N 0 i 9) (N 4 1 5) = 0 := by rw [h0]; rfl
        refine lv_if_gt (tgt := 58) hx hb dX3_filled_51 (by decide) (fun c_34 => absurd c_34 (by rw [t0]; decide)) (fun c_34 => ?_)
        refine lv_dconst0 hx hb dX3_filled_54 ?_
        refine lv_goto (tgt := 66) hx hb dX3_filled_55 (by decide) ?_
        rw [← hQe]
        exact W.dret (v := FP.dconst0) hx hb hr (fun t ht hW => ⟨FP.dconst0, rfl, (if_pos h0).symm, ht⟩) (fun _ h => by cases h) dX3_filled_66
      · have h_b := True.intro
        have t0 : 0 < qmx (fun i => N 0 i 9) (N 4 1 5) := Nat.lt_of_lt_of_le (Nat.lt_of_le_of_lt (Nat.zero_le _) (hG.1 0 (by omega)).2.2.2.2.2.2.1) (qmx_ge (f := fun i => N 0 i 9) (i := 0) (by omega))
        refine lv_if_gt (tgt := 58) hx hb dX3_filled_51 (by decide) (fun c_35 => ?_) (fun c_35 => absurd (nI_lt (a := 0) t0 (by omega)) c_35)
        refine lv_iload_n hx hb dX3_filled_58 rfl (lv_at hl 1 rfl) ?_
        refine lv_i2d hx hb dX3_filled_59 ?_
        refine lv_bipush (v := 120) hx hb dX3_filled_60 (by decide) ?_
        refine lv_iload_n hx hb dX3_filled_62 rfl (lv_at hl 0 rfl) ?_
        refine lv_imul hx hb dX3_filled_63 ?_
        refine lv_topi (fun v_36 ev_36 => ?_)
        obtain rfl : v_36 = (nI (120 * qmx (fun i => N 0 i 9) (N 4 1 5))) := ev_36.trans (pk_mul 120 _)
        refine lv_i2d hx hb dX3_filled_64 ?_
        refine lv_ddiv hx hb dX3_filled_65 (qdiv_ok (fun h9 => absurd ((qeq (b := 0) (by omega) (by decide)).mp h9) (by omega))) ?_
        rw [← hQe]
        exact W.dret (v := (FP.ddiv (FP.i2d (nI (qsum f (N 4 1 5)))) (FP.i2d (nI (120 * qmx (fun i => N 0 i 9) (N 4 1 5)))))) hx hb hr (fun t ht hW => ⟨(FP.ddiv (FP.i2d (nI (qsum f (N 4 1 5)))) (FP.i2d (nI (120 * qmx (fun i => N 0 i 9) (N 4 1 5))))), rfl, (if_neg h0).symm, ht⟩) (fun _ h => by cases h) dX3_filled_66
    | succ k9 ih =>
      intro i hi ls hl
      have b1 := bf i (by omega)
      have b2 := bs i (by omega)
      have h89 := (hG.1 i (by omega)).2.2.2.2.2.2.1
      have b9 := hM 0 i 9
      refine lv_iload_n hx hb dX3_filled_4 rfl (lv_at hl 0 rfl) ?_
      refine lv_aload_n hx hb dX3_filled_5 rfl (lv_at hl 2 rfl) ?_
      refine va_get (D := D) (ci := 3) (v := .int (nI (N 4 1 5))) (C := RX3) (T := TX3) (N := 14) hx hb hts (fun _ h9 => List.mem_cons_of_mem _ (List.mem_append_left _ (List.mem_append_right _ h9))) hown hK hP 0 rfl rfl 7 (by decide) (hts (.fieldLink RX3 38 "PalletStack" "cameCount" "I") (List.mem_of_getElem? (i := 1) (by rfl))) (fun _ h9 => h9) rfl dX3_filled_6 ?_
      refine lv_icmp_ge (tgt := 45) hx hb dX3_filled_9 (by decide) (fun c_37 => absurd c_37 (nI_ge (by omega) (by omega))) (fun c_37 => ?_)
      refine lv_aload_n hx hb dX3_filled_12 rfl (lv_at hl 2 rfl) ?_
      refine lv_iload_n hx hb dX3_filled_13 rfl (lv_at hl 0 rfl) ?_
      refine zrdVq2 (As := [.int (nI i)]) (rest := []) (wc := qG B R N) ⟨hx, hb, hml, hown, hts⟩ (c_itemOf l D _ B R N i (by omega) hO) (cwV 1 hts gX3_filled_X3_itemOf rfl rfl rfl (by decide +kernel) ⟨by rw [hRf]; exact Nat.le_of_ble_eq_true rfl, by rw [hRl]; exact Nat.le_of_ble_eq_true rfl⟩) hK hP hD [0, 1, 2, 3] rfl (ci := 3) (q0 := 0) rfl rfl rfl hl.1 rfl (Nat.le_of_ble_eq_true rfl) dX3_filled_14 ⟨by omega, by omega⟩ (fun r_38 hr_38 => ?_)
      refine W.eq (g2 := F0 m 17 ls [.ref (qA B 0 i)]) (by rw [hr_38]; rfl) ?_
      refine lv_astore_n (lv' := [(3, .ref (qA B 0 i)), (2, .int (nI i)), (1, .int (nI (qsum f i))), (0, .ref (qA B 5 0))]) hx hb dX3_filled_17 rfl hl (by decide) rfl (fun ls hl => ?_)
      refine lv_aload_n hx hb dX3_filled_18 rfl (lv_at hl 0 rfl) ?_
      refine lv_ifnull hx hb dX3_filled_19 ?_
      refine lv_iload_n hx hb dX3_filled_22 rfl (lv_at hl 2 rfl) ?_
      refine lv_aload_n hx hb dX3_filled_23 rfl (lv_at hl 0 rfl) ?_
      refine zrdV2 (As := []) (rest := [.int (nI (qsum f i))]) (wc := qG B R N) ⟨hx, hb, hml, hown, hts⟩ (c_cells l D _ B R N i (by omega)) (cwV 0 hts gX3_filled_X0_cells rfl rfl rfl (by decide +kernel) ⟨by rw [hRf]; exact Nat.le_of_ble_eq_true rfl, by rw [hRl]; exact Nat.le_of_ble_eq_true rfl⟩) hK hP hD [0, 1, 2, 3] rfl (ci := 0) (q0 := (5 + i)) rfl (qG_i (by omega)) rfl hl.1 rfl (Nat.le_of_ble_eq_true rfl) dX3_filled_24 ⟨by omega, by omega⟩ (fun r_40 hr_40 => ?_)
      refine lv_topi (fun v_41 ev_41 => ?_)
      obtain rfl : v_41 = (nI (N 0 i 4 * N 0 i 5)) := ev_41.trans hr_40
      refine lv_aload_n hx hb dX3_filled_27 rfl (lv_at hl 0 rfl) ?_
      refine va_get (D := D) (ci := 0) (v := .int (nI (N 0 i 9))) (C := RX0) (T := TX0) (N := 18) hx hb hts (fun _ h9 => List.mem_cons_of_mem _ (List.mem_append_right _ h9)) hown hK hP (5 + i) (qG_i (by omega)) rfl 9 (by decide) (hts (.fieldLink RX3 134 "PalletStack$Item" "top" "I") (List.mem_of_getElem? (i := 2) (by rfl))) (fun _ h9 => h9) rfl dX3_filled_28 ?_
      refine lv_aload_n hx hb dX3_filled_31 rfl (lv_at hl 0 rfl) ?_
      refine va_get (D := D) (ci := 0) (v := .int (nI (N 0 i 8))) (C := RX0) (T := TX0) (N := 18) hx hb hts (fun _ h9 => List.mem_cons_of_mem _ (List.mem_append_right _ h9)) hown hK hP (5 + i) (qG_i (by omega)) rfl 8 (by decide) (hts (.fieldLink RX3 131 "PalletStack$Item" "bottom" "I") (List.mem_of_getElem? (i := 3) (by rfl))) (fun _ h9 => h9) rfl dX3_filled_32 ?_
      refine lv_isub hx hb dX3_filled_35 ?_
      refine lv_topi (fun v_42 ev_42 => ?_)
      obtain rfl : v_42 = (nI (N 0 i 9 - N 0 i 8)) := ev_42.trans (pk_sub (by omega))
      refine lv_imul hx hb dX3_filled_36 ?_
      refine lv_topi (fun v_43 ev_43 => ?_)
      obtain rfl : v_43 = (nI (f i)) := ev_43.trans ((pk_mul _ _).trans (by rw [hfi]))
      refine lv_iadd hx hb dX3_filled_37 ?_
      refine lv_topi (fun v_44 ev_44 => ?_)
      obtain rfl : v_44 = (nI (qsum f (i + 1))) := ev_44.trans (nI_add _ _)
      refine lv_istore_n (lv' := [(1, .int (nI (qsum f (i + 1)))), (3, .ref (qA B 0 i)), (2, .int (nI i)), (0, .ref (qA B 5 0))]) hx hb dX3_filled_38 rfl hl (by decide) rfl (fun ls hl => ?_)
      refine lv_iinc (v := (nI (i + 1))) (lv' := [(2, .int (nI (i + 1))), (1, .int (nI (qsum f (i + 1)))), (3, .ref (qA B 0 i)), (0, .ref (qA B 5 0))]) hx hb dX3_filled_39 hl (k := 2) rfl (nI_1 i) (by decide) rfl (fun ls hl => ?_)
      refine lv_goto (tgt := 4) hx hb dX3_filled_42 (by decide) ?_
      have hl := lv_sub hl (l' := [(2, .int (nI (i + 1))), (1, .int (nI (qsum f (i + 1)))), (0, .ref (qA B 5 0))]) [0, 1, 3] rfl
      exact ih (i + 1) (by omega) ls hl
  exact loop (N 4 1 5) 0 (by omega) ls hl
