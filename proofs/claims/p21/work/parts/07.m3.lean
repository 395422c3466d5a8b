set_option maxHeartbeats 4000000 in
set_option maxRecDepth 100000 in
theorem c_nextLine (l : Launch) (D : zG) (sz : Nat) (o kA iA tA tr lA n : Nat) (k0 : Nat) (cL : ClassId) (f : Nat → Option Nat) (ad : Nat → Nat) (as : Nat → Int32) (j : Nat) (hj : j ≤ n) (hn : n ≤ 20) (hf : ∀ i, i < n → f i = some (ad i)) (has : ∀ i, i < n → as i = if i < j then 1 else 0) : Met l yX3_nextLine wsX3_nextLine ({ frames := 2, cells := 0, slots := 0, locals := 43 }) (zPc D [(cL, .object RX2)] (([(o, .inr (3, [.ref kA, .int 1, .int 1, .int 0, .int 1, .int 0, .ref iA, .int 0, .int 0, .int 0, .ref tA, .ref tr, .ref lA, .int (nI n)])), (lA, .inl (cL, 20, .inr (.inr (.inr (.inr (f)))))), (k0, .inr (1, [.int 0, .int 1, .int 1, .int 2, .int 1, .int 0, .int 1, .int 0]))] : va_W) ++ zL k0 ad as n) sz [.ref o]) (va_Sq (fun r => r = if j < n then some (ad j) else none)) 0 0 (fun _ => False) := by
  refine Met.ofW (cc := cX3_nextLine) (maxL := 4) (ret := (some (.object "PalletStack$Line"))) (by decide) rfl ?_
  intro p e s m args below meth c s₁ B hml hv
  obtain ⟨rfl, hsz, hP, hK, hD0⟩ := hv
  have hx := B.exec
  have hb := B.bytes
  have hr := B.returns
  have hts := atoms_spec (ws := wsX3_nextLine) B.pre
  have hown : s.vm.findClass RX3 = some m.cls := findClass_of_methodNamed B.named
  have hlocks := B.notSynchronized
  subst hsz
  have hD := hD0
  generalize hAe : (fun _ : Nat => True) = A at hD
  have hl := lv_entry ([.ref o]) (n := 4) (Nat.le_of_ble_eq_true rfl)
  rw [lg_entry_eq]
  generalize (lg_sl ([.ref o]) ++ List.replicate (4 - (lg_sl ([.ref o])).length) Slot.unset).toArray = ls at hl ⊢
  have hl : lv_has ls 4 [(0, .ref o)] := hl
  have hP : va_P D vwCl (([(o, .inr (3, [.ref kA, .int 1, .int 1, .int 0, .int 1, .int 0, .ref iA, .int 0, .int 0, .int 0, .ref tA, .ref tr, .ref lA, .int (nI n)])), (lA, .inl (cL, 20, .inr (.inr (.inr (.inr (f)))))), (k0, .inr (1, [.int 0, .int 1, .int 1, .int 2, .int 1, .int 0, .int 1, .int 0]))] : va_W) ++ zL k0 ad as n) s.heap := hP
  generalize hRe : (headSpec _ _).room = R
  have hRf : R.frames = 2 := by rw [← hRe]; rfl
  have hRc : R.cells = 0 := by rw [← hRe]; rfl
  have hRs : R.slots = 0 := by rw [← hRe]; rfl
  have hRl : R.locals = 43 := by rw [← hRe]; rfl
  clear hRe
  refine lv_null hx hb dX3_nextLine_0 ?_
  refine lv_astore_nN (lv' := [(1, .null), (0, .ref o)]) hx hb dX3_nextLine_1 rfl hl (by decide) rfl (fun ls hl => ?_)
  refine lv_iconst (v := 0) hx hb dX3_nextLine_2 (by decide) ?_
  refine lv_istore_n (lv' := [(2, .int 0), (1, .null), (0, .ref o)]) hx hb dX3_nextLine_3 rfl hl (by decide) rfl (fun ls hl => ?_)
  generalize hQe : MQ _ _ _ _ _ _ _ = Q
  have hl := lv_sub hl (l' := [(2, .int 0), (1, .null), (0, .ref o)]) [0, 1, 2] rfl
  have loopB : ∀ (k i : Nat), i + k = n → j < i → ∀ (ls : Array Slot), lv_has ls 4 [(2, .int (nI i)), (1, .ref (ad j)), (0, .ref o)] → W p l e R s m ([.ref o] : List Value).toArray below meth c s.heap [] 0 0 Q (F0 m 4 ls []) := by
    intro k
    induction k with
    | zero =>
      intro i hi hji ls hl
      obtain rfl : n = i := by omega
      refine lv_iload_n hx hb dX3_nextLine_4 rfl (lv_at hl 0 rfl) ?_
      refine lv_aload_n hx hb dX3_nextLine_5 rfl (lv_at hl 2 rfl) ?_
      refine va_get (D := D) (ci := 3) (v := .int (nI n)) (C := RX3) (T := TX3) (N := 14) hx hb hts (fun _ h9 => List.mem_cons_of_mem _ (List.mem_append_left _ (List.mem_append_left _ (List.mem_append_right _ h9)))) hown hK hP 0 rfl rfl 13 (by decide) (hts (.fieldLink RX3 62 "PalletStack" "lineCount" "I") (List.mem_of_getElem? (i := 1) (by rfl))) (fun _ h9 => h9) rfl dX3_nextLine_6 ?_
      refine lv_icmp_ge (tgt := 62) hx hb dX3_nextLine_9 (by decide) (fun c_85 => ?_) (fun c_85 => absurd (Int32.le_refl _) c_85)
      refine lv_aload_n hx hb dX3_nextLine_62 rfl (lv_at hl 1 rfl) ?_
      rw [← hQe]
      exact W.aret (v := .ref (ad j)) hx hb hr (.inl ⟨_, rfl⟩) (.inr ⟨_, rfl⟩) (fun t ht hW => ⟨some (ad j), rfl, (if_pos hji).symm, ht⟩) (fun _ h => by cases h) dX3_nextLine_63
    | succ k ih =>
      intro i hi hji ls hl
      refine lv_iload_n hx hb dX3_nextLine_4 rfl (lv_at hl 0 rfl) ?_
      refine lv_aload_n hx hb dX3_nextLine_5 rfl (lv_at hl 2 rfl) ?_
      refine va_get (D := D) (ci := 3) (v := .int (nI n)) (C := RX3) (T := TX3) (N := 14) hx hb hts (fun _ h9 => List.mem_cons_of_mem _ (List.mem_append_left _ (List.mem_append_left _ (List.mem_append_right _ h9)))) hown hK hP 0 rfl rfl 13 (by decide) (hts (.fieldLink RX3 62 "PalletStack" "lineCount" "I") (List.mem_of_getElem? (i := 1) (by rfl))) (fun _ h9 => h9) rfl dX3_nextLine_6 ?_
      refine lv_icmp_ge (tgt := 62) hx hb dX3_nextLine_9 (by decide) (fun c_86 => absurd c_86 (nI_ge (by omega) (by omega))) (fun c_86 => ?_)
      refine lv_aload_n hx hb dX3_nextLine_12 rfl (lv_at hl 2 rfl) ?_
      refine lv_iload_n hx hb dX3_nextLine_13 rfl (lv_at hl 0 rfl) ?_
      refine zrdVq (As := [.int (nI i)]) (rest := []) (wc := [(o, .inr (3, [.ref kA, .int 1, .int 1, .int 0, .int 1, .int 0, .ref iA, .int 0, .int 0, .int 0, .ref tA, .ref tr, .ref lA, .int (nI n)])), (lA, .inl (cL, 20, .inr (.inr (.inr (.inr (f))))))]) ⟨hx, hb, hml, hown, hts⟩ (c_lineOf l D _ o kA iA tA tr lA n cL f i (ad i) (by omega) hn (hf i (by omega))) (cwV 1 hts gX3_nextLine_X3_lineOf rfl rfl rfl (by decide +kernel) ⟨by rw [hRf]; exact Nat.le_of_ble_eq_true rfl, by rw [hRl]; exact Nat.le_of_ble_eq_true rfl⟩) hK hP hD [0, 1] rfl (by decide) [0] rfl (ci := 3) (q0 := 0) rfl rfl rfl hl.1 rfl (Nat.le_of_ble_eq_true rfl) dX3_nextLine_14 ⟨by omega, by omega⟩ (fun r_87 hr_87 => ?_)
      refine W.eq (g2 := F0 m 17 ls [.ref (ad i)]) (by rw [hr_87]; rfl) ?_
      refine lv_astore_n (lv' := [(3, .ref (ad i)), (2, .int (nI i)), (1, .ref (ad j)), (0, .ref o)]) hx hb dX3_nextLine_17 rfl hl (by decide) rfl (fun ls hl => ?_)
      refine lv_aload_n hx hb dX3_nextLine_18 rfl (lv_at hl 0 rfl) ?_
      refine lv_ifnull hx hb dX3_nextLine_19 ?_
      refine lv_aload_n hx hb dX3_nextLine_22 rfl (lv_at hl 0 rfl) ?_
      refine va_get (D := D) (ci := 2) (v := .int 1) (C := RX2) (T := TX2) (N := 3) hx hb hts (fun _ h9 => List.mem_cons_of_mem _ (List.mem_append_left _ (List.mem_append_right _ h9))) hown hK hP (3 + i) (zL_get (by omega) rfl) rfl 1 (by decide) (hts (.fieldLink RX3 167 "PalletStack$Line" "count" "I") (List.mem_of_getElem? (i := 2) (by rfl))) (fun _ h9 => h9) rfl dX3_nextLine_23 ?_
      refine lv_if_le (tgt := 56) hx hb dX3_nextLine_26 (by decide) (fun c_89 => absurd c_89 (by decide)) (fun c_89 => ?_)
      refine lv_aload_n hx hb dX3_nextLine_29 rfl (lv_at hl 0 rfl) ?_
      refine va_get (D := D) (ci := 2) (v := .int (as i)) (C := RX2) (T := TX2) (N := 3) hx hb hts (fun _ h9 => List.mem_cons_of_mem _ (List.mem_append_left _ (List.mem_append_right _ h9))) hown hK hP (3 + i) (zL_get (by omega) rfl) rfl 2 (by decide) (hts (.fieldLink RX3 156 "PalletStack$Line" "isAside" "Z") (List.mem_of_getElem? (i := 3) (by rfl))) (fun _ h9 => h9) rfl dX3_nextLine_30 ?_
      refine lv_if_ne (tgt := 56) hx hb dX3_nextLine_33 (by decide) (fun c_90 => absurd ((has i (by omega)).trans (if_neg (by omega))) c_90) (fun c_90 => ?_)
      refine lv_aload_n hx hb dX3_nextLine_36 rfl (lv_at hl 2 rfl) ?_
      refine lv_ifnull hx hb dX3_nextLine_37 ?_
      refine lv_aload_n hx hb dX3_nextLine_40 rfl (lv_at hl 0 rfl) ?_
      refine va_get (D := D) (ci := 2) (v := .ref k0) (C := RX2) (T := TX2) (N := 3) hx hb hts (fun _ h9 => List.mem_cons_of_mem _ (List.mem_append_left _ (List.mem_append_right _ h9))) hown hK hP (3 + i) (zL_get (by omega) rfl) rfl 0 (by decide) (hts (.fieldLink RX3 163 "PalletStack$Line" "kind" "LPalletStack$Kind;") (List.mem_of_getElem? (i := 4) (by rfl))) (fun _ h9 => h9) rfl dX3_nextLine_41 ?_
      refine lv_aload_n hx hb dX3_nextLine_44 rfl (lv_at hl 2 rfl) ?_
      refine va_get (D := D) (ci := 2) (v := .ref k0) (C := RX2) (T := TX2) (N := 3) hx hb hts (fun _ h9 => List.mem_cons_of_mem _ (List.mem_append_left _ (List.mem_append_right _ h9))) hown hK hP (3 + j) (zL_get (by omega) rfl) rfl 0 (by decide) (hts (.fieldLink RX3 163 "PalletStack$Line" "kind" "LPalletStack$Kind;") (List.mem_of_getElem? (i := 4) (by rfl))) (fun _ h9 => h9) rfl dX3_nextLine_45 ?_
      refine zrdV (As := [.ref k0]) (rest := []) (wc := [(k0, .inr (1, [.int 0, .int 1, .int 1, .int 2, .int 1, .int 0, .int 1, .int 0]))]) ⟨hx, hb, hml, hown, hts⟩ (c_comesBefore l D _ k0) (cwV 1 hts gX3_nextLine_X1_comesBefore rfl rfl rfl (by decide +kernel) ⟨by rw [hRf]; exact Nat.le_of_ble_eq_true rfl, by rw [hRl]; exact Nat.le_of_ble_eq_true rfl⟩) hK hP hD [2] rfl (by decide) [] rfl (ci := 1) (q0 := 2) rfl rfl rfl hl.1 rfl (Nat.le_of_ble_eq_true rfl) dX3_nextLine_48 ⟨by omega, by omega⟩ (fun r_92 hr_92 => ?_)
      refine lv_topi (fun v_93 ev_93 => ?_)
      obtain rfl : v_93 = 0 := ev_93.trans hr_92
      refine lv_if_eq (tgt := 56) hx hb dX3_nextLine_51 (by decide) (fun c_94 => ?_) (fun c_94 => absurd (rfl) c_94)
      refine lv_iinc (v := (nI (i + 1))) (lv' := [(2, .int (nI (i + 1))), (3, .ref (ad i)), (1, .ref (ad j)), (0, .ref o)]) hx hb dX3_nextLine_56 hl (k := 1) rfl (nI_1 i) (by decide) rfl (fun ls hl => ?_)
      refine lv_goto (tgt := 4) hx hb dX3_nextLine_59 (by decide) ?_
      have hl := lv_sub hl (l' := [(2, .int (nI (i + 1))), (1, .ref (ad j)), (0, .ref o)]) [0, 2, 3] rfl
      exact ih (i + 1) (by omega) (by omega) ls hl
  have loopA : ∀ (k i : Nat), i + k = n → i ≤ j → ∀ (ls : Array Slot), lv_has ls 4 [(2, .int (nI i)), (1, .null), (0, .ref o)] → W p l e R s m ([.ref o] : List Value).toArray below meth c s.heap [] 0 0 Q (F0 m 4 ls []) := by
    intro k
    induction k with
    | zero =>
      intro i hi hji ls hl
      obtain rfl : n = i := by omega
      refine lv_iload_n hx hb dX3_nextLine_4 rfl (lv_at hl 0 rfl) ?_
      refine lv_aload_n hx hb dX3_nextLine_5 rfl (lv_at hl 2 rfl) ?_
      refine va_get (D := D) (ci := 3) (v := .int (nI n)) (C := RX3) (T := TX3) (N := 14) hx hb hts (fun _ h9 => List.mem_cons_of_mem _ (List.mem_append_left _ (List.mem_append_left _ (List.mem_append_right _ h9)))) hown hK hP 0 rfl rfl 13 (by decide) (hts (.fieldLink RX3 62 "PalletStack" "lineCount" "I") (List.mem_of_getElem? (i := 1) (by rfl))) (fun _ h9 => h9) rfl dX3_nextLine_6 ?_
      refine lv_icmp_ge (tgt := 62) hx hb dX3_nextLine_9 (by decide) (fun c_95 => ?_) (fun c_95 => absurd (Int32.le_refl _) c_95)
      refine lv_aload_nN hx hb dX3_nextLine_62 rfl (lv_at hl 1 rfl) ?_
      rw [← hQe]
      exact W.aret (v := .null) hx hb hr (.inl ⟨_, rfl⟩) (.inl rfl) (fun t ht hW => ⟨none, rfl, (if_neg (by omega)).symm, ht⟩) (fun _ h => by cases h) dX3_nextLine_63
    | succ k ih =>
      intro i hi hji ls hl
      refine lv_iload_n hx hb dX3_nextLine_4 rfl (lv_at hl 0 rfl) ?_
      refine lv_aload_n hx hb dX3_nextLine_5 rfl (lv_at hl 2 rfl) ?_
      refine va_get (D := D) (ci := 3) (v := .int (nI n)) (C := RX3) (T := TX3) (N := 14) hx hb hts (fun _ h9 => List.mem_cons_of_mem _ (List.mem_append_left _ (List.mem_append_left _ (List.mem_append_right _ h9)))) hown hK hP 0 rfl rfl 13 (by decide) (hts (.fieldLink RX3 62 "PalletStack" "lineCount" "I") (List.mem_of_getElem? (i := 1) (by rfl))) (fun _ h9 => h9) rfl dX3_nextLine_6 ?_
      refine lv_icmp_ge (tgt := 62) hx hb dX3_nextLine_9 (by decide) (fun c_96 => absurd c_96 (nI_ge (by omega) (by omega))) (fun c_96 => ?_)
      refine lv_aload_n hx hb dX3_nextLine_12 rfl (lv_at hl 2 rfl) ?_
      refine lv_iload_n hx hb dX3_nextLine_13 rfl (lv_at hl 0 rfl) ?_
      refine zrdVq (As := [.int (nI i)]) (rest := []) (wc := [(o, .inr (3, [.ref kA, .int 1, .int 1, .int 0, .int 1, .int 0, .ref iA, .int 0, .int 0, .int 0, .ref tA, .ref tr, .ref lA, .int (nI n)])), (lA, .inl (cL, 20, .inr (.inr (.inr (.inr (f))))))]) ⟨hx, hb, hml, hown, hts⟩ (c_lineOf l D _ o kA iA tA tr lA n cL f i (ad i) (by omega) hn (hf i (by omega))) (cwV 1 hts gX3_nextLine_X3_lineOf rfl rfl rfl (by decide +kernel) ⟨by rw [hRf]; exact Nat.le_of_ble_eq_true rfl, by rw [hRl]; exact Nat.le_of_ble_eq_true rfl⟩) hK hP hD [0, 1] rfl (by decide) [0] rfl (ci := 3) (q0 := 0) rfl rfl rfl hl.1 rfl (Nat.le_of_ble_eq_true rfl) dX3_nextLine_14 ⟨by omega, by omega⟩ (fun r_97 hr_97 => ?_)
      refine W.eq (g2 := F0 m 17 ls [.ref (ad i)]) (by rw [hr_97]; rfl) ?_
      refine lv_astore_n (lv' := [(3, .ref (ad i)), (2, .int (nI i)), (1, .null), (0, .ref o)]) hx hb dX3_nextLine_17 rfl hl (by decide) rfl (fun ls hl => ?_)
      refine lv_aload_n hx hb dX3_nextLine_18 rfl (lv_at hl 0 rfl) ?_
      refine lv_ifnull hx hb dX3_nextLine_19 ?_
      refine lv_aload_n hx hb dX3_nextLine_22 rfl (lv_at hl 0 rfl) ?_
      refine va_get (D := D) (ci := 2) (v := .int 1) (C := RX2) (T := TX2) (N := 3) hx hb hts (fun _ h9 => List.mem_cons_of_mem _ (List.mem_append_left _ (List.mem_append_right _ h9))) hown hK hP (3 + i) (zL_get (by omega) rfl) rfl 1 (by decide) (hts (.fieldLink RX3 167 "PalletStack$Line" "count" "I") (List.mem_of_getElem? (i := 2) (by rfl))) (fun _ h9 => h9) rfl dX3_nextLine_23 ?_
      refine lv_if_le (tgt := 56) hx hb dX3_nextLine_26 (by decide) (fun c_99 => absurd c_99 (by decide)) (fun c_99 => ?_)
      refine lv_aload_n hx hb dX3_nextLine_29 rfl (lv_at hl 0 rfl) ?_
      refine va_get (D := D) (ci := 2) (v := .int (as i)) (C := RX2) (T := TX2) (N := 3) hx hb hts (fun _ h9 => List.mem_cons_of_mem _ (List.mem_append_left _ (List.mem_append_right _ h9))) hown hK hP (3 + i) (zL_get (by omega) rfl) rfl 2 (by decide) (hts (.fieldLink RX3 156 "PalletStack$Line" "isAside" "Z") (List.mem_of_getElem? (i := 3) (by rfl))) (fun _ h9 => h9) rfl dX3_nextLine_30 ?_
      rcases Nat.lt_or_ge i j with hlt | hge
      · have h_b := True.intro
        refine lv_if_ne (tgt := 56) hx hb dX3_nextLine_33 (by decide) (fun c_100 => ?_) (fun c_100 => absurd c_100 (by rw [has i (by omega), if_pos hlt]; decide))
        refine lv_iinc (v := (nI (i + 1))) (lv' := [(2, .int (nI (i + 1))), (3, .ref (ad i)), (1, .null), (0, .ref o)]) hx hb dX3_nextLine_56 hl (k := 1) rfl (nI_1 i) (by decide) rfl (fun ls hl => ?_)
        refine lv_goto (tgt := 4) hx hb dX3_nextLine_59 (by decide) ?_
        have hl := lv_sub hl (l' := [(2, .int (nI (i + 1))), (1, .null), (0, .ref o)]) [0, 2, 3] rfl
        exact ih (i + 1) (by omega) (by omega) ls hl
      · have h_b := True.intro
        obtain rfl : i = j := by omega
        refine lv_if_ne (tgt := 56) hx hb dX3_nextLine_33 (by decide) (fun c_101 => absurd ((has i (by omega)).trans (if_neg (by omega))) c_101) (fun c_101 => ?_)
        refine lv_aload_nN hx hb dX3_nextLine_36 rfl (lv_at hl 2 rfl) ?_
        refine lv_ifnullN (tgt := 54) hx hb dX3_nextLine_37 (by decide) ?_
        refine lv_aload_n hx hb dX3_nextLine_54 rfl (lv_at hl 0 rfl) ?_
        refine lv_astore_n (lv' := [(1, .ref (ad i)), (3, .ref (ad i)), (2, .int (nI i)), (0, .ref o)]) hx hb dX3_nextLine_55 rfl hl (by decide) rfl (fun ls hl => ?_)
        refine lv_iinc (v := (nI (i + 1))) (lv' := [(2, .int (nI (i + 1))), (1, .ref (ad i)), (3, .ref (ad i)), (0, .ref o)]) hx hb dX3_nextLine_56 hl (k := 2) rfl (nI_1 i) (by decide) rfl (fun ls hl => ?_)
        refine lv_goto (tgt := 4) hx hb dX3_nextLine_59 (by decide) ?_
        have hl := lv_sub hl (l' := [(2, .int (nI (i + 1))), (1, .ref (ad i)), (0, .ref o)]) [0, 1, 3] rfl
        exact loopB k (i + 1) (by omega) (by omega) ls hl
  exact loopA n 0 (by omega) (by omega) ls hl
set_option maxHeartbeats 4000000 in
set_option maxRecDepth 100000 in
theorem c_stack (l : Launch) (D : zG) (sz : Nat) (o kA iA tA tr lA n : Nat) (k0 su sc : Nat) (w : Nat → Int32) (cT : ClassId) (cL : ClassId) (f : Nat → Option Nat) (ad : Nat → Nat) (as : Nat → Int32) (hn : n ≤ 20) (hf : ∀ i, i < n → f i = some (ad i)) : Met l yX3_stack wsX3_stack ({ frames := 4, cells := 0, slots := 0, locals := 100 }) (zPc D [(cT, .int), (cL, .object RX2)] (([(o, .inr (3, [.ref kA, .int 1, .int 1, .int 0, .int 1, .int 0, .ref iA, .int 0, .int 0, .int 0, .ref tA, .ref tr, .ref lA, .int (nI n)])), (tA, .inl (cT, 120, .inl (fun _ => 0))), (tr, .inr (0, [.int (w 0), .int (w 1), .int (w 2), .int (w 3), .int (w 4), .int (w 5), .int (w 6), .int (w 7), .int (w 8), .int (w 9), .int (w 10), .int (w 11), .int (w 12), .int (w 13), .int (w 14), .int (w 15), .ref su, .ref sc])), (lA, .inl (cL, 20, .inr (.inr (.inr (.inr (f)))))), (k0, .inr (1, [.int 0, .int 1, .int 1, .int 2, .int 1, .int 0, .int 1, .int 0]))] : va_W) ++ zL k0 ad as n) sz [.ref o]) (va_Qi (fun (r : Int32) (u : (Nat → Int32) × (Nat → Int32)) => r = 0) (zB D (va_A (([(o, .inr (3, [.ref kA, .int 1, .int 1, .int 0, .int 1, .int 0, .ref iA, .int 0, .int 0, .int 0, .ref tA, .ref tr, .ref lA, .int (nI n)])), (tA, .inl (cT, 120, .inl (fun _ => 0))), (tr, .inr (0, [.int (w 0), .int (w 1), .int (w 2), .int (w 3), .int (w 4), .int (w 5), .int (w 6), .int (w 7), .int (w 8), .int (w 9), .int (w 10), .int (w 11), .int (w 12), .int (w 13), .int (w 14), .int (w 15), .ref su, .ref sc])), (lA, .inl (cL, 20, .inr (.inr (.inr (.inr (f)))))), (k0, .inr (1, [.int 0, .int 1, .int 1, .int 2, .int 1, .int 0, .int 1, .int 0]))] : va_W) ++ zL k0 ad as n) sz) (fun _ => []) 0 (fun u => [(o, .inr (3, [.ref kA, .int 1, .int 1, .int 0, .int 1, .int 0, .ref iA, .int 0, .int 0, .int 0, .ref tA, .ref tr, .ref lA, .int (nI n)])), (tA, .inl (cT, 120, .inl (fun _ => 0))), (tr, .inr (0, [.int (u.1 0), .int (u.1 1), .int (u.1 2), .int (u.1 3), .int (u.1 4), .int (u.1 5), .int (u.1 6), .int (u.1 7), .int (u.1 8), .int (u.1 9), .int (u.1 10), .int (u.1 11), .int (u.1 12), .int (u.1 13), .int (u.1 14), .int (u.1 15), .ref su, .ref sc])), (lA, .inl (cL, 20, .inr (.inr (.inr (.inr (f)))))), (k0, .inr (1, [.int 0, .int 1, .int 1, .int 2, .int 1, .int 0, .int 1, .int 0]))] ++ zL k0 ad u.2 n)) (va_A (([(o, .inr (3, [.ref kA, .int 1, .int 1, .int 0, .int 1, .int 0, .ref iA, .int 0, .int 0, .int 0, .ref tA, .ref tr, .ref lA, .int (nI n)])), (tA, .inl (cT, 120, .inl (fun _ => 0))), (tr, .inr (0, [.int (w 0), .int (w 1), .int (w 2), .int (w 3), .int (w 4), .int (w 5), .int (w 6), .int (w 7), .int (w 8), .int (w 9), .int (w 10), .int (w 11), .int (w 12), .int (w 13), .int (w 14), .int (w 15), .ref su, .ref sc])), (lA, .inl (cL, 20, .inr (.inr (.inr (.inr (f)))))), (k0, .inr (1, [.int 0, .int 1, .int 1, .int 2, .int 1, .int 0, .int 1, .int 0]))] : va_W) ++ zL k0 ad as n) sz)) 0 0 (va_A (([(o, .inr (3, [.ref kA, .int 1, .int 1, .int 0, .int 1, .int 0, .ref iA, .int 0, .int 0, .int 0, .ref tA, .ref tr, .ref lA, .int (nI n)])), (tA, .inl (cT, 120, .inl (fun _ => 0))), (tr, .inr (0, [.int (w 0), .int (w 1), .int (w 2), .int (w 3), .int (w 4), .int (w 5), .int (w 6), .int (w 7), .int (w 8), .int (w 9), .int (w 10), .int (w 11), .int (w 12), .int (w 13), .int (w 14), .int (w 15), .ref su, .ref sc])), (lA, .inl (cL, 20, .inr (.inr (.inr (.inr (f)))))), (k0, .inr (1, [.int 0, .int 1, .int 1, .int 2, .int 1, .int 0, .int 1, .int 0]))] : va_W) ++ zL k0 ad as n) sz) := by
  refine Met.ofW (cc := cX3_stack) (maxL := 4) (ret := (some .int)) (by decide) rfl ?_
  intro p e s m args below meth c s₁ B hml hv
  obtain ⟨rfl, hsz, hP, hK, hD0⟩ := hv
  have hx := B.exec
  have hb := B.bytes
  have hr := B.returns
  have hts := atoms_spec (ws := wsX3_stack) B.pre
  have hown : s.vm.findClass RX3 = some m.cls := findClass_of_methodNamed B.named
  have hlocks := B.notSynchronized
  subst hsz
  have hD := hD0.self (sz := s.heap.size)
  generalize hAe : va_A (([(o, .inr (3, [.ref kA, .int 1, .int 1, .int 0, .int 1, .int 0, .ref iA, .int 0, .int 0, .int 0, .ref tA, .ref tr, .ref lA, .int (nI n)])), (tA, .inl (cT, 120, .inl (fun _ => 0))), (tr, .inr (0, [.int (w 0), .int (w 1), .int (w 2), .int (w 3), .int (w 4), .int (w 5), .int (w 6), .int (w 7), .int (w 8), .int (w 9), .int (w 10), .int (w 11), .int (w 12), .int (w 13), .int (w 14), .int (w 15), .ref su, .ref sc])), (lA, .inl (cL, 20, .inr (.inr (.inr (.inr (f)))))), (k0, .inr (1, [.int 0, .int 1, .int 1, .int 2, .int 1, .int 0, .int 1, .int 0]))] : va_W) ++ zL k0 ad as n) s.heap.size = A at hD ⊢
  have hA : ∀ q : Nat, s.heap.size ≤ q → A q := fun q h => by rw [← hAe]; exact Or.inr h
  have hS : va_S A s.heap s.heap [] := va_S.rf
  have hl := lv_entry ([.ref o]) (n := 4) (Nat.le_of_ble_eq_true rfl)
  rw [lg_entry_eq]
  generalize (lg_sl ([.ref o]) ++ List.replicate (4 - (lg_sl ([.ref o])).length) Slot.unset).toArray = ls at hl ⊢
  have hl : lv_has ls 4 [(0, .ref o)] := hl
  have hP : va_P D vwCl (([(o, .inr (3, [.ref kA, .int 1, .int 1, .int 0, .int 1, .int 0, .ref iA, .int 0, .int 0, .int 0, .ref tA, .ref tr, .ref lA, .int (nI n)])), (tA, .inl (cT, 120, .inl (fun _ => 0))), (tr, .inr (0, [.int (w 0), .int (w 1), .int (w 2), .int (w 3), .int (w 4), .int (w 5), .int (w 6), .int (w 7), .int (w 8), .int (w 9), .int (w 10), .int (w 11), .int (w 12), .int (w 13), .int (w 14), .int (w 15), .ref su, .ref sc])), (lA, .inl (cL, 20, .inr (.inr (.inr (.inr (f)))))), (k0, .inr (1, [.int 0, .int 1, .int 1, .int 2, .int 1, .int 0, .int 1, .int 0]))] : va_W) ++ zL k0 ad as n) s.heap := hP
  generalize hRe : (headSpec _ _).room = R
  have hRf : R.frames = 4 := by rw [← hRe]; rfl
  have hRc : R.cells = 0 := by rw [← hRe]; rfl
  have hRs : R.slots = 0 := by rw [← hRe]; rfl
  have hRl : R.locals = 100 := by rw [← hRe]; rfl
  clear hRe
  refine lv_iconst (v := 0) hx hb dX3_stack_0 (by decide) ?_
  refine lv_istore_n (lv' := [(1, .int 0), (0, .ref o)]) hx hb dX3_stack_1 rfl hl (by decide) rfl (fun ls hl => ?_)
  generalize hQe : MQ _ _ _ _ _ _ _ = Q
  have hl := lv_sub hl (l' := [(1, .int 0), (0, .ref o)]) [0, 1] rfl
  have loop2 : ∀ (k j : Nat), j + k = n → ∀ (w as : Nat → Int32) (H : Heap) (locs : List Loc) (ls : Array Slot), (∀ i, i < n → as i = if i < j then 1 else 0) → va_P D vwCl ([(o, .inr (3, [.ref kA, .int 1, .int 1, .int 0, .int 1, .int 0, .ref iA, .int 0, .int 0, .int 0, .ref tA, .ref tr, .ref lA, .int (nI n)])), (tA, .inl (cT, 120, .inl (fun _ => 0))), (tr, .inr (0, [.int (w 0), .int (w 1), .int (w 2), .int (w 3), .int (w 4), .int (w 5), .int (w 6), .int (w 7), .int (w 8), .int (w 9), .int (w 10), .int (w 11), .int (w 12), .int (w 13), .int (w 14), .int (w 15), .ref su, .ref sc])), (lA, .inl (cL, 20, .inr (.inr (.inr (.inr (f)))))), (k0, .inr (1, [.int 0, .int 1, .int 1, .int 2, .int 1, .int 0, .int 1, .int 0]))] ++ zL k0 ad as n) H → va_D A ([(o, .inr (3, [.ref kA, .int 1, .int 1, .int 0, .int 1, .int 0, .ref iA, .int 0, .int 0, .int 0, .ref tA, .ref tr, .ref lA, .int (nI n)])), (tA, .inl (cT, 120, .inl (fun _ => 0))), (tr, .inr (0, [.int (w 0), .int (w 1), .int (w 2), .int (w 3), .int (w 4), .int (w 5), .int (w 6), .int (w 7), .int (w 8), .int (w 9), .int (w 10), .int (w 11), .int (w 12), .int (w 13), .int (w 14), .int (w 15), .ref su, .ref sc])), (lA, .inl (cL, 20, .inr (.inr (.inr (.inr (f)))))), (k0, .inr (1, [.int 0, .int 1, .int 1, .int 2, .int 1, .int 0, .int 1, .int 0]))] ++ zL k0 ad as n) → va_S A s.heap H locs → lv_has ls 4 [(2, .int (nI j)), (1, .int 0), (0, .ref o)] → W p l e R s m ([.ref o] : List Value).toArray below meth c H locs 0 0 Q (F0 m 35 ls []) := by
    intro k
    induction k with
    | zero =>
      intro j hj w as H locs ls has hP hD hS hl
      obtain rfl : n = j := by omega
      refine lv_iload_n hx hb dX3_stack_35 rfl (lv_at hl 0 rfl) ?_
      refine lv_bipush (v := 80) hx hb dX3_stack_36 (by decide) ?_
      refine lv_icmp_ge (tgt := 90) hx hb dX3_stack_38 (by decide) (fun c_103 => absurd c_103 (nI_ge (b := 80) (by omega) (by decide))) (fun c_103 => ?_)
      refine lv_aload_n hx hb dX3_stack_41 rfl (lv_at hl 2 rfl) ?_
      have hPn := hP.part (cx := [(o, .inr (3, [.ref kA, .int 1, .int 1, .int 0, .int 1, .int 0, .ref iA, .int 0, .int 0, .int 0, .ref tA, .ref tr, .ref lA, .int (nI n)])), (lA, .inl (cL, 20, .inr (.inr (.inr (.inr (f)))))), (k0, .inr (1, [.int 0, .int 1, .int 1, .int 2, .int 1, .int 0, .int 1, .int 0]))]) [0, 3, 4] rfl
      have hDn := hD.part (cx := [(o, .inr (3, [.ref kA, .int 1, .int 1, .int 0, .int 1, .int 0, .ref iA, .int 0, .int 0, .int 0, .ref tA, .ref tr, .ref lA, .int (nI n)])), (lA, .inl (cL, 20, .inr (.inr (.inr (.inr (f)))))), (k0, .inr (1, [.int 0, .int 1, .int 1, .int 2, .int 1, .int 0, .int 1, .int 0]))]) [0, 3, 4] (by decide) rfl
      refine zrdVq2 (As := []) (rest := []) ⟨hx, hb, hml, hown, hts⟩ (c_nextLine l D _ o kA iA tA tr lA n k0 cL f ad as n (by omega) hn hf has) (cwV 0 hts gX3_stack_X3_nextLine rfl rfl rfl (by decide +kernel) ⟨by rw [hRf]; exact Nat.le_of_ble_eq_true rfl, by rw [hRl]; exact Nat.le_of_ble_eq_true rfl⟩) hK hPn hDn [1] rfl (ci := 3) (q0 := 0) rfl rfl rfl hl.1 rfl (Nat.le_of_ble_eq_true rfl) dX3_stack_42 ⟨by omega, by omega⟩ (fun r_104 hr_104 => ?_)
      refine W.eq (g2 := F0 m 45 ls [.null]) (by rw [hr_104, if_neg (by omega)]; rfl) ?_
      refine lv_astore_nN (lv' := [(3, .null), (2, .int (nI n)), (1, .int 0), (0, .ref o)]) hx hb dX3_stack_45 rfl hl (by decide) rfl (fun ls hl => ?_)
      refine lv_aload_nN hx hb dX3_stack_46 rfl (lv_at hl 0 rfl) ?_
      refine lv_ifnonnullN hx hb dX3_stack_47 ?_
      refine lv_iload_n hx hb dX3_stack_50 rfl (lv_at hl 2 rfl) ?_
      rw [← hQe]
      exact W.iret (v := 0) hx hb hr (fun t ht hW => ⟨⟨0, (w, as), rfl, rfl, ⟨Nat.zero_le _, by rw [ht]; exact hP, va_K.moved hW.alike (hK.sub (tys' := []) [] rfl), hD⟩⟩, hS.F ht⟩) hS.2.2 dX3_stack_51
    | succ k ih =>
      intro j hj w as H locs ls has hP hD hS hl
      refine lv_iload_n hx hb dX3_stack_35 rfl (lv_at hl 0 rfl) ?_
      refine lv_bipush (v := 80) hx hb dX3_stack_36 (by decide) ?_
      refine lv_icmp_ge (tgt := 90) hx hb dX3_stack_38 (by decide) (fun c_106 => absurd c_106 (nI_ge (b := 80) (by omega) (by decide))) (fun c_106 => ?_)
      refine lv_aload_n hx hb dX3_stack_41 rfl (lv_at hl 2 rfl) ?_
      have hPn := hP.part (cx := [(o, .inr (3, [.ref kA, .int 1, .int 1, .int 0, .int 1, .int 0, .ref iA, .int 0, .int 0, .int 0, .ref tA, .ref tr, .ref lA, .int (nI n)])), (lA, .inl (cL, 20, .inr (.inr (.inr (.inr (f)))))), (k0, .inr (1, [.int 0, .int 1, .int 1, .int 2, .int 1, .int 0, .int 1, .int 0]))]) [0, 3, 4] rfl
      have hDn := hD.part (cx := [(o, .inr (3, [.ref kA, .int 1, .int 1, .int 0, .int 1, .int 0, .ref iA, .int 0, .int 0, .int 0, .ref tA, .ref tr, .ref lA, .int (nI n)])), (lA, .inl (cL, 20, .inr (.inr (.inr (.inr (f)))))), (k0, .inr (1, [.int 0, .int 1, .int 1, .int 2, .int 1, .int 0, .int 1, .int 0]))]) [0, 3, 4] (by decide) rfl
      refine zrdVq2 (As := []) (rest := []) ⟨hx, hb, hml, hown, hts⟩ (c_nextLine l D _ o kA iA tA tr lA n k0 cL f ad as j (by omega) hn hf has) (cwV 0 hts gX3_stack_X3_nextLine rfl rfl rfl (by decide +kernel) ⟨by rw [hRf]; exact Nat.le_of_ble_eq_true rfl, by rw [hRl]; exact Nat.le_of_ble_eq_true rfl⟩) hK hPn hDn [1] rfl (ci := 3) (q0 := 0) rfl rfl rfl hl.1 rfl (Nat.le_of_ble_eq_true rfl) dX3_stack_42 ⟨by omega, by omega⟩ (fun r_107 hr_107 => ?_)
      refine W.eq (g2 := F0 m 45 ls [.ref (ad j)]) (by rw [hr_107, if_pos (by omega)]; rfl) ?_
      refine lv_astore_n (lv' := [(3, .ref (ad j)), (2, .int (nI j)), (1, .int 0), (0, .ref o)]) hx hb dX3_stack_45 rfl hl (by decide) rfl (fun ls hl => ?_)
      refine lv_aload_n hx hb dX3_stack_46 rfl (lv_at hl 0 rfl) ?_
      refine lv_ifnonnull (tgt := 52) hx hb dX3_stack_47 (by decide) ?_
      refine lv_aload_n hx hb dX3_stack_52 rfl (lv_at hl 3 rfl) ?_
      refine lv_aload_n hx hb dX3_stack_53 rfl (lv_at hl 0 rfl) ?_
      refine va_get (D := D) (ci := 2) (v := .ref k0) (C := RX2) (T := TX2) (N := 3) hx hb hts (fun _ h9 => List.mem_cons_of_mem _ (List.mem_append_left _ (List.mem_append_left _ (List.mem_append_right _ h9)))) hown hK hP (5 + j) (zL_get (by omega) rfl) rfl 0 (by decide) (hts (.fieldLink RX3 163 "PalletStack$Line" "kind" "LPalletStack$Kind;") (List.mem_of_getElem? (i := 3) (by rfl))) (fun _ h9 => h9) rfl dX3_stack_54 ?_
      refine zcalliVQ (As := [.ref k0]) (rest := []) (cx := [(o, .inr (3, [.ref kA, .int 1, .int 1, .int 0, .int 1, .int 0, .ref iA, .int 0, .int 0, .int 0, .ref tA, .ref tr, .ref lA, .int (nI n)])), (tA, .inl (cT, 120, .inl (fun _ => 0))), (tr, .inr (0, [.int (w 0), .int (w 1), .int (w 2), .int (w 3), .int (w 4), .int (w 5), .int (w 6), .int (w 7), .int (w 8), .int (w 9), .int (w 10), .int (w 11), .int (w 12), .int (w 13), .int (w 14), .int (w 15), .ref su, .ref sc])), (k0, .inr (1, [.int 0, .int 1, .int 1, .int 2, .int 1, .int 0, .int 1, .int 0]))]) (wr := [(lA, .inl (cL, 20, .inr (.inr (.inr (.inr (f))))))]) ⟨hx, hb, hml, hown, hts⟩ (c_putAtBest l D _ o kA iA tA tr lA n k0 su sc w cT) (cwV 1 hts gX3_stack_X3_putAtBest rfl rfl rfl (by decide +kernel) ⟨by rw [hRf]; exact Nat.le_of_ble_eq_true rfl, by rw [hRl]; exact Nat.le_of_ble_eq_true rfl⟩) hK hP hD hS hA [0, 1, 2, 4] [3] rfl (by decide) rfl (by decide) (by decide) [0] rfl (ci := 3) (q0 := 0) rfl rfl rfl hl.1 rfl (Nat.le_of_ble_eq_true rfl) dX3_stack_57 ⟨by omega, by omega⟩ (fun r_109 u_110 H locs hwu_110 hnu_110 hzu_110 hK hP hD hS => ?_)
      have hK : va_K D vwCl [(cT, .int), (cL, .object RX2)] s := hK
      have hP : va_P D vwCl (([(lA, .inl (cL, 20, .inr (.inr (.inr (.inr (f)))))), (o, .inr (3, [.ref kA, .int 1, .int 1, .int 0, .int 1, .int 0, .ref iA, .int 0, .int 0, .int 0, .ref tA, .ref tr, .ref lA, .int (nI n)])), (tA, .inl (cT, 120, .inl (fun _ => 0))), (tr, .inr (0, [.int (u_110 0), .int (u_110 1), .int (u_110 2), .int (u_110 3), .int (u_110 4), .int (u_110 5), .int (u_110 6), .int (u_110 7), .int (u_110 8), .int (u_110 9), .int (u_110 10), .int (u_110 11), .int (u_110 12), .int (u_110 13), .int (u_110 14), .int (u_110 15), .ref su, .ref sc])), (k0, .inr (1, [.int 0, .int 1, .int 1, .int 2, .int 1, .int 0, .int 1, .int 0]))] : va_W) ++ zL k0 ad as n) H := hP
      have hD : va_D A (([(lA, .inl (cL, 20, .inr (.inr (.inr (.inr (f)))))), (o, .inr (3, [.ref kA, .int 1, .int 1, .int 0, .int 1, .int 0, .ref iA, .int 0, .int 0, .int 0, .ref tA, .ref tr, .ref lA, .int (nI n)])), (tA, .inl (cT, 120, .inl (fun _ => 0))), (tr, .inr (0, [.int (u_110 0), .int (u_110 1), .int (u_110 2), .int (u_110 3), .int (u_110 4), .int (u_110 5), .int (u_110 6), .int (u_110 7), .int (u_110 8), .int (u_110 9), .int (u_110 10), .int (u_110 11), .int (u_110 12), .int (u_110 13), .int (u_110 14), .int (u_110 15), .ref su, .ref sc])), (k0, .inr (1, [.int 0, .int 1, .int 1, .int 2, .int 1, .int 0, .int 1, .int 0]))] : va_W) ++ zL k0 ad as n) := hD
      have hP := hP.part (cx := [(o, .inr (3, [.ref kA, .int 1, .int 1, .int 0, .int 1, .int 0, .ref iA, .int 0, .int 0, .int 0, .ref tA, .ref tr, .ref lA, .int (nI n)])), (tA, .inl (cT, 120, .inl (fun _ => 0))), (tr, .inr (0, [.int (u_110 0), .int (u_110 1), .int (u_110 2), .int (u_110 3), .int (u_110 4), .int (u_110 5), .int (u_110 6), .int (u_110 7), .int (u_110 8), .int (u_110 9), .int (u_110 10), .int (u_110 11), .int (u_110 12), .int (u_110 13), .int (u_110 14), .int (u_110 15), .ref su, .ref sc])), (lA, .inl (cL, 20, .inr (.inr (.inr (.inr (f)))))), (k0, .inr (1, [.int 0, .int 1, .int 1, .int 2, .int 1, .int 0, .int 1, .int 0]))]) [1, 2, 3, 0, 4] rfl
      have hD := hD.part (cx := [(o, .inr (3, [.ref kA, .int 1, .int 1, .int 0, .int 1, .int 0, .ref iA, .int 0, .int 0, .int 0, .ref tA, .ref tr, .ref lA, .int (nI n)])), (tA, .inl (cT, 120, .inl (fun _ => 0))), (tr, .inr (0, [.int (u_110 0), .int (u_110 1), .int (u_110 2), .int (u_110 3), .int (u_110 4), .int (u_110 5), .int (u_110 6), .int (u_110 7), .int (u_110 8), .int (u_110 9), .int (u_110 10), .int (u_110 11), .int (u_110 12), .int (u_110 13), .int (u_110 14), .int (u_110 15), .ref su, .ref sc])), (lA, .inl (cL, 20, .inr (.inr (.inr (.inr (f)))))), (k0, .inr (1, [.int 0, .int 1, .int 1, .int 2, .int 1, .int 0, .int 1, .int 0]))]) [1, 2, 3, 0, 4] (by decide) rfl
      have hP : va_P D vwCl (([(o, .inr (3, [.ref kA, .int 1, .int 1, .int 0, .int 1, .int 0, .ref iA, .int 0, .int 0, .int 0, .ref tA, .ref tr, .ref lA, .int (nI n)])), (tA, .inl (cT, 120, .inl (fun _ => 0))), (tr, .inr (0, [.int (u_110 0), .int (u_110 1), .int (u_110 2), .int (u_110 3), .int (u_110 4), .int (u_110 5), .int (u_110 6), .int (u_110 7), .int (u_110 8), .int (u_110 9), .int (u_110 10), .int (u_110 11), .int (u_110 12), .int (u_110 13), .int (u_110 14), .int (u_110 15), .ref su, .ref sc])), (lA, .inl (cL, 20, .inr (.inr (.inr (.inr (f)))))), (k0, .inr (1, [.int 0, .int 1, .int 1, .int 2, .int 1, .int 0, .int 1, .int 0]))] : va_W) ++ zL k0 ad as n) H := hP
      have hD : va_D A (([(o, .inr (3, [.ref kA, .int 1, .int 1, .int 0, .int 1, .int 0, .ref iA, .int 0, .int 0, .int 0, .ref tA, .ref tr, .ref lA, .int (nI n)])), (tA, .inl (cT, 120, .inl (fun _ => 0))), (tr, .inr (0, [.int (u_110 0), .int (u_110 1), .int (u_110 2), .int (u_110 3), .int (u_110 4), .int (u_110 5), .int (u_110 6), .int (u_110 7), .int (u_110 8), .int (u_110 9), .int (u_110 10), .int (u_110 11), .int (u_110 12), .int (u_110 13), .int (u_110 14), .int (u_110 15), .ref su, .ref sc])), (lA, .inl (cL, 20, .inr (.inr (.inr (.inr (f)))))), (k0, .inr (1, [.int 0, .int 1, .int 1, .int 2, .int 1, .int 0, .int 1, .int 0]))] : va_W) ++ zL k0 ad as n) := hD
      refine lv_topi (fun v_111 ev_111 => ?_)
      obtain rfl : v_111 = 0 := ev_111.trans hwu_110
      refine lv_if_eq (tgt := 79) hx hb dX3_stack_60 (by decide) (fun c_112 => ?_) (fun c_112 => absurd (rfl) c_112)
      refine lv_aload_n hx hb dX3_stack_79 rfl (lv_at hl 0 rfl) ?_
      refine lv_iconst (v := 1) hx hb dX3_stack_80 (by decide) ?_
      refine va_put (D := D) (ci := 2) (v := .int 1) (ty := .boolean) (C := RX2) (T := TX2) (N := 3) hx hb hts (fun _ h9 => List.mem_cons_of_mem _ (List.mem_append_left _ (List.mem_append_left _ (List.mem_append_right _ h9)))) tyX2 tyX2_ok nmX2 hown hK hP hD hS (5 + j) (zL_get (by omega) rfl) rfl 2 (by decide) (hts (.fieldLink RX3 156 "PalletStack$Line" "isAside" "Z") (List.mem_of_getElem? (i := 2) (by rfl))) (fun _ h9 => h9) rfl (by decide +kernel) rfl rfl (Nat.le_of_ble_eq_true rfl) dX3_stack_81 (fun H locs hP hD hS => ?_)
      have hP : va_P D vwCl ((([(o, .inr (3, [.ref kA, .int 1, .int 1, .int 0, .int 1, .int 0, .ref iA, .int 0, .int 0, .int 0, .ref tA, .ref tr, .ref lA, .int (nI n)])), (tA, .inl (cT, 120, .inl (fun _ => 0))), (tr, .inr (0, [.int (u_110 0), .int (u_110 1), .int (u_110 2), .int (u_110 3), .int (u_110 4), .int (u_110 5), .int (u_110 6), .int (u_110 7), .int (u_110 8), .int (u_110 9), .int (u_110 10), .int (u_110 11), .int (u_110 12), .int (u_110 13), .int (u_110 14), .int (u_110 15), .ref su, .ref sc])), (lA, .inl (cL, 20, .inr (.inr (.inr (.inr (f)))))), (k0, .inr (1, [.int 0, .int 1, .int 1, .int 2, .int 1, .int 0, .int 1, .int 0]))] : va_W) ++ zL k0 ad as n).set (5 + j) (ad j, .inr (2, [.ref k0, .int 1, .int 1]))) H := hP
      have hD : va_D A ((([(o, .inr (3, [.ref kA, .int 1, .int 1, .int 0, .int 1, .int 0, .ref iA, .int 0, .int 0, .int 0, .ref tA, .ref tr, .ref lA, .int (nI n)])), (tA, .inl (cT, 120, .inl (fun _ => 0))), (tr, .inr (0, [.int (u_110 0), .int (u_110 1), .int (u_110 2), .int (u_110 3), .int (u_110 4), .int (u_110 5), .int (u_110 6), .int (u_110 7), .int (u_110 8), .int (u_110 9), .int (u_110 10), .int (u_110 11), .int (u_110 12), .int (u_110 13), .int (u_110 14), .int (u_110 15), .ref su, .ref sc])), (lA, .inl (cL, 20, .inr (.inr (.inr (.inr (f)))))), (k0, .inr (1, [.int 0, .int 1, .int 1, .int 2, .int 1, .int 0, .int 1, .int 0]))] : va_W) ++ zL k0 ad as n).set (5 + j) (ad j, .inr (2, [.ref k0, .int 1, .int 1]))) := hD
      rw [zL_set (X := [(o, .inr (3, [.ref kA, .int 1, .int 1, .int 0, .int 1, .int 0, .ref iA, .int 0, .int 0, .int 0, .ref tA, .ref tr, .ref lA, .int (nI n)])), (tA, .inl (cT, 120, .inl (fun _ => 0))), (tr, .inr (0, [.int (u_110 0), .int (u_110 1), .int (u_110 2), .int (u_110 3), .int (u_110 4), .int (u_110 5), .int (u_110 6), .int (u_110 7), .int (u_110 8), .int (u_110 9), .int (u_110 10), .int (u_110 11), .int (u_110 12), .int (u_110 13), .int (u_110 14), .int (u_110 15), .ref su, .ref sc])), (lA, .inl (cL, 20, .inr (.inr (.inr (.inr (f)))))), (k0, .inr (1, [.int 0, .int 1, .int 1, .int 2, .int 1, .int 0, .int 1, .int 0]))]) (k := 5) rfl] at hP hD
      have hP : va_P D vwCl (([(o, .inr (3, [.ref kA, .int 1, .int 1, .int 0, .int 1, .int 0, .ref iA, .int 0, .int 0, .int 0, .ref tA, .ref tr, .ref lA, .int (nI n)])), (tA, .inl (cT, 120, .inl (fun _ => 0))), (tr, .inr (0, [.int (u_110 0), .int (u_110 1), .int (u_110 2), .int (u_110 3), .int (u_110 4), .int (u_110 5), .int (u_110 6), .int (u_110 7), .int (u_110 8), .int (u_110 9), .int (u_110 10), .int (u_110 11), .int (u_110 12), .int (u_110 13), .int (u_110 14), .int (u_110 15), .ref su, .ref sc])), (lA, .inl (cL, 20, .inr (.inr (.inr (.inr (f)))))), (k0, .inr (1, [.int 0, .int 1, .int 1, .int 2, .int 1, .int 0, .int 1, .int 0]))] : va_W) ++ zL k0 ad (upd as j 1) n) H := hP
      have hD : va_D A (([(o, .inr (3, [.ref kA, .int 1, .int 1, .int 0, .int 1, .int 0, .ref iA, .int 0, .int 0, .int 0, .ref tA, .ref tr, .ref lA, .int (nI n)])), (tA, .inl (cT, 120, .inl (fun _ => 0))), (tr, .inr (0, [.int (u_110 0), .int (u_110 1), .int (u_110 2), .int (u_110 3), .int (u_110 4), .int (u_110 5), .int (u_110 6), .int (u_110 7), .int (u_110 8), .int (u_110 9), .int (u_110 10), .int (u_110 11), .int (u_110 12), .int (u_110 13), .int (u_110 14), .int (u_110 15), .ref su, .ref sc])), (lA, .inl (cL, 20, .inr (.inr (.inr (.inr (f)))))), (k0, .inr (1, [.int 0, .int 1, .int 1, .int 2, .int 1, .int 0, .int 1, .int 0]))] : va_W) ++ zL k0 ad (upd as j 1) n) := hD
      refine lv_iinc (v := (nI (j + 1))) (lv' := [(2, .int (nI (j + 1))), (3, .ref (ad j)), (1, .int 0), (0, .ref o)]) hx hb dX3_stack_84 hl (k := 1) rfl (nI_1 j) (by decide) rfl (fun ls hl => ?_)
      refine lv_goto (tgt := 35) hx hb dX3_stack_87 (by decide) ?_
      have hl := lv_sub hl (l' := [(2, .int (nI (j + 1))), (1, .int 0), (0, .ref o)]) [0, 2, 3] rfl
      exact ih (j + 1) (by omega) u_110 (upd as j 1) H locs ls (fun i hi => by
        simp only [upd]
        by_cases hij : i = j
        · rw [if_pos hij, if_pos (by omega)]
        · rw [if_neg hij, has i hi]; by_cases hlt : i < j
          · rw [if_pos hlt, if_pos (by omega)]
          · rw [if_neg hlt, if_neg (by omega)]) hP hD hS hl
  have loop1 : ∀ (k i : Nat), i + k = n → ∀ (as : Nat → Int32) (H : Heap) (locs : List Loc) (ls : Array Slot), (∀ z, z < i → as z = 0) → va_P D vwCl ([(o, .inr (3, [.ref kA, .int 1, .int 1, .int 0, .int 1, .int 0, .ref iA, .int 0, .int 0, .int 0, .ref tA, .ref tr, .ref lA, .int (nI n)])), (tA, .inl (cT, 120, .inl (fun _ => 0))), (tr, .inr (0, [.int (w 0), .int (w 1), .int (w 2), .int (w 3), .int (w 4), .int (w 5), .int (w 6), .int (w 7), .int (w 8), .int (w 9), .int (w 10), .int (w 11), .int (w 12), .int (w 13), .int (w 14), .int (w 15), .ref su, .ref sc])), (lA, .inl (cL, 20, .inr (.inr (.inr (.inr (f)))))), (k0, .inr (1, [.int 0, .int 1, .int 1, .int 2, .int 1, .int 0, .int 1, .int 0]))] ++ zL k0 ad as n) H → va_D A ([(o, .inr (3, [.ref kA, .int 1, .int 1, .int 0, .int 1, .int 0, .ref iA, .int 0, .int 0, .int 0, .ref tA, .ref tr, .ref lA, .int (nI n)])), (tA, .inl (cT, 120, .inl (fun _ => 0))), (tr, .inr (0, [.int (w 0), .int (w 1), .int (w 2), .int (w 3), .int (w 4), .int (w 5), .int (w 6), .int (w 7), .int (w 8), .int (w 9), .int (w 10), .int (w 11), .int (w 12), .int (w 13), .int (w 14), .int (w 15), .ref su, .ref sc])), (lA, .inl (cL, 20, .inr (.inr (.inr (.inr (f)))))), (k0, .inr (1, [.int 0, .int 1, .int 1, .int 2, .int 1, .int 0, .int 1, .int 0]))] ++ zL k0 ad as n) → va_S A s.heap H locs → lv_has ls 4 [(1, .int (nI i)), (0, .ref o)] → W p l e R s m ([.ref o] : List Value).toArray below meth c H locs 0 0 Q (F0 m 2 ls []) := by
    intro k
    induction k with
    | zero =>
      intro i hi as H locs ls has hP hD hS hl
      obtain rfl : n = i := by omega
      refine lv_iload_n hx hb dX3_stack_2 rfl (lv_at hl 0 rfl) ?_
      refine lv_aload_n hx hb dX3_stack_3 rfl (lv_at hl 1 rfl) ?_
      refine va_get (D := D) (ci := 3) (v := .int (nI n)) (C := RX3) (T := TX3) (N := 14) hx hb hts (fun _ h9 => List.mem_cons_of_mem _ (List.mem_append_left _ (List.mem_append_left _ (List.mem_append_left _ (List.mem_append_right _ h9))))) hown hK hP 0 rfl rfl 13 (by decide) (hts (.fieldLink RX3 62 "PalletStack" "lineCount" "I") (List.mem_of_getElem? (i := 1) (by rfl))) (fun _ h9 => h9) rfl dX3_stack_4 ?_
      refine lv_icmp_ge (tgt := 31) hx hb dX3_stack_7 (by decide) (fun c_113 => ?_) (fun c_113 => absurd (Int32.le_refl _) c_113)
      refine lv_iconst (v := 0) hx hb dX3_stack_31 (by decide) ?_
      refine lv_istore_n (lv' := [(1, .int 0), (0, .ref o)]) hx hb dX3_stack_32 rfl hl (by decide) rfl (fun ls hl => ?_)
      refine lv_iconst (v := 0) hx hb dX3_stack_33 (by decide) ?_
      refine lv_istore_n (lv' := [(2, .int 0), (1, .int 0), (0, .ref o)]) hx hb dX3_stack_34 rfl hl (by decide) rfl (fun ls hl => ?_)
      have hl := lv_sub hl (l' := [(2, .int 0), (1, .int 0), (0, .ref o)]) [0, 1, 2] rfl
      exact loop2 n 0 (by omega) w as H locs ls (fun z hz => by rw [has z hz]; rfl) hP hD hS hl
    | succ k ih =>
      intro i hi as H locs ls has hP hD hS hl
      refine lv_iload_n hx hb dX3_stack_2 rfl (lv_at hl 0 rfl) ?_
      refine lv_aload_n hx hb dX3_stack_3 rfl (lv_at hl 1 rfl) ?_
      refine va_get (D := D) (ci := 3) (v := .int (nI n)) (C := RX3) (T := TX3) (N := 14) hx hb hts (fun _ h9 => List.mem_cons_of_mem _ (List.mem_append_left _ (List.mem_append_left _ (List.mem_append_left _ (List.mem_append_right _ h9))))) hown hK hP 0 rfl rfl 13 (by decide) (hts (.fieldLink RX3 62 "PalletStack" "lineCount" "I") (List.mem_of_getElem? (i := 1) (by rfl))) (fun _ h9 => h9) rfl dX3_stack_4 ?_
      refine lv_icmp_ge (tgt := 31) hx hb dX3_stack_7 (by decide) (fun c_114 => absurd c_114 (nI_ge (by omega) (by omega))) (fun c_114 => ?_)
      refine lv_aload_n hx hb dX3_stack_10 rfl (lv_at hl 1 rfl) ?_
      refine lv_iload_n hx hb dX3_stack_11 rfl (lv_at hl 0 rfl) ?_
      refine zrdVq (As := [.int (nI i)]) (rest := []) (wc := [(o, .inr (3, [.ref kA, .int 1, .int 1, .int 0, .int 1, .int 0, .ref iA, .int 0, .int 0, .int 0, .ref tA, .ref tr, .ref lA, .int (nI n)])), (lA, .inl (cL, 20, .inr (.inr (.inr (.inr (f))))))]) ⟨hx, hb, hml, hown, hts⟩ (c_lineOf l D _ o kA iA tA tr lA n cL f i (ad i) (by omega) hn (hf i (by omega))) (cwV 1 hts gX3_stack_X3_lineOf rfl rfl rfl (by decide +kernel) ⟨by rw [hRf]; exact Nat.le_of_ble_eq_true rfl, by rw [hRl]; exact Nat.le_of_ble_eq_true rfl⟩) hK hP hD [0, 3] rfl (by decide) [1] rfl (ci := 3) (q0 := 0) rfl rfl rfl hl.1 rfl (Nat.le_of_ble_eq_true rfl) dX3_stack_12 ⟨by omega, by omega⟩ (fun r_115 hr_115 => ?_)
      refine W.eq (g2 := F0 m 15 ls [.ref (ad i)]) (by rw [hr_115]; rfl) ?_
      refine lv_astore_n (lv' := [(2, .ref (ad i)), (1, .int (nI i)), (0, .ref o)]) hx hb dX3_stack_15 rfl hl (by decide) rfl (fun ls hl => ?_)
      refine lv_aload_n hx hb dX3_stack_16 rfl (lv_at hl 0 rfl) ?_
      refine lv_ifnull hx hb dX3_stack_17 ?_
      refine lv_aload_n hx hb dX3_stack_20 rfl (lv_at hl 0 rfl) ?_
      refine lv_iconst (v := 0) hx hb dX3_stack_21 (by decide) ?_
      refine va_put (D := D) (ci := 2) (v := .int 0) (ty := .boolean) (C := RX2) (T := TX2) (N := 3) hx hb hts (fun _ h9 => List.mem_cons_of_mem _ (List.mem_append_left _ (List.mem_append_left _ (List.mem_append_right _ h9)))) tyX2 tyX2_ok nmX2 hown hK hP hD hS (5 + i) (zL_get (by omega) rfl) rfl 2 (by decide) (hts (.fieldLink RX3 156 "PalletStack$Line" "isAside" "Z") (List.mem_of_getElem? (i := 2) (by rfl))) (fun _ h9 => h9) rfl (by decide +kernel) rfl rfl (Nat.le_of_ble_eq_true rfl) dX3_stack_22 (fun H locs hP hD hS => ?_)
      have hP : va_P D vwCl ((([(o, .inr (3, [.ref kA, .int 1, .int 1, .int 0, .int 1, .int 0, .ref iA, .int 0, .int 0, .int 0, .ref tA, .ref tr, .ref lA, .int (nI n)])), (tA, .inl (cT, 120, .inl (fun _ => 0))), (tr, .inr (0, [.int (w 0), .int (w 1), .int (w 2), .int (w 3), .int (w 4), .int (w 5), .int (w 6), .int (w 7), .int (w 8), .int (w 9), .int (w 10), .int (w 11), .int (w 12), .int (w 13), .int (w 14), .int (w 15), .ref su, .ref sc])), (lA, .inl (cL, 20, .inr (.inr (.inr (.inr (f)))))), (k0, .inr (1, [.int 0, .int 1, .int 1, .int 2, .int 1, .int 0, .int 1, .int 0]))] : va_W) ++ zL k0 ad as n).set (5 + i) (ad i, .inr (2, [.ref k0, .int 1, .int 0]))) H := hP
      have hD : va_D A ((([(o, .inr (3, [.ref kA, .int 1, .int 1, .int 0, .int 1, .int 0, .ref iA, .int 0, .int 0, .int 0, .ref tA, .ref tr, .ref lA, .int (nI n)])), (tA, .inl (cT, 120, .inl (fun _ => 0))), (tr, .inr (0, [.int (w 0), .int (w 1), .int (w 2), .int (w 3), .int (w 4), .int (w 5), .int (w 6), .int (w 7), .int (w 8), .int (w 9), .int (w 10), .int (w 11), .int (w 12), .int (w 13), .int (w 14), .int (w 15), .ref su, .ref sc])), (lA, .inl (cL, 20, .inr (.inr (.inr (.inr (f)))))), (k0, .inr (1, [.int 0, .int 1, .int 1, .int 2, .int 1, .int 0, .int 1, .int 0]))] : va_W) ++ zL k0 ad as n).set (5 + i) (ad i, .inr (2, [.ref k0, .int 1, .int 0]))) := hD
      rw [zL_set (X := [(o, .inr (3, [.ref kA, .int 1, .int 1, .int 0, .int 1, .int 0, .ref iA, .int 0, .int 0, .int 0, .ref tA, .ref tr, .ref lA, .int (nI n)])), (tA, .inl (cT, 120, .inl (fun _ => 0))), (tr, .inr (0, [.int (w 0), .int (w 1), .int (w 2), .int (w 3), .int (w 4), .int (w 5), .int (w 6), .int (w 7), .int (w 8), .int (w 9), .int (w 10), .int (w 11), .int (w 12), .int (w 13), .int (w 14), .int (w 15), .ref su, .ref sc])), (lA, .inl (cL, 20, .inr (.inr (.inr (.inr (f)))))), (k0, .inr (1, [.int 0, .int 1, .int 1, .int 2, .int 1, .int 0, .int 1, .int 0]))]) (k := 5) rfl] at hP hD
      have hP : va_P D vwCl (([(o, .inr (3, [.ref kA, .int 1, .int 1, .int 0, .int 1, .int 0, .ref iA, .int 0, .int 0, .int 0, .ref tA, .ref tr, .ref lA, .int (nI n)])), (tA, .inl (cT, 120, .inl (fun _ => 0))), (tr, .inr (0, [.int (w 0), .int (w 1), .int (w 2), .int (w 3), .int (w 4), .int (w 5), .int (w 6), .int (w 7), .int (w 8), .int (w 9), .int (w 10), .int (w 11), .int (w 12), .int (w 13), .int (w 14), .int (w 15), .ref su, .ref sc])), (lA, .inl (cL, 20, .inr (.inr (.inr (.inr (f)))))), (k0, .inr (1, [.int 0, .int 1, .int 1, .int 2, .int 1, .int 0, .int 1, .int 0]))] : va_W) ++ zL k0 ad (upd as i 0) n) H := hP
      have hD : va_D A (([(o, .inr (3, [.ref kA, .int 1, .int 1, .int 0, .int 1, .int 0, .ref iA, .int 0, .int 0, .int 0, .ref tA, .ref tr, .ref lA, .int (nI n)])), (tA, .inl (cT, 120, .inl (fun _ => 0))), (tr, .inr (0, [.int (w 0), .int (w 1), .int (w 2), .int (w 3), .int (w 4), .int (w 5), .int (w 6), .int (w 7), .int (w 8), .int (w 9), .int (w 10), .int (w 11), .int (w 12), .int (w 13), .int (w 14), .int (w 15), .ref su, .ref sc])), (lA, .inl (cL, 20, .inr (.inr (.inr (.inr (f)))))), (k0, .inr (1, [.int 0, .int 1, .int 1, .int 2, .int 1, .int 0, .int 1, .int 0]))] : va_W) ++ zL k0 ad (upd as i 0) n) := hD
      refine lv_iinc (v := (nI (i + 1))) (lv' := [(1, .int (nI (i + 1))), (2, .ref (ad i)), (0, .ref o)]) hx hb dX3_stack_25 hl (k := 1) rfl (nI_1 i) (by decide) rfl (fun ls hl => ?_)
      refine lv_goto (tgt := 2) hx hb dX3_stack_28 (by decide) ?_
      have hl := lv_sub hl (l' := [(1, .int (nI (i + 1))), (0, .ref o)]) [0, 2] rfl
      exact ih (i + 1) (by omega) (upd as i 0) H locs ls (fun z hz => by simp only [upd]; by_cases hzi : z = i; · rw [if_pos hzi]
                                                                         · rw [if_neg hzi]; exact has z (by omega)) hP hD hS hl
  exact loop1 n 0 (by omega) as s.heap [] ls (fun z hz => absurd hz (by omega)) hP hD hS hl
